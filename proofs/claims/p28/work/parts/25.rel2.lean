/-! the relation behind a removal, papers, a job that comes -/
theorem goesF_at {r : Int → Int} {p k : Int} (hp : 0 ≤ p) (h : k < 85) (h0 : ¬ k = 0) : goesF r p k = r k := by
  unfold goesF sh10 sbn
  rw [if_neg (by omega), up1_ne h0]
theorem goesF_0 {r : Int → Int} {p : Int} (hp : 0 ≤ p) : goesF r p 0 = r 0 - 1 := by
  unfold goesF sh10 sbn
  rw [if_neg (by omega), up1_at]
theorem goesF_lo {r : Int → Int} {p j w : Int} (hp : 0 ≤ p) (h : j < p) (hj : 0 ≤ j) (h0 : 0 ≤ w) (h1 : w < 10) : jf (goesF r p) j w = jf r j w := by
  unfold jf goesF sh10 sbn
  rw [if_neg (by omega), up1_ne (by omega)]
theorem goesF_hi {r : Int → Int} {p j w : Int} (hp : 0 ≤ p) (h : p ≤ j) (hj : j < r 0 - 1) (h0 : 0 ≤ w) (h1 : w < 10) : jf (goesF r p) j w = jf r (j + 1) w := by
  unfold jf goesF sh10 sbn
  rw [if_pos (by omega), up1_ne (by omega), show 85 + 10 * j + w + 10 = 85 + 10 * (j + 1) + w by omega]
theorem rmQ_lo {π : Int → Nat} {p s j : Int} (h : j < p) (hs : p < s) : rmQ π p s j = π j := by
  unfold rmQ rmP
  rw [up1_ne (by omega), if_neg (by omega)]
theorem rmQ_mid {π : Int → Nat} {p s j : Int} (h : p ≤ j) (hs : j < s - 1) : rmQ π p s j = π (j + 1) := by
  unfold rmQ rmP
  rw [up1_ne (by omega), if_pos (by omega)]
theorem rmQ_last {π : Int → Nat} {p s : Int} : rmQ π p s (s - 1) = π p := up1_at
theorem rmQ_hi {π : Int → Nat} {p s j : Int} (h : s ≤ j) : rmQ π p s j = π j := by
  unfold rmQ rmP
  rw [up1_ne (by omega), if_neg (by omega)]
theorem rmQ_g {π : Int → Nat} {p s : Int} (hp : 0 ≤ p) (hs : p < s) (h10 : s ≤ 10) : ∃ g : Int → Int, (∀ j, 0 ≤ j → j < 10 → 0 ≤ g j ∧ g j < 10 ∧ rmQ π p s j = π (g j)) ∧ ∀ i j, 0 ≤ i → i < 10 → 0 ≤ j → j < 10 → g i = g j → i = j := by
  refine ⟨fun j => if j < p ∨ s ≤ j then j else if j = s - 1 then p else j + 1, fun j a d => ?_, fun i j a d e f z => ?_⟩
  · by_cases y : j < p ∨ s ≤ j
    · simp only [if_pos y]
      refine ⟨a, d, ?_⟩
      rcases y with y | y
      · exact rmQ_lo y hs
      · exact rmQ_hi y
    · simp only [if_neg y]
      by_cases y2 : j = s - 1
      · simp only [if_pos y2]
        refine ⟨hp, by omega, ?_⟩
        rw [y2]
        exact rmQ_last
      · simp only [if_neg y2]
        exact ⟨by omega, by omega, rmQ_mid (by omega) (by omega)⟩
  · simp only at z
    split at z <;> split at z <;> (try split at z) <;> (try split at z) <;> omega
theorem PI_rm {π : Int → Nat} {p s : Int} (hP : PI π) (hp : 0 ≤ p) (hs : p < s) (h10 : s ≤ 10) : PI (rmQ π p s) := by
  obtain ⟨g, g1, g2⟩ := rmQ_g (π := π) hp hs h10
  refine ⟨fun j a d => ?_, fun i j a d e f z => ?_⟩
  · rw [(g1 j a d).2.2]
    exact hP.1 _ (g1 j a d).1 (g1 j a d).2.1
  · rw [(g1 i a d).2.2, (g1 j e f).2.2] at z
    exact g2 i j a d e f (hP.2 _ _ (g1 i a d).1 (g1 i a d).2.1 (g1 j e f).1 (g1 j e f).2.1 z)
theorem MR_goes {c : Nat → Int → Int} {π : Int → Nat} {r : Int → Int} {p : Int} (h0 : r 0 ≤ 10) (h9 : r 9 ≤ 16) (m : MR c π r) (hp : 0 ≤ p ∧ p < r 0) : MR (up2 c 5 1 (r 0 - 1)) (rmQ π p (r 0)) (goesF r p) := by
  have g : ∀ k, k < 85 → ¬ k = 0 → goesF r p k = r k := fun k a d => goesF_at hp.1 a d
  refine ⟨fun t a d => ?_, ⟨fun t a d => ?_, ?_, ?_, fun t a d => ?_⟩, fun t a d => ?_, ?_, ?_⟩
  · rw [g _ (by omega) (by omega), g _ (by omega) (by omega), g _ (by omega) (by omega), up2_o (by omega), up2_o (by omega), up2_o (by omega)]
    exact m.1 t a d
  · rw [g _ (by omega) (by omega), up2_o (by omega)]
    exact m.2.1.1 t a d
  · rw [g _ (by omega) (by omega), up2_o (by omega)]
    exact m.2.1.2.1
  · rw [g _ (by omega) (by omega), up2_o (by omega)]
    exact m.2.1.2.2.1
  · rw [g 9 (by omega) (by omega)] at d
    rw [g _ (by omega) (by omega), g _ (by omega) (by omega), g _ (by omega) (by omega), up2_o (by omega), up2_o (by omega), up2_o (by omega)]
    exact m.2.1.2.2.2 t a d
  · rw [g _ (by omega) (by omega), up2_o (by omega)]
    exact m.2.2.1 t a d
  · obtain ⟨k1, k2, k3, k4, k5⟩ := m.2.2.2.1
    unfold KR
    rw [g 3 (by decide) (by decide), g 2 (by decide) (by decide), g 5 (by decide) (by decide), g 6 (by decide) (by decide), g 4 (by decide) (by decide)]
    simp (disch := omega) only [up2_o]
    exact ⟨k1, k2, k3, k4, k5⟩
  · obtain ⟨a1, a2, a3, a4, a5⟩ := m.2.2.2.2
    refine ⟨by rw [up2_e, goesF_0 hp.1], by rw [g 1 (by decide) (by decide), up2_o (by omega)]; exact a2, by rw [g 7 (by decide) (by decide), up2_o (by omega)]; exact a3, PI_rm a4 hp.1 hp.2 h0, fun j u v => ?_⟩
    rw [goesF_0 hp.1] at v
    by_cases y : j < p
    · rw [rmQ_lo y hp.2]
      have pj := a4.1 j u (by omega)
      exact JR_r (fun w f h => goesF_lo hp.1 y u f h) (JR_c (fun q f h => up2_o (by omega)) (a5 j u (by omega)))
    · rw [rmQ_mid (by omega) v]
      have pj := a4.1 (j + 1) (by omega) (by omega)
      exact JR_r (fun w f h => goesF_hi hp.1 (by omega) v f h) (JR_c (fun q f h => up2_o (by omega)) (a5 (j + 1) (by omega) (by omega)))
theorem MR_pap1 {c : Nat → Int → Int} {π : Int → Nat} {r : Int → Int} {x k : Int} (h0 : r 0 ≤ 10) (h9 : r 9 ≤ 16) (m : MR c π r) (hk : 0 ≤ k ∧ k < r 9) : MR (up2 c 21 k x) π (up1 r (37 + 3 * k + 2) x) := by
  refine ⟨TR_r (by omega) (TR_c (by omega) m.1), ?_, SR_r (by omega) (SR_c (by omega) m.2.2.1), KR_r (by omega) (KR_c (by omega) m.2.2.2.1), QR_r (by omega) (QR_c (by omega) h0 m.2.2.2.2)⟩
  have e9 : up1 r (37 + 3 * k + 2) x 9 = r 9 := up1_ne (by omega)
  refine ⟨fun t a d => by rw [up2_o (by omega), up1_ne (by omega)]; exact m.2.1.1 t a d, by rw [e9, up2_o (by omega)]; exact m.2.1.2.1, by rw [up2_o (by omega), up1_ne (by omega)]; exact m.2.1.2.2.1, fun t a d => ?_⟩
  rw [e9] at d
  have y := m.2.1.2.2.2 t a d
  rw [up2_o (by omega), up2_o (by omega), up1_ne (by omega), up1_ne (by omega)]
  refine ⟨y.1, y.2.1, ?_⟩
  by_cases e : t = k
  · rw [e, up2_e, up1_at]
  · rw [up2_o (by omega), up1_ne (by omega)]
    exact y.2.2
theorem MR_pap2 {c : Nat → Int → Int} {π : Int → Nat} {r : Int → Int} {k s q : Int} (h0 : r 0 ≤ 10) (m : MR c π r) (hk : 0 ≤ k ∧ k < 16) (h9 : r 9 = k) : MR (up2 (up2 (up2 (up2 c 19 k s) 20 k q) 21 k 1) 17 4 (k + 1)) π (inc (inc (up1 (up1 (up1 r (37 + 3 * k) s) (37 + 3 * k + 1) q) (37 + 3 * k + 2) 0) 9) (37 + 3 * k + 2)) := by
  subst h9
  have e : inc (inc (up1 (up1 (up1 r (37 + 3 * r 9) s) (37 + 3 * r 9 + 1) q) (37 + 3 * r 9 + 2) 0) 9) (37 + 3 * r 9 + 2) = up1 (up1 (up1 (up1 r (37 + 3 * r 9) s) (37 + 3 * r 9 + 1) q) (37 + 3 * r 9 + 2) 1) 9 (r 9 + 1) := by
    unfold inc
    funext z
    unfold up1
    (repeat' split) <;> first | rfl | omega
  rw [e]
  refine ⟨TR_r (by omega) (TR_r (by omega) (TR_r (by omega) (TR_r (by omega) (TR_c (by omega) (TR_c (by omega) (TR_c (by omega) (TR_c (by omega) m.1))))))), ?_, SR_r (by omega) (SR_r (by omega) (SR_r (by omega) (SR_r (by omega) (SR_c (by omega) (SR_c (by omega) (SR_c (by omega) (SR_c (by omega) m.2.2.1))))))), KR_r (by omega) (KR_r (by omega) (KR_r (by omega) (KR_r (by omega) (KR_c (by omega) (KR_c (by omega) (KR_c (by omega) (KR_c (by omega) m.2.2.2.1))))))), QR_r (by omega) (QR_r (by omega) (QR_r (by omega) (QR_r (by omega) (QR_c (by omega) h0 (QR_c (by omega) h0 (QR_c (by omega) h0 (QR_c (by omega) h0 m.2.2.2.2)))))))⟩
  refine ⟨fun t a d => ?_, ?_, ?_, fun t a d => ?_⟩
  · simp (disch := omega) only [up2_o, up1_ne]
    exact m.2.1.1 t a d
  · rw [up2_e, up1_at]
  · simp (disch := omega) only [up2_o, up1_ne]
    exact m.2.1.2.2.1
  · rw [up1_at] at d
    by_cases y : t = r 9
    · subst y
      simp (disch := omega) only [up2_o, up2_e, up1_ne, up1_at]
      exact ⟨trivial, trivial, trivial⟩
    · simp (disch := omega) only [up2_o, up1_ne]
      exact m.2.1.2.2.2 t a (by omega)
/-- a draft's cells -/
def DR (d : Int → Int) (pg cp sz kd hw : Int) : Prop := d 1 = pg ∧ d 2 = cp ∧ d 3 = sz ∧ d 4 = kd ∧ d 5 = hw ∧ d 6 = hw % 2 ∧ d 7 = hw / 2 % 2 ∧ d 8 = hw / 4 ∧ d 9 = sof pg hw ∧ d 10 = sof pg hw * cp ∧ d 11 = 0 ∧ d 12 = 0 ∧ d 13 = 0 ∧ d 14 = 0
theorem comesF_lo {r : Int → Int} {pg cp sz kd hw k : Int} (h0 : 0 ≤ r 0) (hk : k < 85 + 10 * r 0) (h1 : ¬ k = 0) (h2 : ¬ k = 1) : comesF r pg cp sz kd hw k = r k := by
  unfold comesF inc
  simp (disch := omega) only [up1_ne]
theorem comesF_1 {r : Int → Int} {pg cp sz kd hw : Int} (h0 : 0 ≤ r 0) : comesF r pg cp sz kd hw 1 = r 1 + 1 := by
  unfold comesF inc
  rw [up1_at]
  simp (disch := omega) only [up1_ne]
theorem comesF_j {r : Int → Int} {pg cp sz kd hw : Int} (h0 : 0 ≤ r 0) : jf (comesF r pg cp sz kd hw) (r 0) 0 = r 1 ∧ jf (comesF r pg cp sz kd hw) (r 0) 1 = pg ∧ jf (comesF r pg cp sz kd hw) (r 0) 2 = cp ∧ jf (comesF r pg cp sz kd hw) (r 0) 3 = sz ∧ jf (comesF r pg cp sz kd hw) (r 0) 4 = kd ∧ jf (comesF r pg cp sz kd hw) (r 0) 5 = hw ∧ jf (comesF r pg cp sz kd hw) (r 0) 6 = 0 ∧ jf (comesF r pg cp sz kd hw) (r 0) 7 = 0 ∧ jf (comesF r pg cp sz kd hw) (r 0) 8 = 0 ∧ jf (comesF r pg cp sz kd hw) (r 0) 9 = 0 := by
  unfold comesF inc jf
  refine ⟨?_, ?_, ?_, ?_, ?_, ?_, ?_, ?_, ?_, ?_⟩ <;> (unfold up1; (repeat' split) <;> first | rfl | (exfalso; omega) | omega)
theorem MR_comes {c c' : Nat → Int → Int} {π : Int → Nat} {r d : Int → Int} {pg cp sz kd hw : Int} (h0 : 0 ≤ r 0 ∧ r 0 < 10) (h9 : r 9 ≤ 16) (m : MR c π r) (hd : DR d pg cp sz kd hw) (e0 : c' (π (r 0)) 0 = r 1) (e1 : ∀ q : Int, 1 ≤ q → q < 15 → c' (π (r 0)) q = d q) (e5 : c' 5 = up1 (up1 (c 5) 1 (r 0 + 1)) 2 (r 1 + 1)) (eo : ∀ a : Nat, ¬ a = π (r 0) → ¬ a = 5 → c' a = c a) : MR c' π (comesF r pg cp sz kd hw) := by
  obtain ⟨a1, a2, a3, a4, a5⟩ := m.2.2.2.2
  have pp := a4.1 (r 0) h0.1 h0.2
  have g : ∀ k, k < 85 → ¬ k = 0 → ¬ k = 1 → comesF r pg cp sz kd hw k = r k := fun k a b d => comesF_lo h0.1 (by omega) b d
  have eo2 : ∀ a : Nat, (a < 7 ∨ 16 < a) → ¬ a = 5 → c' a = c a := fun a x y => eo a (by omega) y
  have z0 := comesF_0 (r := r) (pg := pg) (cp := cp) (sz := sz) (kd := kd) (hw := hw) h0.1
  refine ⟨fun t a b => ?_, ⟨fun t a b => ?_, ?_, ?_, fun t a b => ?_⟩, fun t a b => ?_, ?_, ?_⟩
  · rw [g _ (by omega) (by omega) (by omega), g _ (by omega) (by omega) (by omega), g _ (by omega) (by omega) (by omega), eo2 2 (by omega) (by omega), eo2 3 (by omega) (by omega), eo2 4 (by omega) (by omega)]
    exact m.1 t a b
  · rw [g _ (by omega) (by omega) (by omega), eo2 18 (by omega) (by omega)]
    exact m.2.1.1 t a b
  · rw [g _ (by omega) (by omega) (by omega), eo2 17 (by omega) (by omega)]
    exact m.2.1.2.1
  · rw [g _ (by omega) (by omega) (by omega), eo2 17 (by omega) (by omega)]
    exact m.2.1.2.2.1
  · rw [g 9 (by omega) (by omega) (by omega)] at b
    rw [g _ (by omega) (by omega) (by omega), g _ (by omega) (by omega) (by omega), g _ (by omega) (by omega) (by omega), eo2 19 (by omega) (by omega), eo2 20 (by omega) (by omega), eo2 21 (by omega) (by omega)]
    exact m.2.1.2.2.2 t a b
  · rw [g _ (by omega) (by omega) (by omega), eo2 22 (by omega) (by omega)]
    exact m.2.2.1 t a b
  · unfold KR
    rw [g 3 (by decide) (by decide) (by decide), g 2 (by decide) (by decide) (by decide), g 5 (by decide) (by decide) (by decide), g 6 (by decide) (by decide) (by decide), g 4 (by decide) (by decide) (by decide), eo2 0 (by omega) (by omega)]
    exact m.2.2.2.1
  · refine ⟨?_, ?_, ?_, a4, fun j u v => ?_⟩
    · rw [e5, z0, up1_ne (by decide), up1_at]
    · rw [e5, comesF_1 h0.1, up1_at]
    · rw [e5, g 7 (by decide) (by decide) (by decide), up1_ne (by decide), up1_ne (by decide)]
      exact a3
    · rw [z0] at v
      by_cases y : j = r 0
      · subst y
        obtain ⟨b0, b1, b2, b3, b4, b5, b6, b7, b8, b9⟩ := comesF_j (r := r) (pg := pg) (cp := cp) (sz := sz) (kd := kd) (hw := hw) h0.1
        obtain ⟨d1, d2, d3, d4, d5, d6, d7, d8, d9, d10, d11, d12, d13, d14⟩ := hd
        have s1 : sst (comesF r pg cp sz kd hw) (r 0) = sof pg hw := by unfold sst; rw [b1, b5]
        have s2 : als (comesF r pg cp sz kd hw) (r 0) = sof pg hw * cp := by unfold als; rw [s1, b2]
        unfold JR
        rw [b0, b1, b2, b3, b4, b5, b6, b7, b8, b9, s1, s2, e1 1 (by decide) (by decide), e1 2 (by decide) (by decide), e1 3 (by decide) (by decide), e1 4 (by decide) (by decide), e1 5 (by decide) (by decide), e1 6 (by decide) (by decide), e1 7 (by decide) (by decide), e1 8 (by decide) (by decide), e1 9 (by decide) (by decide), e1 10 (by decide) (by decide), e1 11 (by decide) (by decide), e1 12 (by decide) (by decide), e1 13 (by decide) (by decide), e1 14 (by decide) (by decide)]
        exact ⟨e0, d1, d2, d3, d4, d5, d6, d7, d8, d9, d10, d11, d12, d13, d14⟩
      · have pj := a4.1 j u (by omega)
        have hne : ¬ π j = π (r 0) := fun z => y (a4.2 _ _ u (by omega) h0.1 h0.2 z)
        refine JR_r (fun w f h => comesF_lo h0.1 (by omega) (by omega) (by omega)) (JR_c (fun q f h => ?_) (a5 j u (by omega)))
        rw [eo _ hne (by omega)]
