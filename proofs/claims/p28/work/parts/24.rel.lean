/-! the relation behind a change -/
theorem TR_c {c : Nat → Int → Int} {r : Int → Int} {i : Nat} {k x : Int} (h : ¬ i = 2 ∧ ¬ i = 3 ∧ ¬ i = 4) (m : TR c r) : TR (up2 c i k x) r := fun t a d => by
  rw [up2_o (by omega), up2_o (by omega), up2_o (by omega)]
  exact m t a d
theorem TR_r {c : Nat → Int → Int} {r : Int → Int} {k x : Int} (h : k < 25 ∨ 37 ≤ k) (m : TR c r) : TR c (up1 r k x) := fun t a d => by
  rw [up1_ne (by omega), up1_ne (by omega), up1_ne (by omega)]
  exact m t a d
theorem LR_c {c : Nat → Int → Int} {r : Int → Int} {i : Nat} {k x : Int} (h : i < 17 ∨ 21 < i) (m : LR c r) : LR (up2 c i k x) r := ⟨fun t a d => by rw [up2_o (by omega)]; exact m.1 t a d, by rw [up2_o (by omega)]; exact m.2.1, by rw [up2_o (by omega)]; exact m.2.2.1, fun t a d => by
  rw [up2_o (by omega), up2_o (by omega), up2_o (by omega)]
  exact m.2.2.2 t a d⟩
theorem LR_r {c : Nat → Int → Int} {r : Int → Int} {k x : Int} (h : (k < 37 ∨ 85 ≤ k) ∧ ¬ k = 8 ∧ ¬ k = 9 ∧ (k < 16 ∨ 25 ≤ k)) (h9 : r 9 ≤ 16) (m : LR c r) : LR c (up1 r k x) := by
  have e9 : up1 r k x 9 = r 9 := up1_ne (by omega)
  refine ⟨fun t a d => by rw [up1_ne (by omega)]; exact m.1 t a d, by rw [e9]; exact m.2.1, by rw [up1_ne (by omega)]; exact m.2.2.1, fun t a d => ?_⟩
  rw [e9] at d
  rw [up1_ne (by omega), up1_ne (by omega), up1_ne (by omega)]
  exact m.2.2.2 t a d
theorem SR_c {c : Nat → Int → Int} {r : Int → Int} {i : Nat} {k x : Int} (h : ¬ i = 22) (m : SR c r) : SR (up2 c i k x) r := fun t a d => by
  rw [up2_o (by omega)]
  exact m t a d
theorem SR_r {c : Nat → Int → Int} {r : Int → Int} {k x : Int} (h : k < 10 ∨ 16 ≤ k) (m : SR c r) : SR c (up1 r k x) := fun t a d => by
  rw [up1_ne (by omega)]
  exact m t a d
theorem KR_c {c : Nat → Int → Int} {r : Int → Int} {i : Nat} {k x : Int} (h : ¬ i = 0) (m : KR c r) : KR (up2 c i k x) r := by
  unfold KR
  rw [up2_o (by omega), up2_o (by omega), up2_o (by omega), up2_o (by omega), up2_o (by omega)]
  exact m
theorem KR_r {c : Nat → Int → Int} {r : Int → Int} {k x : Int} (h : k < 2 ∨ 6 < k) (m : KR c r) : KR c (up1 r k x) := by
  unfold KR
  rw [up1_ne (by omega), up1_ne (by omega), up1_ne (by omega), up1_ne (by omega), up1_ne (by omega)]
  exact m
theorem JR_c {c c' : Nat → Int → Int} {i : Nat} {r : Int → Int} {p : Int} (h : ∀ m : Int, 0 ≤ m → m < 15 → c' i m = c i m) (m : JR c i r p) : JR c' i r p := by
  unfold JR at m ⊢
  rw [h 0 (by decide) (by decide), h 1 (by decide) (by decide), h 2 (by decide) (by decide), h 3 (by decide) (by decide), h 4 (by decide) (by decide), h 5 (by decide) (by decide), h 6 (by decide) (by decide), h 7 (by decide) (by decide), h 8 (by decide) (by decide), h 9 (by decide) (by decide), h 10 (by decide) (by decide), h 11 (by decide) (by decide), h 12 (by decide) (by decide), h 13 (by decide) (by decide), h 14 (by decide) (by decide)]
  exact m
theorem sst_ext {r r' : Int → Int} {p p' : Int} (h : ∀ w, 0 ≤ w → w < 10 → jf r' p' w = jf r p w) : sst r' p' = sst r p ∧ als r' p' = als r p := by
  unfold als sst
  rw [h 1 (by decide) (by decide), h 2 (by decide) (by decide), h 5 (by decide) (by decide)]
  exact ⟨rfl, rfl⟩
theorem JR_r {c : Nat → Int → Int} {i : Nat} {r r' : Int → Int} {p p' : Int} (h : ∀ w, 0 ≤ w → w < 10 → jf r' p' w = jf r p w) (m : JR c i r p) : JR c i r' p' := by
  have e := sst_ext h
  unfold JR at m ⊢
  rw [h 0 (by decide) (by decide), h 1 (by decide) (by decide), h 2 (by decide) (by decide), h 3 (by decide) (by decide), h 4 (by decide) (by decide), h 5 (by decide) (by decide), h 6 (by decide) (by decide), h 7 (by decide) (by decide), h 8 (by decide) (by decide), h 9 (by decide) (by decide), e.1, e.2]
  exact m
theorem QR_c {c : Nat → Int → Int} {π : Int → Nat} {r : Int → Int} {i : Nat} {k x : Int} (h : ¬ i = 5 ∧ (i < 7 ∨ 16 < i)) (h0 : r 0 ≤ 10) (m : QR c π r) : QR (up2 c i k x) π r := by
  obtain ⟨a1, a2, a3, a4, a5⟩ := m
  refine ⟨by rw [up2_o (by omega)]; exact a1, by rw [up2_o (by omega)]; exact a2, by rw [up2_o (by omega)]; exact a3, a4, fun j u v => JR_c (fun m f g => ?_) (a5 j u v)⟩
  have pj := a4.1 j u (by omega)
  exact up2_o (by omega)
theorem QR_r {c : Nat → Int → Int} {π : Int → Nat} {r : Int → Int} {k x : Int} (h : ¬ k = 0 ∧ ¬ k = 1 ∧ ¬ k = 7 ∧ k < 85) (m : QR c π r) : QR c π (up1 r k x) := by
  obtain ⟨a1, a2, a3, a4, a5⟩ := m
  have e0 : up1 r k x 0 = r 0 := up1_ne (by omega)
  refine ⟨by rw [e0]; exact a1, by rw [up1_ne (by omega)]; exact a2, by rw [up1_ne (by omega)]; exact a3, a4, fun j u v => ?_⟩
  rw [e0] at v
  exact JR_r (fun w f g => jf_up1 (by omega) f g) (a5 j u v)
theorem MR_acc {c : Nat → Int → Int} {π : Int → Nat} {r : Int → Int} {x : Int} (h0 : r 0 ≤ 10) (h9 : r 9 ≤ 16) (m : MR c π r) {w : Int} (hw : 0 ≤ w ∧ w < 9) : MR (up2 c 18 w x) π (up1 r (16 + w) x) := by
  refine ⟨TR_r (by omega) (TR_c (by omega) m.1), ?_, SR_r (by omega) (SR_c (by omega) m.2.2.1), KR_r (by omega) (KR_c (by omega) m.2.2.2.1), QR_r (by omega) (QR_c (by omega) h0 m.2.2.2.2)⟩
  refine ⟨fun t a d => ?_, by rw [up2_o (by omega), up1_ne (by omega)]; exact m.2.1.2.1, by rw [up2_o (by omega), up1_ne (by omega)]; exact m.2.1.2.2.1, fun t a d => ?_⟩
  · by_cases e : t = w
    · rw [e, up2_e, up1_at]
    · rw [up2_o (by omega), up1_ne (by omega)]
      exact m.2.1.1 t a d
  · rw [up1_ne (by omega)] at d
    rw [up2_o (by omega), up2_o (by omega), up2_o (by omega), up1_ne (by omega), up1_ne (by omega), up1_ne (by omega)]
    exact m.2.1.2.2.2 t a d
theorem MR_sta {c : Nat → Int → Int} {π : Int → Nat} {r : Int → Int} {x : Int} (h0 : r 0 ≤ 10) (h9 : r 9 ≤ 16) (m : MR c π r) : MR (up2 c 0 4 x) π (up1 r 3 x) := by
  refine ⟨TR_r (by omega) (TR_c (by omega) m.1), LR_r (by omega) h9 (LR_c (by omega) m.2.1), SR_r (by omega) (SR_c (by omega) m.2.2.1), ?_, QR_r (by omega) (QR_c (by omega) h0 m.2.2.2.2)⟩
  obtain ⟨k1, k2, k3, k4, k5⟩ := m.2.2.2.1
  unfold KR
  simp (disch := omega) only [up2_o, up2_e, up1_ne, up1_at]
  first | exact ⟨rfl, k2, k3, k4, k5⟩ | exact ⟨k1, rfl, k3, k4, k5⟩ | exact ⟨k1, k2, k3, k4, rfl⟩ | exact ⟨k2, k3, k4, k5⟩ | exact ⟨k1, k3, k4, k5⟩ | exact ⟨k1, k2, k3, k4⟩ | (simp only [true_and, and_true]; first | exact ⟨k2, k3, k4, k5⟩ | exact ⟨k1, k3, k4, k5⟩ | exact ⟨k1, k2, k3, k4⟩)
theorem MR_bin {c : Nat → Int → Int} {π : Int → Nat} {r : Int → Int} {x : Int} (h0 : r 0 ≤ 10) (h9 : r 9 ≤ 16) (m : MR c π r) : MR (up2 c 0 5 x) π (up1 r 2 x) := by
  refine ⟨TR_r (by omega) (TR_c (by omega) m.1), LR_r (by omega) h9 (LR_c (by omega) m.2.1), SR_r (by omega) (SR_c (by omega) m.2.2.1), ?_, QR_r (by omega) (QR_c (by omega) h0 m.2.2.2.2)⟩
  obtain ⟨k1, k2, k3, k4, k5⟩ := m.2.2.2.1
  unfold KR
  simp (disch := omega) only [up2_o, up2_e, up1_ne, up1_at]
  first | exact ⟨rfl, k2, k3, k4, k5⟩ | exact ⟨k1, rfl, k3, k4, k5⟩ | exact ⟨k1, k2, k3, k4, rfl⟩ | exact ⟨k2, k3, k4, k5⟩ | exact ⟨k1, k3, k4, k5⟩ | exact ⟨k1, k2, k3, k4⟩ | (simp only [true_and, and_true]; first | exact ⟨k2, k3, k4, k5⟩ | exact ⟨k1, k3, k4, k5⟩ | exact ⟨k1, k2, k3, k4⟩)
theorem MR_tik {c : Nat → Int → Int} {π : Int → Nat} {r : Int → Int} {x : Int} (h0 : r 0 ≤ 10) (h9 : r 9 ≤ 16) (m : MR c π r) : MR (up2 c 0 8 x) π (up1 r 4 x) := by
  refine ⟨TR_r (by omega) (TR_c (by omega) m.1), LR_r (by omega) h9 (LR_c (by omega) m.2.1), SR_r (by omega) (SR_c (by omega) m.2.2.1), ?_, QR_r (by omega) (QR_c (by omega) h0 m.2.2.2.2)⟩
  obtain ⟨k1, k2, k3, k4, k5⟩ := m.2.2.2.1
  unfold KR
  simp (disch := omega) only [up2_o, up2_e, up1_ne, up1_at]
  first | exact ⟨rfl, k2, k3, k4, k5⟩ | exact ⟨k1, rfl, k3, k4, k5⟩ | exact ⟨k1, k2, k3, k4, rfl⟩ | exact ⟨k2, k3, k4, k5⟩ | exact ⟨k1, k3, k4, k5⟩ | exact ⟨k1, k2, k3, k4⟩ | (simp only [true_and, and_true]; first | exact ⟨k2, k3, k4, k5⟩ | exact ⟨k1, k3, k4, k5⟩ | exact ⟨k1, k2, k3, k4⟩)
theorem MR_wrk {c : Nat → Int → Int} {π : Int → Nat} {r : Int → Int} (h0 : r 0 ≤ 10) (h9 : r 9 ≤ 16) (m : MR c π r) {v j : Int} : MR (up2 (up2 c 0 6 v) 0 7 j) π (up1 (up1 r 5 v) 6 j) := by
  have e9 : up1 r 5 v 9 = r 9 := up1_ne (by decide)
  have e0 : up1 r 5 v 0 = r 0 := up1_ne (by decide)
  refine ⟨TR_r (by omega) (TR_r (by omega) (TR_c (by omega) (TR_c (by omega) m.1))), LR_r (by omega) (by omega) (LR_r (by omega) h9 (LR_c (by omega) (LR_c (by omega) m.2.1))), SR_r (by omega) (SR_r (by omega) (SR_c (by omega) (SR_c (by omega) m.2.2.1))), ?_, QR_r (by omega) (QR_r (by omega) (QR_c (by omega) h0 (QR_c (by omega) h0 m.2.2.2.2)))⟩
  obtain ⟨k1, k2, k3, k4, k5⟩ := m.2.2.2.1
  refine ⟨?_, ?_, ?_, fun _ => ?_, ?_⟩ <;> simp (disch := omega) only [up2_o, up2_e, up1_ne, up1_at] <;> assumption
theorem MR_end {c : Nat → Int → Int} {π : Int → Nat} {r : Int → Int} (h0 : r 0 ≤ 10) (h9 : r 9 ≤ 16) (m : MR c π r) (z : r 4 = 0) : MR (up2 c 0 6 0) π (endsF r) := by
  have e4 : endsF r 4 = 0 := by unfold endsF; simp (disch := omega) only [up1_ne, up1_at]
  have e5 : endsF r 5 = 0 := by unfold endsF; simp (disch := omega) only [up1_ne, up1_at]
  refine ⟨?_, ?_, ?_, ?_, ?_⟩
  · unfold endsF
    exact TR_r (by omega) (TR_r (by omega) (TR_r (by omega) (TR_c (by omega) m.1)))
  · unfold endsF
    have a : up1 r 4 0 9 = r 9 := up1_ne (by decide)
    have d : up1 (up1 r 4 0) 5 0 9 = r 9 := by rw [up1_ne (by decide)]; exact a
    exact LR_r (by omega) (by omega) (LR_r (by omega) (by omega) (LR_r (by omega) h9 (LR_c (by omega) m.2.1)))
  · unfold endsF
    exact SR_r (by omega) (SR_r (by omega) (SR_r (by omega) (SR_c (by omega) m.2.2.1)))
  · obtain ⟨k1, k2, k3, k4, k5⟩ := m.2.2.2.1
    refine ⟨?_, ?_, ?_, fun y => absurd e5 y, ?_⟩
    · rw [endsF_at (by decide), up2_o (by omega)]; exact k1
    · rw [endsF_at (by decide), up2_o (by omega)]; exact k2
    · rw [e5, up2_e]
    · rw [e4, up2_o (by omega), k5, z]
  · unfold endsF
    exact QR_r (by omega) (QR_r (by omega) (QR_r (by omega) (QR_c (by omega) h0 m.2.2.2.2)))
theorem MR_end2 {c : Nat → Int → Int} {π : Int → Nat} {r : Int → Int} (h0 : r 0 ≤ 10) (h9 : r 9 ≤ 16) (m : MR c π r) : MR (up2 (up2 c 0 6 0) 0 8 0) π (endsF r) := by
  have h := MR_end (r := up1 r 4 0) (c := up2 c 0 8 0) (by rw [up1_ne (by decide)]; exact h0) (by rw [up1_ne (by decide)]; exact h9) (MR_tik h0 h9 m) up1_at
  have e1 : endsF (up1 r 4 0) = endsF r := by
    unfold endsF
    have : up1 (up1 r 4 0) 4 0 = up1 r 4 0 := by funext q; unfold up1; split <;> rfl
    rw [this]
  have e2 : up2 (up2 c 0 8 0) 0 6 0 = up2 (up2 c 0 6 0) 0 8 0 := by
    funext a q
    unfold up2
    (repeat' split) <;> first | rfl | (exfalso; omega)
  rw [e1, e2] at h
  exact h
theorem MR_fin {c : Nat → Int → Int} {π : Int → Nat} {r : Int → Int} {x : Int} (h0 : r 0 ≤ 10) (h9 : r 9 ≤ 16) (m : MR c π r) : MR (up2 c 17 5 x) π (up1 r 8 x) := by
  refine ⟨TR_r (by omega) (TR_c (by omega) m.1), ?_, SR_r (by omega) (SR_c (by omega) m.2.2.1), KR_r (by omega) (KR_c (by omega) m.2.2.2.1), QR_r (by omega) (QR_c (by omega) h0 m.2.2.2.2)⟩
  refine ⟨fun t a d => ?_, by rw [up2_o (by omega), up1_ne (by omega)]; exact m.2.1.2.1, by rw [up2_e, up1_at], fun t a d => ?_⟩
  · rw [up2_o (by omega), up1_ne (by omega)]
    exact m.2.1.1 t a d
  · rw [up1_ne (by omega)] at d
    rw [up2_o (by omega), up2_o (by omega), up2_o (by omega), up1_ne (by omega), up1_ne (by omega), up1_ne (by omega)]
    exact m.2.1.2.2.2 t a d
theorem MR_lat {c : Nat → Int → Int} {π : Int → Nat} {r : Int → Int} {x : Int} (h0 : r 0 ≤ 10) (h9 : r 9 ≤ 16) (m : MR c π r) {y : Int} (hx : (x = -4 ∧ y = -1) ∨ (0 ≤ x ∧ y = x)) : MR (up2 c 5 3 y) π (up1 r 7 x) := by
  refine ⟨TR_r (by omega) (TR_c (by omega) m.1), LR_r (by omega) h9 (LR_c (by omega) m.2.1), SR_r (by omega) (SR_c (by omega) m.2.2.1), KR_r (by omega) (KR_c (by omega) m.2.2.2.1), ?_⟩
  obtain ⟨a1, a2, a3, a4, a5⟩ := m.2.2.2.2
  have e0 : up1 r 7 x 0 = r 0 := up1_ne (by decide)
  refine ⟨by rw [e0, up2_o (by omega)]; exact a1, by rw [up2_o (by omega), up1_ne (by omega)]; exact a2, by rw [up2_e, up1_at]; exact hx, a4, fun j u v => ?_⟩
  rw [e0] at v
  have pj := a4.1 j u (by omega)
  exact JR_r (fun w f g => jf_up1 (by omega) f g) (JR_c (fun m f g => up2_o (by omega)) (a5 j u v))
theorem MR_tray {c : Nat → Int → Int} {π : Int → Nat} {r : Int → Int} {x : Int} (h0 : r 0 ≤ 10) (h9 : r 9 ≤ 16) (m : MR c π r) {t : Int} (ht : 0 ≤ t ∧ t < 4) : MR (up2 c 4 t x) π (up1 r (25 + 3 * t + 2) x) := by
  refine ⟨fun u a d => ?_, LR_r (by omega) h9 (LR_c (by omega) m.2.1), SR_r (by omega) (SR_c (by omega) m.2.2.1), KR_r (by omega) (KR_c (by omega) m.2.2.2.1), QR_r (by omega) (QR_c (by omega) h0 m.2.2.2.2)⟩
  have y := m.1 u a d
  rw [up2_o (by omega), up2_o (by omega), up1_ne (by omega), up1_ne (by omega)]
  refine ⟨y.1, y.2.1, ?_⟩
  by_cases e : u = t
  · rw [e, up2_e, up1_at]
  · rw [up2_o (by omega), up1_ne (by omega)]
    exact y.2.2
theorem MR_trK {c : Nat → Int → Int} {π : Int → Nat} {r : Int → Int} {x : Int} (h0 : r 0 ≤ 10) (h9 : r 9 ≤ 16) (m : MR c π r) {t s q : Int} (ht : 0 ≤ t ∧ t < 4) : MR (up2 (up2 (up2 c 2 t s) 3 t q) 4 t x) π (up1 (up1 (up1 r (25 + 3 * t) s) (25 + 3 * t + 1) q) (25 + 3 * t + 2) x) := by
  have e9 : ∀ k v, 25 ≤ k → up1 r k v 9 = r 9 := fun k v h => up1_ne (by omega)
  have f9 : up1 (up1 r (25 + 3 * t) s) (25 + 3 * t + 1) q 9 = r 9 := by rw [up1_ne (by omega)]; exact e9 _ _ (by omega)
  have g9 := e9 (25 + 3 * t) s (by omega)
  refine ⟨fun u a d => ?_, LR_r (by omega) (by omega) (LR_r (by omega) (by omega) (LR_r (by omega) h9 (LR_c (by omega) (LR_c (by omega) (LR_c (by omega) m.2.1))))), SR_r (by omega) (SR_r (by omega) (SR_r (by omega) (SR_c (by omega) (SR_c (by omega) (SR_c (by omega) m.2.2.1))))), KR_r (by omega) (KR_r (by omega) (KR_r (by omega) (KR_c (by omega) (KR_c (by omega) (KR_c (by omega) m.2.2.2.1))))), QR_r (by omega) (QR_r (by omega) (QR_r (by omega) (QR_c (by omega) h0 (QR_c (by omega) h0 (QR_c (by omega) h0 m.2.2.2.2)))))⟩
  have y := m.1 u a d
  by_cases e : u = t
  · subst e
    simp (disch := omega) only [up2_o, up2_e, up1_ne, up1_at]
    exact ⟨trivial, trivial, trivial⟩
  · simp (disch := omega) only [up2_o, up1_ne]
    exact y
theorem MR_set {c : Nat → Int → Int} {π : Int → Nat} {r : Int → Int} {x : Int} (h0 : r 0 ≤ 10) (h9 : r 9 ≤ 16) (m : MR c π r) {w : Int} (hw : 0 ≤ w ∧ w < 6) : MR (up2 c 22 w x) π (up1 r (10 + w) x) := by
  refine ⟨TR_r (by omega) (TR_c (by omega) m.1), LR_r (by omega) h9 (LR_c (by omega) m.2.1), fun u a d => ?_, KR_r (by omega) (KR_c (by omega) m.2.2.2.1), QR_r (by omega) (QR_c (by omega) h0 m.2.2.2.2)⟩
  by_cases e : u = w
  · rw [e, up2_e, up1_at]
  · rw [up2_o (by omega), up1_ne (by omega)]
    exact m.2.2.1 u a d
/-- a job's number that is no part of its form: 6 priority, 7 held, 8 printed, 9 stapled -/
theorem MR_job {c : Nat → Int → Int} {π : Int → Nat} {r : Int → Int} {x : Int} (h0 : r 0 ≤ 10) (h9 : r 9 ≤ 16) (m : MR c π r) {p w : Int} (hw : 6 ≤ w ∧ w ≤ 9) (hp : 0 ≤ p ∧ p < r 0) : MR (up2 c (π p) (w + 5) x) π (up1 r (85 + 10 * p + w) x) := by
  obtain ⟨a1, a2, a3, a4, a5⟩ := m.2.2.2.2
  have pp := a4.1 p hp.1 (by omega)
  refine ⟨TR_r (by omega) (TR_c (by omega) m.1), LR_r (by omega) h9 (LR_c (by omega) m.2.1), SR_r (by omega) (SR_c (by omega) m.2.2.1), KR_r (by omega) (KR_c (by omega) m.2.2.2.1), ?_⟩
  have e0 : up1 r (85 + 10 * p + w) x 0 = r 0 := up1_ne (by omega)
  refine ⟨by rw [e0, up2_o (by omega)]; exact a1, by rw [up2_o (by omega), up1_ne (by omega)]; exact a2, by rw [up2_o (by omega), up1_ne (by omega)]; exact a3, a4, fun j u v => ?_⟩
  rw [e0] at v
  by_cases e : j = p
  · subst e
    have jr := a5 j u v
    have f : ∀ q : Int, 0 ≤ q → q < 6 → jf (up1 r (85 + 10 * j + w) x) j q = jf r j q := fun q f g => up1_ne (by omega)
    have fw : ∀ q : Int, jf (up1 r (85 + 10 * j + w) x) j q = if q = w then x else jf r j q := fun q => by
      by_cases y : q = w
      · rw [if_pos y, y]; exact up1_at
      · rw [if_neg y]; exact up1_ne (by omega)
    have ss : sst (up1 r (85 + 10 * j + w) x) j = sst r j ∧ als (up1 r (85 + 10 * j + w) x) j = als r j := by
      unfold als sst
      rw [f 1 (by decide) (by decide), f 2 (by decide) (by decide), f 5 (by decide) (by decide)]
      exact ⟨rfl, rfl⟩
    unfold JR at jr ⊢
    rw [f 0 (by decide) (by decide), f 1 (by decide) (by decide), f 2 (by decide) (by decide), f 3 (by decide) (by decide), f 4 (by decide) (by decide), f 5 (by decide) (by decide), ss.1, ss.2, fw 6, fw 7, fw 8, fw 9]
    rcases (show w = 6 ∨ w = 7 ∨ w = 8 ∨ w = 9 by omega) with rfl | rfl | rfl | rfl <;> simp (disch := omega) only [up2_o, up2_e, Int.reduceEq, Int.reduceAdd, if_true, if_false] <;> (obtain ⟨j0, j1, j2, j3, j4, j5, j6, j7, j8, j9, j10, j11, j12, j13, j14⟩ := jr; refine ⟨?_, ?_, ?_, ?_, ?_, ?_, ?_, ?_, ?_, ?_, ?_, ?_, ?_, ?_, ?_⟩ <;> first | trivial | assumption)
  · have pj := a4.1 j u (by omega)
    have hne : ¬ π j = π p := fun z => e (a4.2 _ _ u (by omega) hp.1 (by omega) z)
    exact JR_r (fun q f g => jf_up1 (by omega) f g) (JR_c (fun q f g => up2_o (fun z => hne z.1)) (a5 j u v))
