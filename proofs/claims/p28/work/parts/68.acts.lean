/-! what holds besides is kept by every call -/
def GI (B : Int) (r : Int → Int) : Prop := RI r ∧ EI r ∧ r 16 ≤ r 24 ∧ r 1 ≤ B ∧ r 24 ≤ B
theorem GI.up {B B' : Int} {r : Int → Int} (h : GI B r) (hb : B ≤ B') : GI B' r := ⟨h.1, h.2.1, h.2.2.1, by have := h.2.2.2.1; omega, by have := h.2.2.2.2; omega⟩
theorem GI.ni {B : Int} {r : Int → Int} (h : GI B r) : (0 ≤ r 0 ∧ r 0 ≤ 10) ∧ (0 ≤ r 9 ∧ r 9 ≤ 16) := by
  have n := h.1.1
  unfold NI at n
  omega
theorem GI_up {B : Int} {r : Int → Int} {k x : Int} (h : GI B r) (hk : k = 3 ∨ k = 4 ∨ k = 8 ∨ (10 ≤ k ∧ k < 16) ∨ k = 20 ∨ (25 ≤ k ∧ k < 37) ∨ (85 ≤ k ∧ ∃ p w : Int, k = 85 + 10 * p + w ∧ 0 < w ∧ w < 10 ∧ ¬ w = 7)) (hI : RI (up1 r k x)) : GI B (up1 r k x) := by
  have n := h.ni
  have e : ∀ i : Int, (i = 1 ∨ i = 16 ∨ i = 24) → up1 r k x i = r i := fun i a => up1_ne (by rcases hk with z | z | z | z | z | z | ⟨z, -⟩ <;> omega)
  refine ⟨hI, EI_up h.2.1 n.2 n.1.2 hk, ?_⟩
  rw [e 16 (by omega), e 24 (by omega), e 1 (by omega)]
  exact h.2.2
theorem GI_fill {B : Int} {r : Int → Int} {t s : Int} (h : GI B r) (ht : 0 ≤ t ∧ t ≤ 3) (hs : 1 ≤ s) (h5 : r (25 + 3 * t + 2) + s ≤ 500) : GI B (up1 r (25 + 3 * t + 2) (r (25 + 3 * t + 2) + s)) :=
  GI_up h (by omega) (RI_tray h.1 (by omega) (Or.inr (by have := h.1.2.2.1 t (by omega) (by omega); omega)))
theorem GI_load {B : Int} {r : Int → Int} {t s q : Int} (h : GI B r) (ht : 0 ≤ t ∧ t ≤ 3) (hs : 0 ≤ s ∧ s ≤ 3) (hq : 0 ≤ q ∧ q ≤ 3) : GI B (up1 (up1 (up1 r (25 + 3 * t) s) (25 + 3 * t + 1) q) (25 + 3 * t + 2) 0) :=
  GI_up (GI_up (GI_up h (by omega) (RI_tray h.1 (by omega) (Or.inl (by omega)))) (by omega) (RI_tray (RI_tray h.1 (by omega) (Or.inl (by omega))) (by omega) (Or.inl (by omega)))) (by omega) (RI_tray (RI_tray (RI_tray h.1 (by omega) (Or.inl (by omega))) (by omega) (Or.inl (by omega))) (by omega) (Or.inr (by omega)))
theorem GI_staples {B : Int} {r : Int → Int} {v : Int} (h : GI B r) (hv : 0 ≤ v ∧ v ≤ 5000) : GI B (up1 r 3 v) := GI_up h (by omega) (RI_num h.1 (Or.inr (Or.inl ⟨rfl, by omega, by omega⟩)))
theorem GI_set {B : Int} {r : Int → Int} {w v : Int} (h : GI B r) (g : (w = 0 ∧ 1 ≤ v ∧ v ≤ 20) ∨ ((w = 1 ∨ w = 2) ∧ 0 ≤ v ∧ v ≤ 20) ∨ (w = 3 ∧ 2 ≤ v ∧ v ≤ 100) ∨ (w = 4 ∧ 0 ≤ v ∧ v ≤ 500) ∨ (w = 5 ∧ 1 ≤ v ∧ v ≤ 1000)) : GI B (up1 r (10 + w) v) := by
  refine GI_up h (by omega) (RI_num h.1 ?_)
  rcases g with ⟨rfl, a⟩ | ⟨rfl | rfl, a⟩ | ⟨rfl, a⟩ | ⟨rfl, a⟩ | ⟨rfl, a⟩
  · exact Or.inr (Or.inr (Or.inr (Or.inl ⟨by decide, a.1, a.2⟩)))
  · exact Or.inr (Or.inr (Or.inr (Or.inr (Or.inl ⟨by decide, a.1, a.2⟩))))
  · exact Or.inr (Or.inr (Or.inr (Or.inr (Or.inr (Or.inl ⟨by decide, a.1, a.2⟩)))))
  · exact Or.inr (Or.inr (Or.inr (Or.inr (Or.inr (Or.inr (Or.inl ⟨by decide, a.1, a.2⟩))))))
  · exact Or.inr (Or.inr (Or.inr (Or.inr (Or.inr (Or.inr (Or.inr (Or.inl ⟨by decide, a.1, a.2⟩)))))))
  · exact Or.inr (Or.inr (Or.inr (Or.inr (Or.inr (Or.inr (Or.inr (Or.inr (Or.inl ⟨by decide, a.1, a.2⟩))))))))
theorem GI_pri {B : Int} {r : Int → Int} {p x : Int} (h : GI B r) (hp : 0 ≤ p ∧ p < r 0) (hx : 0 ≤ x ∧ x ≤ 9) : GI B (up1 r (85 + 10 * p + 6) x) :=
  GI_up h (Or.inr (Or.inr (Or.inr (Or.inr (Or.inr (Or.inr ⟨by omega, p, 6, rfl, by decide, by decide, by decide⟩)))))) (RI_pri h.1 hp (Or.inl ⟨rfl, hx.1, hx.2⟩))
theorem GI_bin {B : Int} {r : Int → Int} (h : GI B r) : GI B (up1 r 2 0) := by
  have n := h.ni
  have ni := h.1.1
  unfold NI at ni
  have e : ∀ k, ¬ k = 2 → up1 r 2 0 k = r k := fun k a => up1_ne a
  have e2 : up1 r 2 0 2 = 0 := up1_at
  obtain ⟨m1, m2, m3⟩ := h.2.1
  refine ⟨RI_num h.1 (Or.inl ⟨rfl, by decide, by omega⟩), ⟨?_, EP_ext (e 9 (by decide)) (e 16 (by decide)) (fun k a b => e k (by omega)) n.2 m2, EJ_ext (e 0 (by decide)) (e 5 (by decide)) (e 6 (by decide)) (e 7 (by decide)) (fun p a b => ⟨e _ (by omega), e _ (by omega)⟩) m3⟩, by rw [e 16 (by decide), e 24 (by decide), e 1 (by decide)]; exact h.2.2⟩
  unfold EA at m1 ⊢
  rw [e2, e 0 (by decide), e 1 (by decide), e 5 (by decide), e 6 (by decide), e 7 (by decide), e 16 (by decide), e 17 (by decide), e 18 (by decide), e 19 (by decide), e 21 (by decide), e 22 (by decide), e 23 (by decide), e 24 (by decide)]
  exact ⟨m1.1, m1.2.1, by omega, m1.2.2.2⟩
theorem GI_job {B : Int} {r : Int → Int} {pg cp sz kd hw : Int} (h : GI B r) (hB : B ≤ 1000000) (h0 : r 0 < 10) (hp : 1 ≤ pg ∧ pg ≤ 200) (hc : 1 ≤ cp ∧ cp ≤ 50) (hs : 0 ≤ sz ∧ sz ≤ 3) (hk : 0 ≤ kd ∧ kd ≤ 3) (hh : 0 ≤ hw ∧ hw ≤ 11) (hn : wny r pg kd hw = 0) : GI (B + 1) (comesF r pg cp sz kd hw) := by
  have n := h.ni
  have b := h.2.2.2
  have b16 := h.2.2.1
  have RIc := RI_comes h.1 h0 (by omega) hp hc hs hk hh hn
  have e : ∀ k, k < 85 + 10 * r 0 → ¬ k = 0 → ¬ k = 1 → comesF r pg cp sz kd hw k = r k := fun k a b c => comesF_lo n.1.1 a b c
  have e0 := comesF_0 (r := r) (pg := pg) (cp := cp) (sz := sz) (kd := kd) (hw := hw) n.1.1
  have e1 := comesF_1 (r := r) (pg := pg) (cp := cp) (sz := sz) (kd := kd) (hw := hw) n.1.1
  have j := comesF_j (r := r) (pg := pg) (cp := cp) (sz := sz) (kd := kd) (hw := hw) n.1.1
  have j7 : jf (comesF r pg cp sz kd hw) (r 0) 7 = 0 := j.2.2.2.2.2.2.2.1
  generalize comesF r pg cp sz kd hw = v at RIc e e0 e1 j7
  obtain ⟨m1, m2, m3⟩ := h.2.1
  refine ⟨RIc, ⟨?_, EP_ext (e 9 (by omega) (by decide) (by decide)) (e 16 (by omega) (by decide) (by decide)) (fun k a b => e k (by omega) (by omega) (by omega)) n.2 m2, fun q a d => ?_⟩, by rw [e 16 (by omega) (by decide) (by decide), e 24 (by omega) (by decide) (by decide), e1]; omega⟩
  · unfold EA at m1 ⊢
    rw [e0, e1, e 2 (by omega) (by decide) (by decide), e 5 (by omega) (by decide) (by decide), e 6 (by omega) (by decide) (by decide), e 7 (by omega) (by decide) (by decide), e 16 (by omega) (by decide) (by decide), e 17 (by omega) (by decide) (by decide), e 18 (by omega) (by decide) (by decide), e 19 (by omega) (by decide) (by decide), e 21 (by omega) (by decide) (by decide), e 22 (by omega) (by decide) (by decide), e 23 (by omega) (by decide) (by decide), e 24 (by omega) (by decide) (by decide)]
    exact ⟨m1.1, m1.2.1, m1.2.2.1, m1.2.2.2.1, m1.2.2.2.2.1, by omega, m1.2.2.2.2.2.2⟩
  · rw [e0] at d
    rw [e 5 (by omega) (by decide) (by decide), e 6 (by omega) (by decide) (by decide), e 7 (by omega) (by decide) (by decide)]
    by_cases z : q = r 0
    · rw [z, j7]
      exact ⟨fun _ => rfl, fun _ _ => rfl⟩
    · have g : ∀ w, 0 ≤ w → w < 10 → jf v q w = jf r q w := fun w a b => e _ (by omega) (by omega) (by omega)
      rw [g 0 (by decide) (by decide), g 7 (by decide) (by decide)]
      exact m3 q a (by omega)
/-- a job gives up its place and its work -/
theorem EI_giv {r : Int → Int} {j : Int} (hA : EA r) (hP : EP r) (h9 : 0 ≤ r 9 ∧ r 9 ≤ 16) (hn : ∀ q, 0 ≤ q → q < r 0 → 0 ≤ jf r q 0) (hj : 0 ≤ j) (hJ : ∀ p : Int, 0 ≤ p → p < r 0 → ¬ jf r p 0 = j → (jf r p 0 = r 7 → jf r p 7 = 0) ∧ (¬ r 5 = 0 → jf r p 0 = r 6 → jf r p 7 = 0)) : EI (givF r j) := by
  have e : ∀ k, ¬ k = 4 → ¬ k = 5 → ¬ k = 6 → ¬ k = 7 → ¬ k = 18 → givF r j k = r k := fun k a b c d f => givF_lo a b c d f
  have e7 : givF r j 7 = if r 7 = j then -4 else r 7 := by
    unfold givF stayF
    split
    · rw [up1_at]
      have : endsF (adn r 18 (if r 5 = 1 then 1 else 0)) 7 = r 7 := by
        rw [endsF_at (by decide)]
        exact up1_ne (by decide)
      rw [this]
    · rw [up1_at]
  have e18 : givF r j 18 = r 18 + (if r 6 = j ∧ r 5 = 1 then 1 else 0) := by
    unfold givF stayF
    rw [up1_ne (by decide)]
    split
    · rw [endsF_at (by decide)]
      unfold adn
      rw [up1_at]
      (repeat' split) <;> omega
    · rw [if_neg (by omega)]
      omega
  have e5 : givF r j 5 = if r 6 = j then 0 else r 5 := by
    unfold givF stayF
    rw [up1_ne (by decide)]
    split
    · unfold endsF
      rw [up1_ne (by decide), up1_at]
    · rfl
  have e6 : givF r j 6 = if r 6 = j then -4 else r 6 := by
    unfold givF stayF
    rw [up1_ne (by decide)]
    split
    · unfold endsF
      rw [up1_at]
    · rfl
  generalize givF r j = v at e e7 e18 e5 e6
  have e0 := e 0 (by decide) (by decide) (by decide) (by decide) (by decide)
  refine ⟨?_, EP_ext (e 9 (by decide) (by decide) (by decide) (by decide) (by decide)) (e 16 (by decide) (by decide) (by decide) (by decide) (by decide)) (fun k a b => e k (by omega) (by omega) (by omega) (by omega) (by omega)) h9 hP, fun p a b => ?_⟩
  · unfold EA at hA ⊢
    rw [e0, e5, e6, e7, e18, e 1 (by decide) (by decide) (by decide) (by decide) (by decide), e 2 (by decide) (by decide) (by decide) (by decide) (by decide), e 16 (by decide) (by decide) (by decide) (by decide) (by decide), e 17 (by decide) (by decide) (by decide) (by decide) (by decide), e 19 (by decide) (by decide) (by decide) (by decide) (by decide), e 21 (by decide) (by decide) (by decide) (by decide) (by decide), e 22 (by decide) (by decide) (by decide) (by decide) (by decide), e 23 (by decide) (by decide) (by decide) (by decide) (by decide), e 24 (by decide) (by decide) (by decide) (by decide) (by decide)]
    obtain ⟨⟨a1, a2⟩, a3, a4, a5, a6, a7⟩ := hA
    refine ⟨?_, a3, a4, a5, ?_, a7⟩
    · by_cases z : r 6 = j
      · rw [if_pos z, if_pos z]
        refine ⟨fun y => absurd y (by decide), fun _ => ?_⟩
        by_cases y : r 5 = 1
        · rw [if_pos ⟨z, y⟩]
          have := a1 y
          omega
        · rw [if_neg (fun q => y q.2)]
          have := a2 y
          omega
      · rw [if_neg z, if_neg z, if_neg (fun q => z q.1)]
        refine ⟨fun y => ?_, fun y => by have := a2 y; omega⟩
        have := a1 y
        rw [if_neg (by omega)]
        omega
    · split <;> omega
  · rw [e0] at b
    have g : ∀ w, 0 ≤ w → jf v p w = jf r p w := fun w c => e _ (by omega) (by omega) (by omega) (by omega) (by omega)
    have y := hn p a b
    rw [e5, e6, e7, g 0 (by decide), g 7 (by decide)]
    by_cases z : jf r p 0 = j
    · refine ⟨fun u => ?_, fun u1 u2 => ?_⟩
      · split at u <;> omega
      · split at u2
        · omega
        · omega
    · have w := hJ p a b z
      refine ⟨fun u => ?_, fun u1 u2 => ?_⟩
      · split at u
        · omega
        · exact w.1 u
      · by_cases c : r 6 = j
        · rw [if_pos c] at u1
          exact absurd rfl u1
        · rw [if_neg c] at u1 u2
          exact w.2 u1 u2
theorem giv_16 {r : Int → Int} {j : Int} : givF r j 16 = r 16 ∧ givF r j 24 = r 24 ∧ givF r j 1 = r 1 ∧ givF r j 0 = r 0 := ⟨givF_lo (by decide) (by decide) (by decide) (by decide) (by decide), givF_lo (by decide) (by decide) (by decide) (by decide) (by decide), givF_lo (by decide) (by decide) (by decide) (by decide) (by decide), givF_lo (by decide) (by decide) (by decide) (by decide) (by decide)⟩
theorem GI_hold0 {B : Int} {r : Int → Int} {p : Int} (h : GI B r) (hp : 0 ≤ p ∧ p < r 0) : GI B (up1 r (85 + 10 * p + 7) 0) := by
  have n := h.ni
  have e : ∀ k, k < 85 → up1 r (85 + 10 * p + 7) 0 k = r k := fun k a => up1_ne (by omega)
  obtain ⟨m1, m2, m3⟩ := h.2.1
  refine ⟨RI_pri h.1 hp (Or.inr ⟨rfl, by decide, by decide⟩), ⟨EA_ext (fun k a b => e k (by omega)) m1, EP_ext (e 9 (by decide)) (e 16 (by decide)) (fun k a b => e k (by omega)) n.2 m2, fun q a d => ?_⟩, by rw [e 16 (by decide), e 24 (by decide), e 1 (by decide)]; exact h.2.2⟩
  rw [e 0 (by decide)] at d
  rw [e 5 (by decide), e 6 (by decide), e 7 (by decide)]
  have g0 : jf (up1 r (85 + 10 * p + 7) 0) q 0 = jf r q 0 := up1_ne (by omega)
  rw [g0]
  by_cases z : q = p
  · have g7 : jf (up1 r (85 + 10 * p + 7) 0) q 7 = 0 := by rw [z]; exact up1_at
    rw [g7]
    exact ⟨fun _ => rfl, fun _ _ => rfl⟩
  · have g7 : jf (up1 r (85 + 10 * p + 7) 0) q 7 = jf r q 7 := up1_ne (by omega)
    rw [g7]
    exact m3 q a d
theorem GI_hold1 {B : Int} {r : Int → Int} {j : Int} (h : GI B r) (hj : 0 ≤ j) (hp : 0 ≤ plc r j) : GI B (givF (up1 r (85 + 10 * plc r j + 7) 1) j) := by
  have n := h.ni
  have hl := plc_lt hp
  have sp : jf r (plc r j) 0 = j := by
    rcases plc_sp r j with a | a
    · omega
    · exact a.2.2.1
  have I1 := RI_pri h.1 ⟨hp, hl⟩ (w := 7) (x := 1) (Or.inr ⟨rfl, by decide, by decide⟩)
  have e : ∀ k, k < 85 → up1 r (85 + 10 * plc r j + 7) 1 k = r k := fun k a => up1_ne (by omega)
  have g0 : ∀ q, 0 ≤ q → jf (up1 r (85 + 10 * plc r j + 7) 1) q 0 = jf r q 0 := fun q a => up1_ne (by omega)
  have g7 : ∀ q, 0 ≤ q → ¬ q = plc r j → jf (up1 r (85 + 10 * plc r j + 7) 1) q 7 = jf r q 7 := fun q a z => up1_ne (by omega)
  have G := giv_16 (r := up1 r (85 + 10 * plc r j + 7) 1) (j := j)
  obtain ⟨m1, m2, m3⟩ := h.2.1
  refine ⟨RI_giv I1, EI_giv (EA_ext (fun k a b => e k (by omega)) m1) (EP_ext (e 9 (by decide)) (e 16 (by decide)) (fun k a b => e k (by omega)) n.2 m2) (by rw [e 9 (by decide)]; exact n.2) I1.jn hj (fun q a d z => ?_), by rw [G.1, G.2.1, G.2.2.1, e 16 (by decide), e 24 (by decide), e 1 (by decide)]; exact h.2.2⟩
  rw [e 0 (by decide)] at d
  rw [g0 q a] at z
  rw [g0 q a, g7 q a (fun y => z (by rw [y]; exact sp)), e 5 (by decide), e 6 (by decide), e 7 (by decide)]
  exact m3 q a d
theorem GI_can {B : Int} {r : Int → Int} {j : Int} (h : GI B r) (hj : 0 ≤ j) (hp : 0 ≤ plc r j) : GI B (inc (goesF (givF r j) (plc r j)) 22) := by
  have n := h.ni
  have hl := plc_lt hp
  have ic := RI_can h.1 hp
  have G := giv_16 (r := r) (j := j)
  obtain ⟨m1, m2, m3⟩ := h.2.1
  have E := EI_giv (j := j) m1 m2 n.2 h.1.jn hj (fun q a d _ => m3 q a d)
  have R := RI_giv (j := j) h.1
  generalize givF r j = v at ic G E R
  have nv := R.1
  unfold NI at nv
  have pv : 0 ≤ plc r j ∧ plc r j < v 0 := by omega
  have e : ∀ k, k < 85 → ¬ k = 0 → ¬ k = 22 → inc (goesF v (plc r j)) 22 k = v k := fun k a b c => by
    unfold inc
    rw [up1_ne c, goesF_at hp a b]
  have e0 : inc (goesF v (plc r j)) 22 0 = v 0 - 1 := by
    unfold inc
    rw [up1_ne (by decide), goesF_0 hp]
  have e22 : inc (goesF v (plc r j)) 22 22 = v 22 + 1 := by
    unfold inc
    rw [up1_at, goesF_at hp (by decide) (by decide)]
  obtain ⟨M1, M2, M3⟩ := E
  refine ⟨ic.1, ⟨?_, EP_ext (e 9 (by decide) (by decide) (by decide)) (e 16 (by decide) (by decide) (by decide)) (fun k a b => e k (by omega) (by omega) (by omega)) (by omega) M2, ?_⟩, by rw [e 16 (by decide) (by decide) (by decide), ic.2.1, ic.2.2, G.1]; exact h.2.2⟩
  · unfold EA at M1 ⊢
    rw [e0, e22, e 1 (by decide) (by decide) (by decide), e 2 (by decide) (by decide) (by decide), e 5 (by decide) (by decide) (by decide), e 6 (by decide) (by decide) (by decide), e 7 (by decide) (by decide) (by decide), e 16 (by decide) (by decide) (by decide), e 17 (by decide) (by decide) (by decide), e 18 (by decide) (by decide) (by decide), e 19 (by decide) (by decide) (by decide), e 21 (by decide) (by decide) (by decide), e 23 (by decide) (by decide) (by decide), e 24 (by decide) (by decide) (by decide)]
    exact ⟨M1.1, M1.2.1, M1.2.2.1, M1.2.2.2.1, M1.2.2.2.2.1, by omega⟩
  · have i : ∀ k, ¬ k = 22 → inc (goesF v (plc r j)) 22 k = goesF v (plc r j) k := fun k a => up1_ne a
    exact EJ_ext (i 0 (by decide)) (i 5 (by decide)) (i 6 (by decide)) (i 7 (by decide)) (fun q a b => ⟨i _ (by omega), i _ (by omega)⟩) (EJ_goes pv M3)
/-- one tick: what it does to the accounts -/
theorem tick_G {B : Int} {r : Int → Int} (h : GI B r) (hB : B ≤ 1000000) : GI (B + 1) (stpF r 1) ∧ stpF r 1 24 = r 24 + 1 ∧ (r 17 ≤ stpF r 1 17 ∧ stpF r 1 17 ≤ r 17 + 1) ∧ stpF r 1 23 = r 23 + (if 0 < (bgF r).1 then 1 else 0) := by
  obtain ⟨hI, hE, h16, h1, h24⟩ := h
  obtain ⟨a, b, c, d⟩ := RI_bg hI
  have s := RI_step (m := 1) hI (by decide) (by omega)
  have g := EI_bg hI hE
  have E := EI_gb (m := 1) g.1 a b.1 c (by decide) (by omega)
  have t1 : stpT r 1 = 1 := by omega
  have t2 : gbT (bgF r).2 (bgF r).1 1 = 1 := t1
  rw [t2] at E
  have s1 := stpF_1 (m := 1) hI
  change EI (stpF r 1) ∧ stpF r 1 16 = _ ∧ (_ ≤ stpF r 1 17 ∧ stpF r 1 17 ≤ _) ∧ stpF r 1 23 = _ at E
  refine ⟨⟨s.1, E.1, by omega, by omega, by omega⟩, by omega, by omega, by rw [E.2.2.2, g.2.2.2.2.1]⟩
theorem it_G : ∀ (n : Nat) (B : Int) (r : Int → Int), GI B r → B + (n : Int) ≤ 1000000 → GI (B + n) (itF n r) ∧ itF n r 24 = r 24 + n ∧ r 17 ≤ itF n r 17 ∧ itF n r 17 ≤ r 17 + n
  | 0, B, r, h, _ => ⟨by rw [show B + ((0 : Nat) : Int) = B by omega]; exact h, by show r 24 = _; omega, Int.le_refl _, by show r 17 ≤ _; omega⟩
  | n + 1, B, r, h, hb => by
    have t := tick_G h (by omega)
    have i := it_G n (B + 1) (stpF r 1) t.1 (by omega)
    refine ⟨?_, ?_, ?_, ?_⟩
    · have z := i.1
      rw [show B + 1 + (n : Int) = B + ((n + 1 : Nat) : Int) by omega] at z
      exact z
    · show itF n (stpF r 1) 24 = _
      omega
    · show _ ≤ itF n (stpF r 1) 17
      omega
    · show itF n (stpF r 1) 17 ≤ _
      omega
theorem run_G {B : Int} {r : Int → Int} {m : Int} (h : GI B r) (hm : 0 ≤ m ∧ m ≤ 5000) (hB : B + m ≤ 1000000) : GI (B + m) (runF 5000 r m) ∧ runF 5000 r m 24 = r 24 + m ∧ r 17 ≤ runF 5000 r m 17 ∧ runF 5000 r m 17 ≤ r 17 + m := by
  have b := h.2.2.2
  rw [run_it 5000 r m h.1 hm.1 (by omega) (by omega) (by omega)]
  have i := it_G m.toNat B r h (by omega)
  rw [show ((m.toNat : Nat) : Int) = m by omega] at i
  exact i
