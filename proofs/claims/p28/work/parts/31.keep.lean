/-! what stays behind a change of a row -/
theorem RT_up {r : Int → Int} {k x : Int} (h : k < 25 ∨ 37 ≤ k) (m : RT r) : RT (up1 r k x) := fun t a d => by
  rw [up1_ne (by omega), up1_ne (by omega), up1_ne (by omega)]
  exact m t a d
theorem PI_up {r : Int → Int} {k x : Int} (h : ¬ k = 9 ∧ (k < 37 ∨ 85 ≤ k)) (h9 : r 9 ≤ 16) (m : PI_ r) : PI_ (up1 r k x) := by
  have e9 : up1 r k x 9 = r 9 := up1_ne (by omega)
  refine ⟨fun i a d => ?_, fun i j a d e => ?_⟩
  · rw [e9] at d
    rw [up1_ne (by omega), up1_ne (by omega)]
    exact m.1 i a d
  · rw [e9] at e
    rw [up1_ne (by omega), up1_ne (by omega), up1_ne (by omega), up1_ne (by omega)]
    exact m.2 i j a d e
theorem SO_ext {r r' : Int → Int} (h0 : r' 0 = r 0) (h : ∀ p, 0 ≤ p → p < r 0 → jf r' p 0 = jf r p 0) (m : SO r) : SO r' := fun p q a d e => by
  rw [h0] at e
  rw [h p a (by omega), h q (by omega) e]
  exact m p q a d e
theorem JI_ext {r r' : Int → Int} {p p' : Int} (hp : 0 ≤ p' ∧ p' < 10) (h1 : r 1 ≤ r' 1) (h : ∀ w, 0 ≤ w → w < 10 → jf r' p' w = jf r p w) (m : JI r p) : JI r' p' := by
  obtain ⟨a, ⟨b1, b2, b3⟩, ⟨c1, c2⟩, d, e⟩ := m
  have s := sst_ext h
  have hb : JB r' p' := by
    unfold JB at a ⊢
    rw [h 0 (by decide) (by decide), h 1 (by decide) (by decide), h 2 (by decide) (by decide), h 3 (by decide) (by decide), h 4 (by decide) (by decide), h 5 (by decide) (by decide), h 6 (by decide) (by decide), h 7 (by decide) (by decide), h 8 (by decide) (by decide), h 9 (by decide) (by decide)]
    exact ⟨hp.1, hp.2, a.2.2⟩
  refine ⟨hb, ⟨?_, ?_, ?_⟩, ⟨?_, ?_⟩, ?_, ?_⟩
  · rw [h 5 (by decide) (by decide)]; exact b1
  · rw [h 5 (by decide) (by decide), h 4 (by decide) (by decide), h 8 (by decide) (by decide), h 9 (by decide) (by decide), s.1]; exact b2
  · rw [h 5 (by decide) (by decide), h 9 (by decide) (by decide)]; exact b3
  · rw [h 8 (by decide) (by decide), s.2]; exact c1
  · rw [h 9 (by decide) (by decide), h 2 (by decide) (by decide)]; exact c2
  · unfold donF
    rw [h 8 (by decide) (by decide), s.2, h 5 (by decide) (by decide), h 9 (by decide) (by decide), h 2 (by decide) (by decide)]
    exact d
  · rw [h 0 (by decide) (by decide)]; omega
theorem hset_ext {r r' : Int → Int} {p p' : Int} (h : ∀ w, 0 ≤ w → w < 10 → jf r' p' w = jf r p w) : hset r' p' ↔ hset r p := by
  unfold hset
  rw [h 5 (by decide) (by decide), h 8 (by decide) (by decide), h 9 (by decide) (by decide), (sst_ext h).1]
theorem WI_ext {r r' : Int → Int} (e4 : r' 4 = r 4) (e5 : r' 5 = r 5) (e6 : r' 6 = r 6) (h : r 5 = 0 ∨ (0 ≤ plc r (r 6) → 0 ≤ plc r' (r 6) ∧ ∀ w, 0 ≤ w → w < 10 → jf r' (plc r' (r 6)) w = jf r (plc r (r 6)) w)) (m : WI r) : WI r' := by
  unfold WI at m ⊢
  rw [e4, e5, e6]
  rcases m with a | ⟨a1, a2, a3, a4, a5, a6⟩ | ⟨a1, a2, a3, a4, a5, a6⟩
  · exact Or.inl a
  · have y := (h.resolve_left (by omega)) a5
    refine Or.inr (Or.inl ⟨a1, a2, a3, a4, y.1, ?_⟩)
    rw [y.2 8 (by decide) (by decide), (sst_ext y.2).2]
    exact a6
  · have y := (h.resolve_left (by omega)) a5
    exact Or.inr (Or.inr ⟨a1, a2, a3, a4, y.1, (hset_ext y.2).mpr a6⟩)
/-- a change outside the jobs, the papers, the trays and the work -/
theorem RI_lo {r : Int → Int} {k x : Int} (h : RI r) (hk : ¬ k = 0 ∧ ¬ k = 1 ∧ ¬ k = 4 ∧ ¬ k = 5 ∧ ¬ k = 6 ∧ ¬ k = 9 ∧ k < 25) (hx : -3000000 ≤ x ∧ x ≤ 3000000 ∨ (16 ≤ k ∧ k < 24)) (hn : NI (up1 r k x)) : RI (up1 r k x) := by
  obtain ⟨n, rb, rt, pi, so, j, w⟩ := h
  unfold NI at n
  have f : ∀ p, 0 ≤ p → ∀ v, 0 ≤ v → v < 10 → jf (up1 r k x) p v = jf r p v := fun p a v b c => up1_ne (by omega)
  have e0 : up1 r k x 0 = r 0 := up1_ne (by omega)
  refine ⟨hn, RB_up1 rb (hx.elim Or.inl (fun z => Or.inr (Or.inl z))), RT_up (by omega) rt, PI_up (by omega) (by omega) pi, SO_ext e0 (fun p a d => f p a 0 (by decide) (by decide)) so, fun p a d => ?_, WI_ext (up1_ne (by omega)) (up1_ne (by omega)) (up1_ne (by omega)) (Or.inr fun z => ?_) w⟩
  · rw [e0] at d
    exact JI_ext (by omega) (by rw [up1_ne (by omega)]; exact Int.le_refl _) (f p a) (j p a d)
  · rw [plc_ext e0 (fun p a d => f p a 0 (by decide) (by decide))]
    exact ⟨z, f _ z⟩
theorem RI_num {r : Int → Int} {k x : Int} (h : RI r) (hk : (k = 2 ∧ 0 ≤ x ∧ x ≤ r 8) ∨ (k = 3 ∧ 0 ≤ x ∧ x ≤ 5000) ∨ (k = 7 ∧ (x = -4 ∨ (0 ≤ x ∧ x < r 1))) ∨ (k = 10 ∧ 1 ≤ x ∧ x ≤ 20) ∨ (k = 11 ∧ 0 ≤ x ∧ x ≤ 20) ∨ (k = 12 ∧ 0 ≤ x ∧ x ≤ 20) ∨ (k = 13 ∧ 2 ≤ x ∧ x ≤ 100) ∨ (k = 14 ∧ 0 ≤ x ∧ x ≤ 500) ∨ (k = 15 ∧ 1 ≤ x ∧ x ≤ 1000) ∨ (16 ≤ k ∧ k < 24) ∨ (k = 24 ∧ r 8 ≤ x ∧ x ≤ 2000000)) : RI (up1 r k x) := by
  have n := h.1
  unfold NI at n
  refine RI_lo h (by omega) (by omega) ?_
  unfold NI
  have g : ∀ i : Int, up1 r k x i = if i = k then x else r i := fun i => rfl
  simp only [g]
  rcases hk with ⟨rfl, a⟩ | ⟨rfl, a⟩ | ⟨rfl, a⟩ | ⟨rfl, a⟩ | ⟨rfl, a⟩ | ⟨rfl, a⟩ | ⟨rfl, a⟩ | ⟨rfl, a⟩ | ⟨rfl, a⟩ | a | ⟨rfl, a⟩
  all_goals first
    | (simp only [Int.reduceEq, if_true, if_false]; omega)
    | (rw [if_neg (show ¬ (0 : Int) = k by omega), if_neg (show ¬ (1 : Int) = k by omega), if_neg (show ¬ (2 : Int) = k by omega), if_neg (show ¬ (3 : Int) = k by omega), if_neg (show ¬ (7 : Int) = k by omega), if_neg (show ¬ (8 : Int) = k by omega), if_neg (show ¬ (9 : Int) = k by omega), if_neg (show ¬ (10 : Int) = k by omega), if_neg (show ¬ (11 : Int) = k by omega), if_neg (show ¬ (12 : Int) = k by omega), if_neg (show ¬ (13 : Int) = k by omega), if_neg (show ¬ (14 : Int) = k by omega), if_neg (show ¬ (15 : Int) = k by omega), if_neg (show ¬ (24 : Int) = k by omega)]; omega)
/-- a tray changed -/
theorem RI_tray {r : Int → Int} {k x : Int} (h : RI r) (hk : 25 ≤ k ∧ k < 37) (hx : ((k - 25) % 3 < 2 ∧ 0 ≤ x ∧ x ≤ 3) ∨ ((k - 25) % 3 = 2 ∧ 0 ≤ x ∧ x ≤ 500)) : RI (up1 r k x) := by
  obtain ⟨n, rb, rt, pi, so, j, w⟩ := h
  have n0 := n
  unfold NI at n
  have f : ∀ p, 0 ≤ p → ∀ v, 0 ≤ v → v < 10 → jf (up1 r k x) p v = jf r p v := fun p a v b c => up1_ne (by omega)
  have e : ∀ i : Int, i < 25 → up1 r k x i = r i := fun i hi => up1_ne (by omega)
  refine ⟨?_, RB_up1 rb (Or.inl (by omega)), fun t a d => ?_, PI_up (by omega) (by omega) pi, SO_ext (e 0 (by decide)) (fun p a d => f p a 0 (by decide) (by decide)) so, fun p a d => ?_, WI_ext (e 4 (by decide)) (e 5 (by decide)) (e 6 (by decide)) (Or.inr fun z => ?_) w⟩
  · unfold NI
    rw [e 0 (by decide), e 1 (by decide), e 2 (by decide), e 3 (by decide), e 7 (by decide), e 8 (by decide), e 9 (by decide), e 10 (by decide), e 11 (by decide), e 12 (by decide), e 13 (by decide), e 14 (by decide), e 15 (by decide), e 24 (by decide)]
    exact n
  · have y := rt t a d
    unfold up1
    (repeat' split) <;> omega
  · rw [e 0 (by decide)] at d
    exact JI_ext (by omega) (by rw [e 1 (by decide)]; exact Int.le_refl _) (f p a) (j p a d)
  · rw [plc_ext (e 0 (by decide)) (fun p a d => f p a 0 (by decide) (by decide))]
    exact ⟨z, f _ z⟩
/-- the work under way changed: its ticks -/
theorem RI_left {r : Int → Int} {x : Int} (h : RI r) (hw : ¬ r 5 = 0) (hx : 1 ≤ x ∧ x ≤ r 4) : RI (up1 r 4 x) := by
  obtain ⟨n, rb, rt, pi, so, j, w⟩ := h
  have n0 := n
  unfold NI at n
  have f : ∀ p, 0 ≤ p → ∀ v, 0 ≤ v → v < 10 → jf (up1 r 4 x) p v = jf r p v := fun p a v b c => up1_ne (by omega)
  have e : ∀ i : Int, ¬ i = 4 → up1 r 4 x i = r i := fun i hi => up1_ne hi
  have hw4 : r 4 ≤ 60 := by unfold WI at w; omega
  refine ⟨?_, RB_up1 rb (Or.inl (by omega)), RT_up (by decide) rt, PI_up (by decide) (by omega) pi, SO_ext (e 0 (by decide)) (fun p a d => f p a 0 (by decide) (by decide)) so, fun p a d => ?_, ?_⟩
  · unfold NI
    rw [e 0 (by decide), e 1 (by decide), e 2 (by decide), e 3 (by decide), e 7 (by decide), e 8 (by decide), e 9 (by decide), e 10 (by decide), e 11 (by decide), e 12 (by decide), e 13 (by decide), e 14 (by decide), e 15 (by decide), e 24 (by decide)]
    exact n
  · rw [e 0 (by decide)] at d
    exact JI_ext (by omega) (by rw [e 1 (by decide)]; exact Int.le_refl _) (f p a) (j p a d)
  · have pe : ∀ q, plc (up1 r 4 x) q = plc r q := plc_ext (e 0 (by decide)) (fun p a d => f p a 0 (by decide) (by decide))
    unfold WI at w ⊢
    rw [e 5 (by decide), e 6 (by decide), pe, up1_at]
    rcases w with a | ⟨a1, a2, a3, a4, a5, a6⟩ | ⟨a1, a2, a3, a4, a5, a6⟩
    · exact absurd a.1 hw
    · refine Or.inr (Or.inl ⟨a1, hx.1, by omega, a4, a5, ?_⟩)
      rw [f _ a5 8 (by decide) (by decide), (sst_ext (f _ a5)).2]
      exact a6
    · exact Or.inr (Or.inr ⟨a1, hx.1, by omega, a4, a5, (hset_ext (f _ a5)).mpr a6⟩)
/-- the work ended -/
theorem RI_ends {r : Int → Int} (h : RI r) : RI (endsF r) := by
  obtain ⟨n, rb, rt, pi, so, j, w⟩ := h
  unfold NI at n
  have e : ∀ i : Int, (i < 4 ∨ 6 < i) → endsF r i = r i := fun i hi => endsF_at hi
  have f : ∀ p, 0 ≤ p → ∀ v, 0 ≤ v → v < 10 → jf (endsF r) p v = jf r p v := fun p a v b c => e _ (by omega)
  refine ⟨?_, ?_, ?_, ?_, SO_ext (e 0 (by decide)) (fun p a d => f p a 0 (by decide) (by decide)) so, fun p a d => ?_, Or.inl ⟨?_, ?_, ?_⟩⟩
  · unfold NI
    rw [e 0 (by decide), e 1 (by decide), e 2 (by decide), e 3 (by decide), e 7 (by decide), e 8 (by decide), e 9 (by decide), e 10 (by decide), e 11 (by decide), e 12 (by decide), e 13 (by decide), e 14 (by decide), e 15 (by decide), e 24 (by decide)]
    exact n
  · unfold endsF
    exact RB_up1 (RB_up1 (RB_up1 rb (Or.inl (by decide))) (Or.inl (by decide))) (Or.inl (by decide))
  · unfold endsF
    exact RT_up (by decide) (RT_up (by decide) (RT_up (by decide) rt))
  · unfold endsF
    exact PI_up (by decide) (by rw [up1_ne (by decide), up1_ne (by decide)]; omega) (PI_up (by decide) (by rw [up1_ne (by decide)]; omega) (PI_up (by decide) (by omega) pi))
  · rw [e 0 (by decide)] at d
    exact JI_ext (by omega) (by rw [e 1 (by decide)]; exact Int.le_refl _) (f p a) (j p a d)
  · unfold endsF; rw [up1_ne (by decide), up1_at]
  · unfold endsF; rw [up1_ne (by decide), up1_ne (by decide), up1_at]
  · unfold endsF; exact up1_at
