/-! the invariant behind work that begins -/
theorem plc_self {r : Int → Int} {p : Int} (so : SO r) (hp : 0 ≤ p ∧ p < r 0) : plc r (jf r p 0) = p := plc_at hp.1 hp.2 rfl (fun i a d z => by
  have := so i p a d hp.2
  omega)
theorem RI_work {r : Int → Int} {p v x : Int} (h : RI r) (hp : 0 ≤ p ∧ p < r 0) (hv : (v = 1 ∧ jf r p 8 < als r p ∧ 1 ≤ x ∧ x ≤ 60) ∨ (v = 2 ∧ hset r p ∧ 1 ≤ x ∧ x ≤ 20)) : RI (up1 (up1 (up1 r 5 v) 6 (jf r p 0)) 4 x) := by
  obtain ⟨n, rb, rt, pi, so, js, wi⟩ := h
  unfold NI at n
  have jp := js p hp.1 hp.2
  have jb := jp.1
  unfold JB at jb
  have e : ∀ i : Int, ¬ i = 4 → ¬ i = 5 → ¬ i = 6 → up1 (up1 (up1 r 5 v) 6 (jf r p 0)) 4 x i = r i := fun i a d f => by
    rw [up1_ne a, up1_ne f, up1_ne d]
  have f : ∀ q, 0 ≤ q → ∀ w, 0 ≤ w → w < 10 → jf (up1 (up1 (up1 r 5 v) 6 (jf r p 0)) 4 x) q w = jf r q w := fun q a w b c => e _ (by omega) (by omega) (by omega)
  have pe : ∀ j, plc (up1 (up1 (up1 r 5 v) 6 (jf r p 0)) 4 x) j = plc r j := plc_ext (e 0 (by decide) (by decide) (by decide)) (fun q a d => f q a 0 (by decide) (by decide))
  refine ⟨?_, RB_up1 (RB_up1 (RB_up1 rb (Or.inl (by omega))) (Or.inl (by omega))) (Or.inl (by omega)), RT_up (by decide) (RT_up (by decide) (RT_up (by decide) rt)), PI_up (by decide) (by rw [up1_ne (by decide), up1_ne (by decide)]; omega) (PI_up (by decide) (by rw [up1_ne (by decide)]; omega) (PI_up (by decide) (by omega) pi)), SO_ext (e 0 (by decide) (by decide) (by decide)) (fun q a d => f q a 0 (by decide) (by decide)) so, fun q a d => ?_, ?_⟩
  · unfold NI
    rw [e 0 (by decide) (by decide) (by decide), e 1 (by decide) (by decide) (by decide), e 2 (by decide) (by decide) (by decide), e 3 (by decide) (by decide) (by decide), e 7 (by decide) (by decide) (by decide), e 8 (by decide) (by decide) (by decide), e 9 (by decide) (by decide) (by decide), e 10 (by decide) (by decide) (by decide), e 11 (by decide) (by decide) (by decide), e 12 (by decide) (by decide) (by decide), e 13 (by decide) (by decide) (by decide), e 14 (by decide) (by decide) (by decide), e 15 (by decide) (by decide) (by decide), e 24 (by decide) (by decide) (by decide)]
    exact n
  · rw [e 0 (by decide) (by decide) (by decide)] at d
    exact JI_ext (by omega) (by rw [e 1 (by decide) (by decide) (by decide)]; exact Int.le_refl _) (f q a) (js q a d)
  · unfold WI
    have e4 : up1 (up1 (up1 r 5 v) 6 (jf r p 0)) 4 x 4 = x := up1_at
    have e5 : up1 (up1 (up1 r 5 v) 6 (jf r p 0)) 4 x 5 = v := by rw [up1_ne (by decide), up1_ne (by decide), up1_at]
    have e6 : up1 (up1 (up1 r 5 v) 6 (jf r p 0)) 4 x 6 = jf r p 0 := by rw [up1_ne (by decide), up1_at]
    rw [e4, e5, e6, pe, plc_self so hp, f p hp.1 8 (by decide) (by decide), (sst_ext (f p hp.1)).2]
    rcases hv with ⟨a, b, c⟩ | ⟨a, b, c⟩
    · exact Or.inr (Or.inl ⟨a, c.1, c.2, jb.2.2.1, hp.1, b⟩)
    · exact Or.inr (Or.inr ⟨a, c.1, c.2, jb.2.2.1, hp.1, (hset_ext (f p hp.1)).mpr b⟩)
theorem pigeon : ∀ (m n : Nat) (f : Nat → Nat), (∀ k, k < n → f k < m) → (∀ i k, i < k → k < n → ¬ f i = f k) → n ≤ m := by
  intro m
  induction m with
  | zero =>
    intro n f h _
    rcases Nat.eq_zero_or_pos n with z | z
    · omega
    · exact absurd (h 0 z) (by omega)
  | succ m ih =>
    intro n f h hi
    by_cases y : ∃ k0, k0 < n ∧ f k0 = m
    · obtain ⟨k0, a, b⟩ := y
      have hne : ∀ k, k < n → ¬ k = k0 → ¬ f k = m := fun k c d z => by
        rcases Nat.lt_or_ge k k0 with w | w
        · exact hi k k0 w a (by omega)
        · exact hi k0 k (by omega) c (by omega)
      have key := ih (n - 1) (fun k => if k = k0 then f (n - 1) else f k) (fun k c => ?_) (fun i k c d => ?_)
      · omega
      · split
        · next z =>
          have := h (n - 1) (by omega)
          have := hne (n - 1) (by omega) (by omega)
          omega
        · next z =>
          have := h k (by omega)
          have := hne k (by omega) z
          omega
      · split
        · next z =>
          rw [if_neg (by omega)]
          intro w
          exact hi k (n - 1) (by omega) (by omega) w.symm
        · split
          · exact hi i (n - 1) (by omega) (by omega)
          · exact hi i k c (by omega)
    · exact Nat.le_succ_of_le (ih n f (fun k c => by
        have := h k c
        have : ¬ f k = m := fun z => y ⟨k, c, z⟩
        omega) hi)
theorem pap_new {r : Int → Int} {s q : Int} (h9 : 0 ≤ r 9) (pi : PI_ r) (hs : 0 ≤ s ∧ s ≤ 3) (hq : 0 ≤ q ∧ q ≤ 3) (hn : ∀ i, 0 ≤ i → i < r 9 → ¬ ppm r s q i) : r 9 < 16 := by
  have key := pigeon 16 ((r 9).toNat + 1) (fun k => if k = (r 9).toNat then (4 * s + q).toNat else (4 * r (37 + 3 * (k : Int)) + r (37 + 3 * (k : Int) + 1)).toNat) (fun k a => ?_) (fun i k a d => ?_)
  · omega
  · split
    · omega
    · have := pi.1 (k : Int) (by omega) (by omega)
      omega
  · have p1 := pi.1 (i : Int) (by omega) (by omega)
    rw [if_neg (by omega)]
    split
    · have := hn (i : Int) (by omega) (by omega)
      unfold ppm at this
      omega
    · have p2 := pi.1 (k : Int) (by omega) (by omega)
      have p3 := pi.2 (i : Int) (k : Int) (by omega) (by omega) (by omega)
      omega
theorem RI_tkO {r : Int → Int} {s q : Int} (h : RI r) (hs : 0 ≤ s ∧ s ≤ 3) (hq : 0 ≤ q ∧ q ≤ 3) (hl : ¬ lwt r s q = -1) : tkO r s q := by
  have n := h.1
  unfold NI at n
  have ht : ∃ t, 0 ≤ t ∧ t ≤ 3 ∧ twk r s q t := by
    apply Classical.byContradiction
    intro y
    exact hl (lwt_no (fun t a d z => y ⟨t, a, d, z⟩))
  have ls := lwt_sp ht
  have rt := h.2.2.1 (lwt r s q) ls.1 (by omega)
  have e : ppl (tk0 r s q) s q = ppl r s q := ppl_ext (by omega) (tk0_at ⟨ls.1, ls.2.1⟩ (by decide)) (fun k a d => ⟨tk0_at ⟨ls.1, ls.2.1⟩ (by omega), tk0_at ⟨ls.1, ls.2.1⟩ (by omega)⟩)
  refine ⟨h.rr, ht, by omega, ?_⟩
  rw [e]
  rcases ppl_sp r s q (by omega) with ⟨a, d⟩ | ⟨a, d, -⟩
  · rw [a]
    exact pap_new (by omega) h.2.2.2.1 hs hq d
  · omega
theorem RI_pp {r r' : Int → Int} (h : RI r) (e : ∀ i, ¬ i = 9 → (i < 37 ∨ 85 ≤ i) → r' i = r i) (h9 : 0 ≤ r' 9 ∧ r' 9 ≤ 16) (rb : RB r') (pi : PI_ r') : RI r' := by
  obtain ⟨n, -, rt, -, so, js, wi⟩ := h
  unfold NI at n
  have f : ∀ q, 0 ≤ q → ∀ w, 0 ≤ w → w < 10 → jf r' q w = jf r q w := fun q a w b c => e _ (by omega) (by omega)
  have g : ∀ i : Int, i < 37 → ¬ i = 9 → r' i = r i := fun i a b => e i b (Or.inl a)
  refine ⟨?_, rb, fun t a d => ?_, pi, SO_ext (g 0 (by decide) (by decide)) (fun q a d => f q a 0 (by decide) (by decide)) so, fun q a d => ?_, WI_ext (g 4 (by decide) (by decide)) (g 5 (by decide) (by decide)) (g 6 (by decide) (by decide)) (Or.inr fun z => ?_) wi⟩
  · unfold NI
    rw [g 0 (by decide) (by decide), g 1 (by decide) (by decide), g 2 (by decide) (by decide), g 3 (by decide) (by decide), g 7 (by decide) (by decide), g 8 (by decide) (by decide), g 10 (by decide) (by decide), g 11 (by decide) (by decide), g 12 (by decide) (by decide), g 13 (by decide) (by decide), g 14 (by decide) (by decide), g 15 (by decide) (by decide), g 24 (by decide) (by decide)]
    omega
  · rw [g _ (by omega) (by omega), g _ (by omega) (by omega), g _ (by omega) (by omega)]
    exact rt t a d
  · rw [g 0 (by decide) (by decide)] at d
    exact JI_ext (by omega) (by rw [g 1 (by decide) (by decide)]; exact Int.le_refl _) (f q a) (js q a d)
  · rw [plc_ext (g 0 (by decide) (by decide)) (fun q a d => f q a 0 (by decide) (by decide))]
    exact ⟨z, f _ z⟩
theorem RI_tk {r : Int → Int} {s q : Int} (h : RI r) (hO : tkO r s q) (hs : 0 ≤ s ∧ s ≤ 3) (hq : 0 ≤ q ∧ q ≤ 3) : RI (tkF r s q) := by
  obtain ⟨z1, z2, z3, z4⟩ := tkO_0 hO
  have ls := lwt_sp hO.2.1
  have rt := h.2.2.1 (lwt r s q) ls.1 (by omega)
  have tw := ls.2.2.1
  have a1 : RI (sbn r (25 + 3 * lwt r s q + 2) 1) := RI_tray h (by omega) (Or.inr (by unfold twk at tw; omega))
  have u : RI (tk0 r s q) := RI_num a1 (by omega)
  have n := u.1
  unfold NI at n
  unfold tkF
  generalize tk0 r s q = v at u n z2 z3 z4 ⊢
  have pi := u.2.2.2.1
  by_cases y : ppl v s q = v 9
  · have d : ∀ i, 0 ≤ i → i < v 9 → ¬ ppm v s q i := by
      rcases ppl_sp v s q (by omega) with w | w
      · exact w.2
      · omega
    have e : inc (tk1 v s q) (37 + 3 * ppl v s q + 2) = up1 (up1 (up1 (up1 v (37 + 3 * v 9) s) (37 + 3 * v 9 + 1) q) (37 + 3 * v 9 + 2) 1) 9 (v 9 + 1) := by
      unfold tk1
      rw [if_pos y, y]
      unfold inc
      funext z
      unfold up1
      (repeat' split) <;> first | rfl | omega
    rw [e]
    refine RI_pp u (fun i a b => ?_) (by rw [up1_at]; omega) (RB_up1 (RB_up1 (RB_up1 (RB_up1 u.2.1 (Or.inl (by omega))) (Or.inl (by omega))) (Or.inl (by omega))) (Or.inl (by omega))) ⟨fun k a b => ?_, fun i k a b c => ?_⟩
    · rw [up1_ne a, up1_ne (by omega), up1_ne (by omega), up1_ne (by omega)]
    · rw [up1_at] at b
      rw [up1_ne (by omega), up1_ne (by omega), up1_ne (by omega), up1_ne (show ¬ 37 + 3 * k + 1 = 9 by omega), up1_ne (show ¬ 37 + 3 * k + 1 = 37 + 3 * v 9 + 2 by omega)]
      by_cases w : k = v 9
      · subst w
        rw [up1_at, up1_at]
        exact ⟨hs, hq⟩
      · have p := pi.1 k a (by omega)
        rw [up1_ne (by omega), up1_ne (by omega), up1_ne (by omega)]
        exact p
    · rw [up1_at] at c
      have g : ∀ j, 0 ≤ j → j < v 9 → up1 (up1 (up1 (up1 v (37 + 3 * v 9) s) (37 + 3 * v 9 + 1) q) (37 + 3 * v 9 + 2) 1) 9 (v 9 + 1) (37 + 3 * j) = v (37 + 3 * j) ∧ up1 (up1 (up1 (up1 v (37 + 3 * v 9) s) (37 + 3 * v 9 + 1) q) (37 + 3 * v 9 + 2) 1) 9 (v 9 + 1) (37 + 3 * j + 1) = v (37 + 3 * j + 1) := fun j x w => by
        constructor
        · rw [up1_ne (by omega), up1_ne (by omega), up1_ne (by omega), up1_ne (by omega)]
        · rw [up1_ne (by omega), up1_ne (by omega), up1_ne (by omega), up1_ne (by omega)]
      rw [(g i a (by omega)).1, (g i a (by omega)).2]
      by_cases w : k = v 9
      · subst w
        have l1 : up1 (up1 (up1 (up1 v (37 + 3 * v 9) s) (37 + 3 * v 9 + 1) q) (37 + 3 * v 9 + 2) 1) 9 (v 9 + 1) (37 + 3 * v 9) = s := by
          rw [up1_ne (by omega), up1_ne (by omega), up1_ne (by omega), up1_at]
        have l2 : up1 (up1 (up1 (up1 v (37 + 3 * v 9) s) (37 + 3 * v 9 + 1) q) (37 + 3 * v 9 + 2) 1) 9 (v 9 + 1) (37 + 3 * v 9 + 1) = q := by
          rw [up1_ne (by omega), up1_ne (by omega), up1_at]
        rw [l1, l2]
        exact d i a b
      · rw [(g k (by omega) (by omega)).1, (g k (by omega) (by omega)).2]
        exact pi.2 i k a b (by omega)
  · have e : tk1 v s q = v := if_neg y
    rw [e]
    unfold inc
    refine RI_pp u (fun i a b => up1_ne (by omega)) (by rw [up1_ne (by omega)]; omega) (RB_up1 u.2.1 (Or.inr (Or.inr (by omega)))) ⟨fun k a b => ?_, fun i k a b c => ?_⟩
    · rw [up1_ne (by omega)] at b
      rw [up1_ne (by omega), up1_ne (by omega)]
      exact pi.1 k a b
    · rw [up1_ne (by omega)] at c
      rw [up1_ne (by omega), up1_ne (by omega), up1_ne (by omega), up1_ne (by omega)]
      exact pi.2 i k a b c
