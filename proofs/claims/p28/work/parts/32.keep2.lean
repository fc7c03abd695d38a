/-! a job changed; a job gone -/
def JI0 (r : Int → Int) (p : Int) : Prop := JB r p ∧ (jf r p 5 < 12 ∧ (4 ≤ jf r p 5 → jf r p 5 / 2 % 2 = 1 ∧ ¬ jf r p 4 = 3 ∧ 2 ≤ sst r p ∧ jf r p 9 ≤ jf r p 8 / sst r p) ∧ (jf r p 5 < 4 → jf r p 9 = 0)) ∧ (jf r p 8 ≤ als r p ∧ jf r p 9 ≤ jf r p 2) ∧ jf r p 0 < r 1
theorem JI.c0 {r : Int → Int} {p : Int} (h : JI r p) : JI0 r p := ⟨h.1, h.2.1, h.2.2.1, h.2.2.2.2⟩
theorem JI0.ji {r : Int → Int} {p : Int} (h : JI0 r p) (d : ¬ donF r p) : JI r p := ⟨h.1, h.2.1, h.2.2.1, d, h.2.2.2⟩
/-- all but that job p may be done -/
def RX (r : Int → Int) (p : Int) : Prop := NI r ∧ RB r ∧ RT r ∧ PI_ r ∧ SO r ∧ (∀ q : Int, 0 ≤ q → q < r 0 → JI0 r q ∧ (¬ q = p → ¬ donF r q)) ∧ WI r
theorem goesF_RB {r : Int → Int} {p : Int} (hp : 0 ≤ p ∧ p < r 0) (h0 : r 0 ≤ 10) (rb : RB r) : RB (goesF r p) := fun k a d e => by
  unfold goesF sh10 sbn
  by_cases y : 85 + 10 * p ≤ k ∧ k < 85 + 10 * (r 0 - 1)
  · simp only [if_pos y]
    rw [up1_ne (by omega)]
    exact rb _ (by omega) (by omega) (by omega)
  · simp only [if_neg y]
    by_cases z : k = 0
    · rw [z, up1_at]; omega
    · rw [up1_ne z]; exact rb k a d e
theorem goes_plc {r : Int → Int} {p j : Int} (hp : 0 ≤ p ∧ p < r 0) (h : 0 ≤ plc r j) (hne : ¬ plc r j = p) : 0 ≤ plc (goesF r p) j ∧ ∀ w, 0 ≤ w → w < 10 → jf (goesF r p) (plc (goesF r p) j) w = jf r (plc r j) w := by
  have s : 0 ≤ plc r j ∧ plc r j < r 0 ∧ jf r (plc r j) 0 = j ∧ ∀ i, 0 ≤ i → i < plc r j → ¬ jf r i 0 = j := by
    rcases plc_sp r j with a | a
    · omega
    · exact a
  obtain ⟨s0, s1, s2, s3⟩ := s
  have g0 := goesF_0 (r := r) hp.1
  by_cases y : plc r j < p
  · have e : plc (goesF r p) j = plc r j := plc_at s0 (by omega) (by rw [goesF_lo hp.1 y s0 (by decide) (by decide)]; exact s2) (fun i a d => by rw [goesF_lo hp.1 (by omega) a (by decide) (by decide)]; exact s3 i a d)
    rw [e]
    exact ⟨s0, fun w a d => goesF_lo hp.1 y s0 a d⟩
  · have e : plc (goesF r p) j = plc r j - 1 := by
      refine plc_at (by omega) (by omega) ?_ (fun i a d => ?_)
      · rw [goesF_hi hp.1 (by omega) (by omega) (by decide) (by decide), show plc r j - 1 + 1 = plc r j by omega]
        exact s2
      · by_cases z : i < p
        · rw [goesF_lo hp.1 z a (by decide) (by decide)]
          exact s3 i a (by omega)
        · rw [goesF_hi hp.1 (by omega) (by omega) (by decide) (by decide)]
          exact s3 (i + 1) (by omega) (by omega)
    rw [e]
    refine ⟨by omega, fun w a d => ?_⟩
    rw [goesF_hi hp.1 (by omega) (by omega) a d, show plc r j - 1 + 1 = plc r j by omega]
theorem RX_goes {r : Int → Int} {p : Int} (h : RX r p) (hp : 0 ≤ p ∧ p < r 0) (hw : r 5 = 0 ∨ ¬ plc r (r 6) = p) : RI (goesF r p) := by
  obtain ⟨n, rb, rt, pi, so, j, w⟩ := h
  unfold NI at n
  have g : ∀ k, k < 85 → ¬ k = 0 → goesF r p k = r k := fun k a d => goesF_at hp.1 a d
  have g0 := goesF_0 (r := r) hp.1
  refine ⟨?_, goesF_RB hp (by omega) rb, fun t a d => ?_, ⟨fun k a d => ?_, fun i k a d e => ?_⟩, fun q q' a d e => ?_, fun q a d => ?_, WI_ext (g 4 (by decide) (by decide)) (g 5 (by decide) (by decide)) (g 6 (by decide) (by decide)) ?_ w⟩
  · unfold NI
    rw [g0, g 1 (by decide) (by decide), g 2 (by decide) (by decide), g 3 (by decide) (by decide), g 7 (by decide) (by decide), g 8 (by decide) (by decide), g 9 (by decide) (by decide), g 10 (by decide) (by decide), g 11 (by decide) (by decide), g 12 (by decide) (by decide), g 13 (by decide) (by decide), g 14 (by decide) (by decide), g 15 (by decide) (by decide), g 24 (by decide) (by decide)]
    omega
  · rw [g _ (by omega) (by omega), g _ (by omega) (by omega), g _ (by omega) (by omega)]
    exact rt t a d
  · rw [g 9 (by decide) (by decide)] at d
    rw [g _ (by omega) (by omega), g _ (by omega) (by omega)]
    exact pi.1 k a d
  · rw [g 9 (by decide) (by decide)] at e
    rw [g _ (by omega) (by omega), g _ (by omega) (by omega), g _ (by omega) (by omega), g _ (by omega) (by omega)]
    exact pi.2 i k a d e
  · rw [g0] at e
    by_cases y : q < p
    · rw [goesF_lo hp.1 y a (by decide) (by decide)]
      by_cases z : q' < p
      · rw [goesF_lo hp.1 z (by omega) (by decide) (by decide)]
        exact so q q' a d (by omega)
      · rw [goesF_hi hp.1 (by omega) e (by decide) (by decide)]
        exact so q (q' + 1) a (by omega) (by omega)
    · rw [goesF_hi hp.1 (by omega) (by omega) (by decide) (by decide), goesF_hi hp.1 (by omega) e (by decide) (by decide)]
      exact so (q + 1) (q' + 1) (by omega) (by omega) (by omega)
  · rw [g0] at d
    by_cases y : q < p
    · have z := j q a (by omega)
      exact JI_ext (by omega) (by rw [g 1 (by decide) (by decide)]; exact Int.le_refl _) (fun v b c => goesF_lo hp.1 y a b c) (z.1.ji (z.2 (by omega)))
    · have z := j (q + 1) (by omega) (by omega)
      exact JI_ext (by omega) (by rw [g 1 (by decide) (by decide)]; exact Int.le_refl _) (fun v b c => goesF_hi hp.1 (by omega) d b c) (z.1.ji (z.2 (by omega)))
  · rcases hw with a | a
    · exact Or.inl a
    · exact Or.inr fun z => goes_plc hp z a
theorem RI.rx {r : Int → Int} {p : Int} (h : RI r) : RX r p := ⟨h.1, h.2.1, h.2.2.1, h.2.2.2.1, h.2.2.2.2.1, fun q a d => ⟨(h.2.2.2.2.2.1 q a d).c0, fun _ => (h.2.2.2.2.2.1 q a d).2.2.2.1⟩, h.2.2.2.2.2.2⟩
theorem RX.ri {r : Int → Int} {p : Int} (h : RX r p) (d : 0 ≤ p → p < r 0 → ¬ donF r p) : RI r := ⟨h.1, h.2.1, h.2.2.1, h.2.2.2.1, h.2.2.2.2.1, fun q a b => (h.2.2.2.2.2.1 q a b).1.ji (by
  by_cases z : q = p
  · rw [z] at a b ⊢
    exact d a b
  · exact (h.2.2.2.2.2.1 q a b).2 z), h.2.2.2.2.2.2⟩
/-- the same, the STAYS number changed -/
theorem RX_stay {r : Int → Int} {p j : Int} (h : RX r p) : RX (stayF r j) p := by
  obtain ⟨n, rb, rt, pi, so, js, w⟩ := h
  have n0 := n
  unfold NI at n
  unfold stayF
  generalize hx : (if r 7 = j then (-4 : Int) else r 7) = x
  have x7 : x = -4 ∨ x = r 7 := by
    rw [← hx]
    split
    · exact Or.inl rfl
    · exact Or.inr rfl
  have e : ∀ i : Int, ¬ i = 7 → up1 r 7 x i = r i := fun i hi => up1_ne hi
  have f : ∀ q, 0 ≤ q → ∀ v, 0 ≤ v → v < 10 → jf (up1 r 7 x) q v = jf r q v := fun q a v b c => e _ (by omega)
  refine ⟨?_, RB_up1 rb (Or.inl (by omega)), RT_up (by decide) rt, PI_up (by decide) (by omega) pi, SO_ext (e 0 (by decide)) (fun q a d => f q a 0 (by decide) (by decide)) so, fun q a d => ?_, WI_ext (e 4 (by decide)) (e 5 (by decide)) (e 6 (by decide)) (Or.inr fun z => ?_) w⟩
  · unfold NI
    rw [e 0 (by decide), e 1 (by decide), e 2 (by decide), e 3 (by decide), e 8 (by decide), e 9 (by decide), e 10 (by decide), e 11 (by decide), e 12 (by decide), e 13 (by decide), e 14 (by decide), e 15 (by decide), e 24 (by decide), up1_at]
    omega
  · rw [e 0 (by decide)] at d
    have y := js q a d
    have s := sst_ext (f q a)
    obtain ⟨⟨y1, y2, y3, y4⟩, y5⟩ := y
    refine ⟨⟨JB_ext (f q a) y1, ?_, ?_, ?_⟩, fun z => ?_⟩
    · rw [f q a 5 (by decide) (by decide), f q a 4 (by decide) (by decide), f q a 8 (by decide) (by decide), f q a 9 (by decide) (by decide), s.1]; exact y2
    · rw [f q a 8 (by decide) (by decide), s.2, f q a 9 (by decide) (by decide), f q a 2 (by decide) (by decide)]; exact y3
    · rw [f q a 0 (by decide) (by decide), e 1 (by decide)]; exact y4
    · unfold donF
      rw [f q a 8 (by decide) (by decide), s.2, f q a 5 (by decide) (by decide), f q a 9 (by decide) (by decide), f q a 2 (by decide) (by decide)]
      exact y5 z
  · rw [plc_ext (e 0 (by decide)) (fun q a d => f q a 0 (by decide) (by decide))]
    exact ⟨z, f _ z⟩
theorem RX_leav {r : Int → Int} {p : Int} (h : RX r p) (hp : 0 ≤ p ∧ p < r 0) (h5 : r 5 = 0) : RI (leavF r p) := by
  unfold leavF
  split
  · have e0 : stayF r (jf r p 0) 0 = r 0 := up1_ne (by decide)
    have e5 : stayF r (jf r p 0) 5 = r 5 := up1_ne (by decide)
    have y := RX_goes (RX_stay (j := jf r p 0) h) (p := p) (by omega) (Or.inl (by omega))
    exact RI_num y (by omega)
  · next d => exact h.ri (fun _ _ => d)
/-- a job's stapled sets, or its printed sheets, one more -/
theorem RX_job {r : Int → Int} {p w : Int} (h : RI r) (hp : 0 ≤ p ∧ p < r 0) (h5 : r 5 = 0) (hw : (w = 9 ∧ hset r p) ∨ (w = 8 ∧ jf r p 8 < als r p)) : RX (inc r (85 + 10 * p + w)) p := by
  obtain ⟨n, rb, rt, pi, so, js, wi⟩ := h
  unfold NI at n
  have jp := js p hp.1 hp.2
  obtain ⟨y1, y2, y3, y4, y5⟩ := id jp
  have s := sst_rg y1
  have al := als_rg y1
  have jb := y1
  unfold JB at jb
  unfold inc
  have e : ∀ i : Int, i < 85 → up1 r (85 + 10 * p + w) (r (85 + 10 * p + w) + 1) i = r i := fun i hi => up1_ne (by omega)
  have f : ∀ q, 0 ≤ q → ∀ v, 0 ≤ v → v < 10 → jf (up1 r (85 + 10 * p + w) (r (85 + 10 * p + w) + 1)) q v = if q = p ∧ v = w then jf r p w + 1 else jf r q v := fun q a v b c => by
    by_cases z : q = p ∧ v = w
    · rw [if_pos z, z.1, z.2]; exact up1_at
    · rw [if_neg z]; exact up1_ne (by omega)
  have f2 : ∀ q, 0 ≤ q → ¬ q = p → ∀ v, 0 ≤ v → v < 10 → jf (up1 r (85 + 10 * p + w) (r (85 + 10 * p + w) + 1)) q v = jf r q v := fun q a z v b c => by
    rw [f q a v b c, if_neg (fun y => z y.1)]
  have f3 : ∀ v, 0 ≤ v → v < 8 → jf (up1 r (85 + 10 * p + w) (r (85 + 10 * p + w) + 1)) p v = jf r p v := fun v b c => by
    rw [f p hp.1 v b (by omega), if_neg (by omega)]
  have sp : sst (up1 r (85 + 10 * p + w) (r (85 + 10 * p + w) + 1)) p = sst r p ∧ als (up1 r (85 + 10 * p + w) (r (85 + 10 * p + w) + 1)) p = als r p := by
    unfold als sst
    rw [f3 1 (by decide) (by decide), f3 2 (by decide) (by decide), f3 5 (by decide) (by decide)]
    exact ⟨rfl, rfl⟩
  have rw9 : r (85 + 10 * p + w) = jf r p w := rfl
  have g8 : jf (up1 r (85 + 10 * p + w) (r (85 + 10 * p + w) + 1)) p 8 = if w = 8 then jf r p 8 + 1 else jf r p 8 := by
    rw [f p hp.1 8 (by decide) (by decide)]
    by_cases z : w = 8
    · rw [if_pos ⟨rfl, z.symm⟩, if_pos z, z]
    · rw [if_neg (fun y => z y.2.symm), if_neg z]
  have g9 : jf (up1 r (85 + 10 * p + w) (r (85 + 10 * p + w) + 1)) p 9 = if w = 9 then jf r p 9 + 1 else jf r p 9 := by
    rw [f p hp.1 9 (by decide) (by decide)]
    by_cases z : w = 9
    · rw [if_pos ⟨rfl, z.symm⟩, if_pos z, z]
    · rw [if_neg (fun y => z y.2.symm), if_neg z]
  have h9 : w = 9 → jf r p 9 < jf r p 2 ∧ jf r p 9 < jf r p 8 / sst r p ∧ 0 < jf r p 5 / 4 := fun z => by
    have hs : hset r p := by omega
    exact ⟨hset_lt y1 y3.1 hs, hs.2, hs.1⟩
  refine ⟨?_, RB_up1 rb (Or.inl ?_), RT_up (by omega) rt, PI_up (by omega) (by omega) pi, SO_ext (e 0 (by decide)) (fun q a d => ?_) so, fun q a d => ?_, WI_ext (e 4 (by decide)) (e 5 (by decide)) (e 6 (by decide)) (Or.inl h5) wi⟩
  · unfold NI
    rw [e 0 (by decide), e 1 (by decide), e 2 (by decide), e 3 (by decide), e 7 (by decide), e 8 (by decide), e 9 (by decide), e 10 (by decide), e 11 (by decide), e 12 (by decide), e 13 (by decide), e 14 (by decide), e 15 (by decide), e 24 (by decide)]
    exact n
  · rw [rw9]
    rcases hw with ⟨rfl, z⟩ | ⟨rfl, z⟩ <;> omega
  · rw [f q a 0 (by decide) (by decide), if_neg (by omega)]
  · rw [e 0 (by decide)] at d
    by_cases z : q = p
    · subst z
      refine ⟨⟨?_, ?_, ?_, ?_⟩, fun z => absurd rfl z⟩
      · unfold JB at y1 ⊢
        rw [f3 0 (by decide) (by decide), f3 1 (by decide) (by decide), f3 2 (by decide) (by decide), f3 3 (by decide) (by decide), f3 4 (by decide) (by decide), f3 5 (by decide) (by decide), f3 6 (by decide) (by decide), f3 7 (by decide) (by decide), g8, g9]
        rcases hw with ⟨rfl, z⟩ | ⟨rfl, z⟩
        · have := h9 rfl
          rw [if_pos rfl, if_neg (show ¬ (9 : Int) = 8 by decide)]; omega
        · rw [if_pos rfl, if_neg (by decide)]; omega
      · rw [f3 5 (by decide) (by decide), f3 4 (by decide) (by decide), sp.1, g8, g9]
        rcases hw with ⟨rfl, z⟩ | ⟨rfl, z⟩
        · have := h9 rfl
          rw [if_pos rfl, if_neg (show ¬ (9 : Int) = 8 by decide)]; omega
        · rw [if_pos rfl, if_neg (by decide)]
          have mono : jf r q 8 / sst r q ≤ (jf r q 8 + 1) / sst r q := Int.ediv_le_ediv (by omega) (by omega)
          omega
      · rw [sp.2, f3 2 (by decide) (by decide), g8, g9]
        rcases hw with ⟨rfl, z⟩ | ⟨rfl, z⟩
        · have := h9 rfl
          rw [if_pos rfl, if_neg (show ¬ (9 : Int) = 8 by decide)]; omega
        · rw [if_pos rfl, if_neg (by decide)]; omega
      · rw [f3 0 (by decide) (by decide), e 1 (by decide)]; exact y5
    · have jq := JI_ext (p' := q) (by omega) (by rw [e 1 (by decide)]; exact Int.le_refl _) (f2 q a z) (js q a d)
      exact ⟨jq.c0, fun _ => jq.2.2.2.1⟩
