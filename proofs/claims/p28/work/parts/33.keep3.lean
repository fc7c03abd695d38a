/-! the invariant behind works, ticks, holds -/
theorem useF_rg {r : Int → Int} {p : Int} (h3 : 0 ≤ r 3) (h : 0 ≤ jf r p 5) : 0 ≤ useF r p ∧ useF r p ≤ r 3 := by
  unfold useF
  split <;> omega
theorem RI_stap {r : Int → Int} {p : Int} (h : RI r) (h5 : r 5 = 0) (hp : 0 ≤ p ∧ p < r 0) (hs : hset r p) : RI (stapF r p) := by
  have n := h.1
  unfold NI at n
  have jb := (h.2.2.2.2.2.1 p hp.1 hp.2).1
  unfold JB at jb
  have u := useF_rg (r := r) (p := p) (by omega) (by omega)
  have a : RI (sbn r 3 (useF r p)) := RI_num h (by omega)
  have b : RI (adn (sbn r 3 (useF r p)) 20 (useF r p)) := RI_num a (by omega)
  have e : ∀ k, ¬ k = 3 → ¬ k = 20 → adn (sbn r 3 (useF r p)) 20 (useF r p) k = r k := fun k x y => by
    unfold adn sbn
    rw [up1_ne y, up1_ne x]
  have hs2 : hset (adn (sbn r 3 (useF r p)) 20 (useF r p)) p := (hset_ext (r := r) (p := p) (fun w x y => e _ (by omega) (by omega))).mpr hs
  have e0 := e 0 (by decide) (by decide)
  have e5 := e 5 (by decide) (by decide)
  have c : RX (stapF0 r p) p := RX_job b (by omega) (by omega) (Or.inl ⟨rfl, hs2⟩)
  exact RX_leav c (by rw [stap0_at hp.1 (by decide) (by decide) (by decide)]; exact hp) (by rw [stap0_at hp.1 (by decide) (by decide) (by decide)]; exact h5)
theorem RI_fin1 {r : Int → Int} {p : Int} (h : RI r) (h5 : r 5 = 0) (hp : 0 ≤ p ∧ p < r 0) (h8 : jf r p 8 < als r p) (h2 : r 2 < r 8) : RI (fin1 r p) := by
  have n := h.1
  unfold NI at n
  unfold fin1
  split
  · exact RI_num h (by omega)
  · have a : RI (inc r 2) := RI_num h (by omega)
    have b : RI (inc (inc r 2) 17) := RI_num a (by omega)
    have c : RI (adn (inc (inc r 2) 17) 19 (sid (inc (inc r 2) 17) p)) := RI_num b (by omega)
    have e : ∀ k, ¬ k = 2 → ¬ k = 17 → ¬ k = 19 → adn (inc (inc r 2) 17) 19 (sid (inc (inc r 2) 17) p) k = r k := fun k x y z => by
      unfold adn inc
      rw [up1_ne z, up1_ne y, up1_ne x]
    have f : ∀ w, 0 ≤ w → w < 10 → jf (adn (inc (inc r 2) 17) 19 (sid (inc (inc r 2) 17) p)) p w = jf r p w := fun w x y => e _ (by omega) (by omega) (by omega)
    have e0 := e 0 (by decide) (by decide) (by decide)
    have e5 := e 5 (by decide) (by decide) (by decide)
    have d : RX (fin2 r p) p := RX_job c (by omega) (by omega) (Or.inr ⟨rfl, by rw [f 8 (by decide) (by decide), (sst_ext f).2]; exact h8⟩)
    exact RX_leav d (by rw [fin2_at hp.1 (by decide) (by decide) (by decide) (by decide)]; exact hp) (by rw [fin2_at hp.1 (by decide) (by decide) (by decide) (by decide)]; exact h5)
theorem ends_s {r : Int → Int} {t : Int} : endsF (sbn r 4 t) = endsF r := by
  unfold endsF sbn
  have : up1 (up1 r 4 (r 4 - t)) 4 0 = up1 r 4 0 := by
    funext q
    unfold up1
    split <;> rfl
  rw [this]
theorem RI_gb0 {r : Int → Int} {m : Int} (h : RI r) (h5 : ¬ r 5 = 0) (hm : 1 ≤ m) (h24 : r 24 + m ≤ 2000000) : RI (gbF r 0 m) ∧ 1 ≤ gbT r 0 m ∧ gbT r 0 m ≤ m := by
  have n := h.1
  unfold NI at n
  have w := h.2.2.2.2.2.2
  unfold WI at w
  have tb : 1 ≤ gbT r 0 m ∧ gbT r 0 m ≤ r 4 ∧ gbT r 0 m ≤ m := by unfold gbT; split <;> omega
  refine ⟨?_, tb.1, tb.2.2⟩
  generalize gbT r 0 m = t at tb
  have eG : gbF r 0 m = if r 4 - gbT r 0 m = 0 then finF (sbn (adn r 24 (gbT r 0 m)) 4 (gbT r 0 m)) else sbn (adn r 24 (gbT r 0 m)) 4 (gbT r 0 m) := by
    unfold gbF
    rw [if_neg (by decide)]
  rw [eG]
  have tb2 : 1 ≤ gbT r 0 m ∧ gbT r 0 m ≤ r 4 ∧ gbT r 0 m ≤ m := by unfold gbT; split <;> omega
  generalize gbT r 0 m = t at tb2 ⊢
  have X : RI (adn r 24 t) := RI_num h (by omega)
  have e : ∀ k, ¬ k = 24 → adn r 24 t k = r k := fun k x => up1_ne x
  have e24 : adn r 24 t 24 = r 24 + t := up1_at
  by_cases z : r 4 - t = 0
  · rw [if_pos z]
    have b : ∀ k, ¬ k = 4 → ¬ k = 24 → sbn (adn r 24 t) 4 t k = r k := fun k x y => tick_x x y
    have pe : ∀ j, plc (sbn (adn r 24 t) 4 t) j = plc r j := plc_ext (b 0 (by decide) (by decide)) (fun p a d => b _ (by omega) (by omega))
    unfold finF
    rw [b 5 (by decide) (by decide), b 6 (by decide) (by decide), pe, ends_s]
    have Y := RI_ends X
    have f : ∀ k, (k < 4 ∨ 6 < k) → ¬ k = 24 → endsF (adn r 24 t) k = r k := fun k x y => (endsF_at x).trans (e k y)
    have y5 : endsF (adn r 24 t) 5 = 0 := by unfold endsF; rw [up1_ne (by decide), up1_at]
    have f0 := f 0 (by decide) (by decide)
    have pl : 0 ≤ plc r (r 6) ∧ plc r (r 6) < r 0 := by
      rcases plc_sp r (r 6) with a | a <;> omega
    have fj : ∀ v, 0 ≤ v → v < 10 → jf (endsF (adn r 24 t)) (plc r (r 6)) v = jf r (plc r (r 6)) v := fun v x y => f _ (by omega) (by omega)
    split
    · next a =>
      have hs : hset r (plc r (r 6)) := by
        rcases w with y | y | y
        · omega
        · omega
        · exact y.2.2.2.2.2
      exact RI_stap Y y5 (by omega) ((hset_ext fj).mpr hs)
    · next a =>
      have h8 : jf r (plc r (r 6)) 8 < als r (plc r (r 6)) := by
        rcases w with y | y | y
        · omega
        · exact y.2.2.2.2.2
        · omega
      have f8 := f 8 (by decide) (by decide)
      have f2 := f 2 (by decide) (by decide)
      have f24 : endsF (adn r 24 t) 24 = r 24 + t := (endsF_at (by decide)).trans e24
      have i8 : inc (endsF (adn r 24 t)) 8 8 = r 8 + 1 := by unfold inc; rw [up1_at, f8]
      have i : ∀ k, ¬ k = 8 → inc (endsF (adn r 24 t)) 8 k = endsF (adn r 24 t) k := fun k x => up1_ne x
      have Z : RI (inc (endsF (adn r 24 t)) 8) := by
        have n2 := Y.1
        refine RI_lo Y (by decide) (Or.inl (by rw [f8]; omega)) ?_
        show NI (inc (endsF (adn r 24 t)) 8)
        unfold NI at n2 ⊢
        rw [i 0 (by decide), i 1 (by decide), i 2 (by decide), i 3 (by decide), i 7 (by decide), i 9 (by decide), i 10 (by decide), i 11 (by decide), i 12 (by decide), i 13 (by decide), i 14 (by decide), i 15 (by decide), i 24 (by decide), i8]
        omega
      have ij : ∀ v, 0 ≤ v → v < 10 → jf (inc (endsF (adn r 24 t)) 8) (plc r (r 6)) v = jf r (plc r (r 6)) v := fun v x y => (i _ (by omega)).trans (fj v x y)
      exact RI_fin1 Z (by rw [i 5 (by decide)]; exact y5) (by rw [i 0 (by decide), f0]; exact pl) (by rw [ij 8 (by decide) (by decide), (sst_ext ij).2]; exact h8) (by rw [i 2 (by decide), i8, f2]; omega)
  · rw [if_neg z]
    have e4 := e 4 (by decide)
    have e5 := e 5 (by decide)
    exact RI_left (x := adn r 24 t 4 - t) X (by omega) (by omega)
theorem RI_gb1 {r : Int → Int} {w m : Int} (h : RI r) (hw : 0 < w) (hm : 0 ≤ m) (h24 : r 24 + m ≤ 2000000) : RI (gbF r w m) ∧ gbT r w m = m := by
  have n := h.1
  unfold NI at n
  have t : gbT r w m = m := by unfold gbT; rw [if_pos (Or.inl hw)]
  refine ⟨?_, t⟩
  unfold gbF
  rw [if_pos hw, t]
  have a : RI (adn r 24 m) := RI_num h (by omega)
  exact RI_num a (by omega)
theorem RI_stay {r : Int → Int} {j : Int} (h : RI r) : RI (stayF r j) := (RX_stay (p := -1) h.rx).ri (fun a => absurd a (by decide))
theorem RI_giv {r : Int → Int} {j : Int} (h : RI r) : RI (givF r j) := by
  unfold givF
  apply RI_stay
  split
  · exact RI_ends (RI_num h (by omega))
  · exact h
/-- a job's priority or hold changed, when no work of it is under way or it keeps it -/
theorem RI_pri {r : Int → Int} {p w x : Int} (h : RI r) (hp : 0 ≤ p ∧ p < r 0) (hw : (w = 6 ∧ 0 ≤ x ∧ x ≤ 9) ∨ (w = 7 ∧ 0 ≤ x ∧ x ≤ 1)) : RI (up1 r (85 + 10 * p + w) x) := by
  obtain ⟨n, rb, rt, pi, so, js, wi⟩ := h
  unfold NI at n
  have e : ∀ i : Int, i < 85 → up1 r (85 + 10 * p + w) x i = r i := fun i hi => up1_ne (by omega)
  have f : ∀ q, 0 ≤ q → ∀ v, 0 ≤ v → v < 10 → ¬ v = w → jf (up1 r (85 + 10 * p + w) x) q v = jf r q v := fun q a v b c d => up1_ne (by omega)
  have f2 : ∀ q, 0 ≤ q → ¬ q = p → ∀ v, 0 ≤ v → v < 10 → jf (up1 r (85 + 10 * p + w) x) q v = jf r q v := fun q a z v b c => up1_ne (by omega)
  have fw : jf (up1 r (85 + 10 * p + w) x) p w = x := up1_at
  have sp : ∀ q, 0 ≤ q → sst (up1 r (85 + 10 * p + w) x) q = sst r q ∧ als (up1 r (85 + 10 * p + w) x) q = als r q := fun q a => by
    unfold als sst
    rw [f q a 1 (by decide) (by decide) (by omega), f q a 2 (by decide) (by decide) (by omega), f q a 5 (by decide) (by decide) (by omega)]
    exact ⟨rfl, rfl⟩
  have pe : ∀ j, plc (up1 r (85 + 10 * p + w) x) j = plc r j := plc_ext (e 0 (by decide)) (fun q a d => f q a 0 (by decide) (by decide) (by omega))
  refine ⟨?_, RB_up1 rb (Or.inl (by omega)), RT_up (by omega) rt, PI_up (by omega) (by omega) pi, SO_ext (e 0 (by decide)) (fun q a d => f q a 0 (by decide) (by decide) (by omega)) so, fun q a d => ?_, ?_⟩
  · unfold NI
    rw [e 0 (by decide), e 1 (by decide), e 2 (by decide), e 3 (by decide), e 7 (by decide), e 8 (by decide), e 9 (by decide), e 10 (by decide), e 11 (by decide), e 12 (by decide), e 13 (by decide), e 14 (by decide), e 15 (by decide), e 24 (by decide)]
    exact n
  · rw [e 0 (by decide)] at d
    obtain ⟨y1, y2, y3, y4, y5⟩ := js q a d
    have s := sp q a
    refine ⟨?_, ?_, ?_, ?_, ?_⟩
    · unfold JB at y1 ⊢
      rw [f q a 0 (by decide) (by decide) (by omega), f q a 1 (by decide) (by decide) (by omega), f q a 2 (by decide) (by decide) (by omega), f q a 3 (by decide) (by decide) (by omega), f q a 4 (by decide) (by decide) (by omega), f q a 5 (by decide) (by decide) (by omega), f q a 8 (by decide) (by decide) (by omega), f q a 9 (by decide) (by decide) (by omega)]
      have g6 : 0 ≤ jf (up1 r (85 + 10 * p + w) x) q 6 ∧ jf (up1 r (85 + 10 * p + w) x) q 6 ≤ 9 := by
        by_cases z : q = p ∧ w = 6
        · rw [z.1, ← z.2, fw]; omega
        · rw [show jf (up1 r (85 + 10 * p + w) x) q 6 = jf r q 6 from up1_ne (by omega)]; omega
      have g7 : 0 ≤ jf (up1 r (85 + 10 * p + w) x) q 7 ∧ jf (up1 r (85 + 10 * p + w) x) q 7 ≤ 1 := by
        by_cases z : q = p ∧ w = 7
        · rw [z.1, ← z.2, fw]; omega
        · rw [show jf (up1 r (85 + 10 * p + w) x) q 7 = jf r q 7 from up1_ne (by omega)]; omega
      omega
    · rw [f q a 5 (by decide) (by decide) (by omega), f q a 4 (by decide) (by decide) (by omega), f q a 8 (by decide) (by decide) (by omega), f q a 9 (by decide) (by decide) (by omega), s.1]; exact y2
    · rw [f q a 8 (by decide) (by decide) (by omega), s.2, f q a 9 (by decide) (by decide) (by omega), f q a 2 (by decide) (by decide) (by omega)]; exact y3
    · unfold donF
      rw [f q a 8 (by decide) (by decide) (by omega), s.2, f q a 5 (by decide) (by decide) (by omega), f q a 9 (by decide) (by decide) (by omega), f q a 2 (by decide) (by decide) (by omega)]; exact y4
    · rw [f q a 0 (by decide) (by decide) (by omega), e 1 (by decide)]; exact y5
  · unfold WI at wi ⊢
    rw [e 4 (by decide), e 5 (by decide), e 6 (by decide), pe]
    rcases wi with a | ⟨a1, a2, a3, a4, a5, a6⟩ | ⟨a1, a2, a3, a4, a5, a6⟩
    · exact Or.inl a
    · refine Or.inr (Or.inl ⟨a1, a2, a3, a4, a5, ?_⟩)
      rw [f _ a5 8 (by decide) (by decide) (by omega), (sp _ a5).2]
      exact a6
    · refine Or.inr (Or.inr ⟨a1, a2, a3, a4, a5, ?_⟩)
      unfold hset at a6 ⊢
      rw [f _ a5 5 (by decide) (by decide) (by omega), f _ a5 8 (by decide) (by decide) (by omega), f _ a5 9 (by decide) (by decide) (by omega), (sp _ a5).1]
      exact a6
