/-! jobs that go, and none that comes back; a job's ticks -/
def MO (r r' : Int → Int) : Prop := r 21 ≤ r' 21 ∧ (r' 21 = r 21 → ∀ j, 0 ≤ plc r j → 0 ≤ plc r' j) ∧ ∀ j, plc r j < 0 → plc r' j < 0
theorem MO.rfl' {r : Int → Int} : MO r r := ⟨Int.le_refl _, fun _ _ h => h, fun _ h => h⟩
theorem MO.trans {a b c : Int → Int} (h : MO a b) (k : MO b c) : MO a c := by
  obtain ⟨h1, h2, h3⟩ := h
  obtain ⟨k1, k2, k3⟩ := k
  exact ⟨by omega, fun e j z => k2 (by omega) j (h2 (by omega) j z), fun j z => k3 j (h3 j z)⟩
theorem MO_ext {r r' : Int → Int} (e0 : r' 0 = r 0) (e21 : r' 21 = r 21) (f : ∀ p, 0 ≤ p → p < r 0 → jf r' p 0 = jf r p 0) : MO r r' := by
  have p := plc_ext e0 f
  exact ⟨by omega, fun _ j z => by rw [p]; exact z, fun j z => by rw [p]; exact z⟩
theorem plc_neg {r : Int → Int} {j : Int} : plc r j < 0 ↔ ∀ i, 0 ≤ i → i < r 0 → ¬ jf r i 0 = j := by
  rcases plc_sp r j with a | a
  · exact ⟨fun _ => a.2, fun _ => by omega⟩
  · exact ⟨fun z => by omega, fun z => absurd a.2.2.1 (z _ a.1 a.2.1)⟩
theorem MO_leav {r : Int → Int} {p : Int} (hp : 0 ≤ p ∧ p < r 0) : MO r (leavF r p) := by
  unfold leavF
  split
  · have s : ∀ k, ¬ k = 7 → stayF r (jf r p 0) k = r k := fun k z => up1_ne z
    have s0 := s 0 (by decide)
    have e21 : inc (goesF (stayF r (jf r p 0)) p) 21 21 = r 21 + 1 := by
      unfold inc
      rw [up1_at, goesF_at hp.1 (by decide) (by decide), s 21 (by decide)]
    refine ⟨by omega, fun z => by omega, fun j z => ?_⟩
    rw [plc_neg] at z ⊢
    intro i a b
    have i0 : ∀ k, ¬ k = 21 → inc (goesF (stayF r (jf r p 0)) p) 21 k = goesF (stayF r (jf r p 0)) p k := fun k a => up1_ne a
    rw [i0 0 (by decide), goesF_0 hp.1, s0] at b
    have g : jf (inc (goesF (stayF r (jf r p 0)) p) 21) i 0 = jf (goesF (stayF r (jf r p 0)) p) i 0 := i0 _ (by omega)
    rw [g]
    rcases Int.lt_or_le i p with y | y
    · rw [goesF_lo hp.1 y a (by decide) (by decide)]
      have : jf (stayF r (jf r p 0)) i 0 = jf r i 0 := s _ (by omega)
      rw [this]
      exact z i a (by omega)
    · rw [goesF_hi hp.1 y (by rw [s0]; exact b) (by decide) (by decide)]
      have : jf (stayF r (jf r p 0)) (i + 1) 0 = jf r (i + 1) 0 := s _ (by omega)
      rw [this]
      exact z (i + 1) (by omega) (by omega)
  · exact MO.rfl'
theorem MO_stap {r : Int → Int} {p : Int} (hp : 0 ≤ p ∧ p < r 0) : MO r (stapF r p) := by
  have e0 : stapF0 r p 0 = r 0 := stap0_at hp.1 (by decide) (by decide) (by decide)
  have e21 : stapF0 r p 21 = r 21 := stap0_at hp.1 (by decide) (by decide) (by decide)
  unfold stapF
  exact MO.trans (MO_ext e0 e21 (fun q a b => stap0_n a hp.1)) (MO_leav (by rw [e0]; exact hp))
theorem MO_bst {r : Int → Int} (hI : RI r) (h5 : r 5 = 0) (w : wst r (nxj r) = 0) : MO r (bstF r (nxj r)) := by
  have wi := hI.2.2.2.2.2.2
  unfold WI at wi
  have b := nx_ok hI w
  unfold bstF
  by_cases hs : hset r (nxj r)
  · rw [if_pos hs]
    by_cases z : r 12 = 0
    · rw [if_pos z, up1_id (by omega)]
      exact MO_stap b
    · rw [if_neg z]
      have s : ∀ k, ¬ k = 4 → ¬ k = 5 → ¬ k = 6 → sta2 r (nxj r) k = r k := fun k a b' c => by
        rw [← sta2_c b.1, up1_ne a, up1_ne c, up1_ne b']
      exact MO_ext (s 0 (by decide) (by decide) (by decide)) (s 21 (by decide) (by decide) (by decide)) (fun p a c => s _ (by omega) (by omega) (by omega))
  · rw [if_neg hs]
    have hO := RI_nO hI w hs
    obtain ⟨b1, -⟩ := bsh_at b.1 hO
    exact MO_ext ((b1 0 (by decide)).trans (tkF_at hO (Or.inl (by decide)))) ((b1 21 (by decide)).trans (tkF_at hO (Or.inl (by decide)))) (fun p a c => (b1 _ (by omega)).trans (tkF_at hO (Or.inr (by omega))))
theorem MO_beg : ∀ (n : Nat) (r : Int → Int), cOK n r → MO r (begF n r).2 := by
  intro n
  induction n with
  | zero => exact fun r h => MO.rfl'
  | succ n ih =>
    intro r h
    unfold begF
    by_cases a : r 5 = 0
    · rw [if_pos a]
      by_cases w : wst r (nxj r) = 0
      · rw [if_pos w]
        exact (MO_bst h.1 a w).trans (ih _ (h.2 a w).2)
      · rw [if_neg w]
        exact MO.rfl'
    · rw [if_neg a]
      exact MO.rfl'
theorem MO_bg {r : Int → Int} (h : RI r) : MO r (bgF r).2 := by
  have c := RI_c501 h
  have p := MO_beg 501 r c
  rw [← bgF_c c] at p
  exact p
theorem MO_fin {r : Int → Int} (hI : RI r) (h5 : ¬ r 5 = 0) : MO r (finF r) := by
  have n := hI.1
  unfold NI at n
  have wi := hI.2.2.2.2.2.2
  unfold WI at wi
  have pl : 0 ≤ plc r (r 6) ∧ plc r (r 6) < r 0 := by
    rcases plc_sp r (r 6) with a | a <;> omega
  have e : ∀ k, ¬ (4 ≤ k ∧ k < 7) → endsF r k = r k := fun k a => endsF_at (by omega)
  have M1 : MO r (endsF r) := MO_ext (e 0 (by decide)) (e 21 (by decide)) (fun p a b => e _ (by omega))
  unfold finF
  by_cases z : r 5 = 2
  · rw [if_pos z]
    exact M1.trans (MO_stap (by rw [e 0 (by decide)]; exact pl))
  · rw [if_neg z]
    have M2 : MO (endsF r) (inc (endsF r) 8) := MO_ext (up1_ne (by decide)) (up1_ne (by decide)) (fun p a b => up1_ne (by omega))
    have g0 : inc (endsF r) 8 0 = r 0 := (up1_ne (by decide)).trans (e 0 (by decide))
    refine (M1.trans M2).trans ?_
    generalize inc (endsF r) 8 = v at g0
    unfold fin1
    by_cases y : 0 < v 14 ∧ v 8 % v 14 = 0
    · rw [if_pos y]
      exact MO_ext (up1_ne (by decide)) (up1_ne (by decide)) (fun p a b => up1_ne (by omega))
    · rw [if_neg y]
      have i : ∀ k, k < 85 → ¬ k = 2 → ¬ k = 17 → ¬ k = 19 → fin2 v (plc r (r 6)) k = v k := fun k a b c d => fin2_at pl.1 a b c d
      have i0 := i 0 (by decide) (by decide) (by decide) (by decide)
      refine (MO_ext i0 (i 21 (by decide) (by decide) (by decide) (by decide)) (fun q a b => ?_)).trans (MO_leav (by rw [i0, g0]; exact pl))
      unfold fin2 inc adn jf
      rw [up1_ne (by omega), up1_ne (by omega), up1_ne (by omega), up1_ne (by omega)]
theorem MO_gb {r : Int → Int} {w m : Int} (hI : RI r) (hw : 0 ≤ w) (h5 : w = 0 → ¬ r 5 = 0) (hm : 1 ≤ m) (h24 : r 24 + m ≤ 1900000) : MO r (gbF r w m) := by
  have n := hI.1
  unfold NI at n
  have wi := hI.2.2.2.2.2.2
  unfold WI at wi
  by_cases z : 0 < w
  · have t : gbT r w m = m := by unfold gbT; rw [if_pos (Or.inl z)]
    have e : gbF r w m = adn (adn r 24 m) 23 m := by unfold gbF; rw [if_pos z, t]
    rw [e]
    have g : ∀ k, ¬ k = 23 → ¬ k = 24 → adn (adn r 24 m) 23 m k = r k := fun k a b => (up1_ne a).trans (up1_ne b)
    exact MO_ext (g 0 (by decide) (by decide)) (g 21 (by decide) (by decide)) (fun p a b => g _ (by omega) (by omega))
  · have w0 : w = 0 := by omega
    subst w0
    have h5 := h5 rfl
    have tb : 1 ≤ gbT r 0 m ∧ gbT r 0 m ≤ r 4 ∧ gbT r 0 m ≤ m := by unfold gbT; split <;> omega
    have eG : gbF r 0 m = if r 4 - gbT r 0 m = 0 then finF (sbn (adn r 24 (gbT r 0 m)) 4 (gbT r 0 m)) else sbn (adn r 24 (gbT r 0 m)) 4 (gbT r 0 m) := by
      unfold gbF
      rw [if_neg (show ¬ (0 : Int) < 0 by decide)]
    rw [eG]
    generalize gbT r 0 m = t at tb
    have g : ∀ k, ¬ k = 4 → ¬ k = 24 → sbn (adn r 24 t) 4 t k = r k := fun k a b => (up1_ne a).trans (up1_ne b)
    by_cases y : r 4 - t = 0
    · rw [if_pos y]
      have pe : ∀ j, plc (sbn (adn r 24 t) 4 t) j = plc r j := plc_ext (g 0 (by decide) (by decide)) (fun p a d => g _ (by omega) (by omega))
      have fe : finF (sbn (adn r 24 t) 4 t) = finF (adn r 24 t) := by
        have b5 : (adn r 24 t) 5 = r 5 := up1_ne (by decide)
        have b6 : (adn r 24 t) 6 = r 6 := up1_ne (by decide)
        have pe2 : ∀ j, plc (adn r 24 t) j = plc r j := plc_ext (up1_ne (by decide)) (fun p a d => up1_ne (by omega))
        unfold finF
        rw [g 5 (by decide) (by decide), g 6 (by decide) (by decide), pe, ends_s, b5, b6, pe2]
      rw [fe]
      have X : RI (adn r 24 t) := RI_num hI (by omega)
      have x5 : adn r 24 t 5 = r 5 := up1_ne (by decide)
      have m1 : MO r (adn r 24 t) := MO_ext (up1_ne (by decide)) (up1_ne (by decide)) (fun p a b => up1_ne (by omega))
      exact m1.trans (MO_fin X (by rw [x5]; exact h5))
    · rw [if_neg y]
      exact MO_ext (g 0 (by decide) (by decide)) (g 21 (by decide) (by decide)) (fun p a b => g _ (by omega) (by omega))
theorem MO_step {r : Int → Int} (h : RI r) (h24 : r 24 ≤ 1800000) : MO r (stpF r 1) := by
  obtain ⟨a, b, c, d⟩ := RI_bg h
  exact (MO_bg h).trans (MO_gb a b.1 c (by decide) (by omega))
theorem MO_it : ∀ (n : Nat) (r : Int → Int), RI r → r 24 + (n : Int) ≤ 1800000 → MO r (itF n r)
  | 0, r, _, _ => MO.rfl'
  | n + 1, r, h, hb => by
    have s := RI_step (m := 1) h (by decide) (by omega)
    exact (MO_step h (by omega)).trans (MO_it n (stpF r 1) s.1 (by omega))
/-- while a sheet or a stapling goes on, or the machine stops, no job goes -/
theorem gb_plc {B : Int → Int} {W m : Int} (hT : gbT B W m = m) (h : 0 < W ∨ m < B 4) (hm : 1 ≤ m) (hw : 0 ≤ W) (j : Int) : plc (gbF B W m) j = plc B j := by
  unfold gbF
  rw [hT]
  by_cases z : 0 < W
  · rw [if_pos z]
    exact plc_ext (by unfold adn; rw [up1_ne (by decide), up1_ne (by decide)]) (fun p a d => by unfold adn jf; rw [up1_ne (by omega), up1_ne (by omega)]) j
  · rw [if_neg z, if_neg (by omega)]
    exact plc_ext (by unfold sbn adn; rw [up1_ne (by decide), up1_ne (by decide)]) (fun p a d => by unfold sbn adn jf; rw [up1_ne (by omega), up1_ne (by omega)]) j
theorem ans_sp : ∀ (n : Nat) (r : Int → Int) (j t : Int), RI r → 0 ≤ plc r j → (0 ≤ t ∧ t ≤ 20000) → 20000 - t ≤ (n : Int) → r 24 + (20000 - t) ≤ 1800000 →
    (ansF n r j t = -4 ∧ ∀ k : Nat, (k : Int) ≤ 20000 - t → 0 ≤ plc (itF k r) j) ∨ (t < ansF n r j t ∧ ansF n r j t ≤ 20000 ∧ (∀ k : Nat, (k : Int) < ansF n r j t - t → 0 ≤ plc (itF k r) j) ∧ plc (itF (ansF n r j t - t).toNat r) j < 0) := by
  intro n
  induction n with
  | zero =>
    intro r j t h hp ht hn h24
    refine Or.inl ⟨?_, fun k hk => ?_⟩
    · rw [ans_e (by omega), if_neg (by omega)]
    · rw [show k = 0 by omega]
      exact hp
  | succ n ih =>
    intro r j t h hp ht hn h24
    by_cases t0 : t < 20000
    · obtain ⟨a, b, c, d⟩ := RI_bg h
      have wi := a.2.2.2.2.2.2
      unfold WI at wi
      have s := RI_step (m := 20000 - t) h (by omega) (by omega)
      by_cases g : plc (bgF r).2 j < 0
      · rw [ans_1 ⟨t0, hp⟩ g]
        refine Or.inr ⟨by omega, by omega, fun k hk => ?_, ?_⟩
        · rw [show k = 0 by omega]
          exact hp
        · rw [show (t + 1 - t).toNat = 1 by omega]
          show plc (gbF (bgF r).2 (bgF r).1 1) j < 0
          exact (MO_gb a b.1 c (by decide) (by omega)).2.2 j g
      · rw [ans_2 ⟨t0, hp⟩ g]
        have e := stp_it (m := 20000 - t) h (by omega) (by omega)
        have tT : stpT r (20000 - t) = gbT (bgF r).2 (bgF r).1 (20000 - t) := rfl
        have low : ∀ k : Nat, (k : Int) < stpT r (20000 - t) → 0 ≤ plc (itF k r) j := fun k hk => by
          by_cases k0 : k = 0
          · rw [k0]
            exact hp
          · have q : 0 < (bgF r).1 ∨ (k : Int) < (bgF r).2 4 := by
              by_cases w : 0 < (bgF r).1
              · exact Or.inl w
              · have w0 : (bgF r).1 = 0 := by omega
                have c0 := c w0
                unfold gbT at tT
                split at tT <;> omega
            have i := it_gb h (by omega) k (by omega) (by omega) (fun z => by omega)
            rw [i.1, gb_plc i.2 q (by omega) b.1]
            omega
        by_cases g2 : plc (stpF r (20000 - t)) j < 0
        · rw [ans_e (by omega), if_pos g2]
          refine Or.inr ⟨by omega, by omega, fun k hk => low k (by omega), ?_⟩
          rw [show (t + stpT r (20000 - t) - t).toNat = (stpT r (20000 - t)).toNat by omega, ← e]
          exact g2
        · have I := ih (stpF r (20000 - t)) j (t + stpT r (20000 - t)) s.1 (by omega) (by omega) (by omega) (by omega)
          have sh : ∀ k : Nat, stpT r (20000 - t) ≤ (k : Int) → itF k r = itF (k - (stpT r (20000 - t)).toNat) (stpF r (20000 - t)) := fun k hk => by
            rw [e, ← itF_a]
            congr 1
            omega
          generalize ansF n (stpF r (20000 - t)) j (t + stpT r (20000 - t)) = A at I ⊢
          rcases I with ⟨I1, I2⟩ | ⟨I1, I2, I3, I4⟩
          · refine Or.inl ⟨I1, fun k hk => ?_⟩
            by_cases y : (k : Int) < stpT r (20000 - t)
            · exact low k y
            · rw [sh k (by omega)]
              exact I2 _ (by omega)
          · refine Or.inr ⟨by omega, I2, fun k hk => ?_, ?_⟩
            · by_cases y : (k : Int) < stpT r (20000 - t)
              · exact low k y
              · rw [sh k (by omega)]
                exact I3 _ (by omega)
            · rw [sh _ (by omega), show (A - t).toNat - (stpT r (20000 - t)).toNat = (A - (t + stpT r (20000 - t))).toNat by omega]
              exact I4
    · refine Or.inl ⟨?_, fun k hk => ?_⟩
      · rw [ans_e (by omega), if_neg (by omega)]
      · rw [show k = 0 by omega]
        exact hp
