/-! what holds besides, in the ticks -/
theorem bsh_at {r : Int → Int} {p : Int} (hp : 0 ≤ p) (hO : tkO r (jf r p 3) (jf r p 4)) : (∀ k, ¬ (4 ≤ k ∧ k < 8) → bshF r p k = tkF r (jf r p 3) (jf r p 4) k) ∧ bshF r p 5 = 1 ∧ bshF r p 6 = jf r p 0 ∧ bshF r p 7 = jf r p 0 := by
  rw [bshF_e]
  have j0 : jf (tkF r (jf r p 3) (jf r p 4)) p 0 = jf r p 0 := tkF_at hO (Or.inr (by omega))
  generalize tkF r (jf r p 3) (jf r p 4) = v at j0
  generalize sid v p = s
  unfold bshL bsh1 bsh2
  refine ⟨fun k a => ?_, ?_, ?_, ?_⟩
  · rw [up1_ne (by omega), up1_ne (by omega), up1_ne (by omega), up1_ne (by omega)]
  · rw [up1_ne (by decide), up1_ne (by decide), up1_at]
  · rw [up1_ne (by decide), up1_at]
    refine Eq.trans ?_ j0
    unfold jf
    rw [up1_ne (by omega), up1_ne (by omega)]
  · rw [up1_ne (by decide), up1_ne (by decide), up1_ne (by decide), up1_at]
    exact j0
theorem EI_bsh {r : Int → Int} {p : Int} (h : EI r) (hI : RI r) (h5 : r 5 = 0) (hp : 0 ≤ p ∧ p < r 0) (hh : jf r p 7 = 0) (hO : tkO r (jf r p 3) (jf r p 4)) : EI (bshF r p) ∧ bshF r p 16 = r 16 + 1 := by
  obtain ⟨b1, b5, b6, b7⟩ := bsh_at hp.1 hO
  obtain ⟨t1, t16⟩ := EP_tk hO h.2.1
  have e : ∀ k, k < 25 → ¬ k = 9 → ¬ k = 16 → ¬ (4 ≤ k ∧ k < 8) → bshF r p k = r k := fun k a b c d => (b1 k d).trans (tkF_at hO (Or.inl ⟨a, b, c⟩))
  have e16 : bshF r p 16 = r 16 + 1 := (b1 16 (by decide)).trans t16
  have f : ∀ q w : Int, 0 ≤ q → 0 ≤ w → jf (bshF r p) q w = jf r q w := fun q w a b => (b1 _ (by omega)).trans (tkF_at hO (Or.inr (by omega)))
  have rb : RI (tkF r (jf r p 3) (jf r p 4)) := by
    have j := (hI.2.2.2.2.2.1 p hp.1 hp.2).1
    unfold JB at j
    exact RI_tk hI hO (by omega) (by omega)
  have n := rb.1
  unfold NI at n
  refine ⟨⟨?_, EP_ext (b1 9 (by decide)) (b1 16 (by decide)) (fun k a b => b1 k (by omega)) (by omega) t1, fun q a b => ?_⟩, e16⟩
  · have m := h.1
    unfold EA at m ⊢
    rw [b5, b6, b7, e16, e 0 (by decide) (by decide) (by decide) (by decide), e 1 (by decide) (by decide) (by decide) (by decide), e 2 (by decide) (by decide) (by decide) (by decide), e 17 (by decide) (by decide) (by decide) (by decide), e 18 (by decide) (by decide) (by decide) (by decide), e 19 (by decide) (by decide) (by decide) (by decide), e 21 (by decide) (by decide) (by decide) (by decide), e 22 (by decide) (by decide) (by decide) (by decide), e 23 (by decide) (by decide) (by decide) (by decide), e 24 (by decide) (by decide) (by decide) (by decide)]
    have m12 := m.1.2 (by omega)
    refine ⟨⟨fun _ => ⟨by omega, rfl⟩, fun z => absurd rfl z⟩, ?_⟩
    exact m.2
  · rw [e 0 (by decide) (by decide) (by decide) (by decide)] at b
    rw [b6, b7, f q 0 a (by decide), f q 7 a (by decide)]
    have u : jf r q 0 = jf r p 0 → jf r q 7 = 0 := fun z => by
      have so := hI.2.2.2.2.1
      rcases Int.lt_trichotomy q p with y | y | y
      · have := so q p a y hp.2
        omega
      · rw [y]; exact hh
      · have := so p q hp.1 y b
        omega
    exact ⟨u, fun _ => u⟩
theorem EI_sta {r : Int → Int} {p : Int} (h : EI r) (hI : RI r) (h5 : r 5 = 0) (hp : 0 ≤ p ∧ p < r 0) (hh : jf r p 7 = 0) : EI (sta2 r p) ∧ sta2 r p 16 = r 16 := by
  rw [← sta2_c hp.1]
  have n := hI.1
  unfold NI at n
  have e : ∀ k, ¬ k = 4 → ¬ k = 5 → ¬ k = 6 → up1 (up1 (up1 r 5 2) 6 (jf r p 0)) 4 (r 12) k = r k := fun k a b c => by
    rw [up1_ne a, up1_ne c, up1_ne b]
  have e5 : up1 (up1 (up1 r 5 2) 6 (jf r p 0)) 4 (r 12) 5 = 2 := by
    rw [up1_ne (by decide), up1_ne (by decide), up1_at]
  have e6 : up1 (up1 (up1 r 5 2) 6 (jf r p 0)) 4 (r 12) 6 = jf r p 0 := by
    rw [up1_ne (by decide), up1_at]
  generalize up1 (up1 (up1 r 5 2) 6 (jf r p 0)) 4 (r 12) = v at e e5 e6
  have e16 := e 16 (by decide) (by decide) (by decide)
  refine ⟨⟨?_, EP_ext (e 9 (by decide) (by decide) (by decide)) e16 (fun k a b => e k (by omega) (by omega) (by omega)) (by omega) h.2.1, fun q a b => ?_⟩, e16⟩
  · have m := h.1
    unfold EA at m ⊢
    rw [e5, e6, e16, e 0 (by decide) (by decide) (by decide), e 1 (by decide) (by decide) (by decide), e 2 (by decide) (by decide) (by decide), e 7 (by decide) (by decide) (by decide), e 17 (by decide) (by decide) (by decide), e 18 (by decide) (by decide) (by decide), e 19 (by decide) (by decide) (by decide), e 21 (by decide) (by decide) (by decide), e 22 (by decide) (by decide) (by decide), e 23 (by decide) (by decide) (by decide), e 24 (by decide) (by decide) (by decide)]
    have m12 := m.1.2 (by omega)
    exact ⟨⟨fun z => absurd z (by decide), fun _ => m12⟩, m.2⟩
  · rw [e 0 (by decide) (by decide) (by decide)] at b
    have f : ∀ w : Int, 0 ≤ w → jf v q w = jf r q w := fun w z => e _ (by omega) (by omega) (by omega)
    rw [e6, e 7 (by decide) (by decide) (by decide), f 0 (by decide), f 7 (by decide)]
    refine ⟨(h.2.2 q a b).1, fun _ z => ?_⟩
    have so := hI.2.2.2.2.1
    rcases Int.lt_trichotomy q p with y | y | y
    · have := so q p a y hp.2
      omega
    · rw [y]; exact hh
    · have := so p q hp.1 y b
      omega
theorem leavF_at {r : Int → Int} {p k : Int} (hp : 0 ≤ p) (hk : k < 85) (h0 : ¬ k = 0) (h7 : ¬ k = 7) (h21 : ¬ k = 21) : leavF r p k = r k := by
  unfold leavF
  split
  · unfold inc
    rw [up1_ne h21, goesF_at hp hk h0]
    unfold stayF
    exact up1_ne h7
  · rfl
theorem stapF_at {r : Int → Int} {p k : Int} (hp : 0 ≤ p) (hk : k < 85) (h0 : ¬ k = 0) (h3 : ¬ k = 3) (h7 : ¬ k = 7) (h20 : ¬ k = 20) (h21 : ¬ k = 21) : stapF r p k = r k := (leavF_at hp hk h0 h7 h21).trans (stap0_at hp h3 h20 hk)
theorem nxh {r : Int → Int} (w : wst r (nxj r) = 0) : jf r (nxj r) 7 = 0 := (nxF_rg r (r 0).toNat).2.2 (wst_0 w)
theorem EI_bst {r : Int → Int} (h : EI r) (hI : RI r) (h5 : r 5 = 0) (w : wst r (nxj r) = 0) : EI (bstF r (nxj r)) ∧ ((bstF r (nxj r) 5 = 0 ∧ bstF r (nxj r) 16 = r 16) ∨ (¬ bstF r (nxj r) 5 = 0 ∧ bstF r (nxj r) 16 ≤ r 16 + 1)) ∧ bstF r (nxj r) 17 = r 17 ∧ bstF r (nxj r) 23 = r 23 ∧ bstF r (nxj r) 8 = r 8 := by
  have n := hI.1
  unfold NI at n
  have wi := hI.2.2.2.2.2.2
  unfold WI at wi
  have b := nx_ok hI w
  have hh := nxh w
  have jp := hI.2.2.2.2.2.1 _ b.1 b.2
  unfold bstF
  by_cases hs : hset r (nxj r)
  · rw [if_pos hs]
    by_cases z : r 12 = 0
    · rw [if_pos z, up1_id (by omega)]
      have s : ∀ k, k < 85 → ¬ k = 0 → ¬ k = 3 → ¬ k = 7 → ¬ k = 20 → ¬ k = 21 → stapF r (nxj r) k = r k := fun k a b' c d e f => stapF_at b.1 a b' c d e f
      exact ⟨EI_stap h hI h5 b, Or.inl ⟨(s 5 (by decide) (by decide) (by decide) (by decide) (by decide) (by decide)).trans h5, s 16 (by decide) (by decide) (by decide) (by decide) (by decide) (by decide)⟩, s 17 (by decide) (by decide) (by decide) (by decide) (by decide) (by decide), s 23 (by decide) (by decide) (by decide) (by decide) (by decide) (by decide), s 8 (by decide) (by decide) (by decide) (by decide) (by decide) (by decide)⟩
    · rw [if_neg z]
      have y := EI_sta h hI h5 b hh
      have s : ∀ k, ¬ k = 4 → ¬ k = 5 → ¬ k = 6 → sta2 r (nxj r) k = r k := fun k a b' c => by
        rw [← sta2_c b.1, up1_ne a, up1_ne c, up1_ne b']
      refine ⟨y.1, Or.inr ⟨?_, by have := y.2; omega⟩, s 17 (by decide) (by decide) (by decide), s 23 (by decide) (by decide) (by decide), s 8 (by decide) (by decide) (by decide)⟩
      rw [← sta2_c b.1, up1_ne (by decide), up1_ne (by decide), up1_at]
      decide
  · rw [if_neg hs]
    have hO := RI_nO hI w hs
    have y := EI_bsh h hI h5 b hh hO
    obtain ⟨b1, b5, b6, b7⟩ := bsh_at b.1 hO
    exact ⟨y.1, Or.inr ⟨by rw [b5]; decide, by have := y.2; omega⟩, (b1 17 (by decide)).trans (tkF_at hO (Or.inl (by decide))), (b1 23 (by decide)).trans (tkF_at hO (Or.inl (by decide))), (b1 8 (by decide)).trans (tkF_at hO (Or.inl (by decide)))⟩
theorem EI_beg : ∀ (n : Nat) (r : Int → Int), cOK n r → EI r → EI (begF n r).2 ∧ (begF n r).2 16 ≤ r 16 + (if r 5 = 0 then 1 else 0) ∧ (begF n r).2 17 = r 17 ∧ (begF n r).2 23 = r 23 ∧ (begF n r).2 8 = r 8 := by
  intro n
  induction n with
  | zero => exact fun r h e => ⟨e, by show r 16 ≤ _; split <;> omega, rfl, rfl, rfl⟩
  | succ n ih =>
    intro r h e
    unfold begF
    by_cases a : r 5 = 0
    · rw [if_pos a, if_pos a]
      by_cases w : wst r (nxj r) = 0
      · rw [if_pos w]
        have y := EI_bst e h.1 a w
        have z := ih _ (h.2 a w).2 y.1
        refine ⟨z.1, ?_, z.2.2.1.trans y.2.2.1, z.2.2.2.1.trans y.2.2.2.1, z.2.2.2.2.trans y.2.2.2.2⟩
        have z2 := z.2.1
        split at z2 <;> omega
      · rw [if_neg w]
        exact ⟨e, by show r 16 ≤ _; omega, rfl, rfl, rfl⟩
    · rw [if_neg a, if_neg a]
      exact ⟨e, by show r 16 ≤ _; omega, rfl, rfl, rfl⟩
theorem EI_bg {r : Int → Int} (h : RI r) (e : EI r) : EI (bgF r).2 ∧ (bgF r).2 16 ≤ r 16 + 1 ∧ (¬ r 5 = 0 → (bgF r).2 = r) ∧ (bgF r).2 17 = r 17 ∧ (bgF r).2 23 = r 23 ∧ (bgF r).2 8 = r 8 := by
  have c := RI_c501 h
  have p := EI_beg 501 r c e
  rw [← bgF_c c] at p
  refine ⟨p.1, ?_, fun z => by rw [bgF_1 z], p.2.2⟩
  have := p.2.1
  split at this <;> omega
theorem EI_fin {r : Int → Int} (h : EI r) (hI : RI r) (h5 : ¬ r 5 = 0) : EI (finF r) ∧ finF r 16 = r 16 ∧ (r 17 ≤ finF r 17 ∧ finF r 17 ≤ r 17 + 1) ∧ finF r 23 = r 23 := by
  have n := hI.1
  unfold NI at n
  have wi := hI.2.2.2.2.2.2
  unfold WI at wi
  have pl : 0 ≤ plc r (r 6) ∧ plc r (r 6) < r 0 := by
    rcases plc_sp r (r 6) with a | a <;> omega
  have jn := hI.jn
  have e : ∀ k, ¬ (4 ≤ k ∧ k < 7) → endsF r k = r k := fun k a => endsF_at (by omega)
  have y5 : endsF r 5 = 0 := by unfold endsF; rw [up1_ne (by decide), up1_at]
  have fj : ∀ q w, 0 ≤ q → 0 ≤ w → jf (endsF r) q w = jf r q w := fun q w a b => e _ (by omega)
  have m := h.1
  unfold EA at m
  unfold finF
  by_cases z : r 5 = 2
  · rw [if_pos z]
    have E : EI (endsF r) := by
      refine ⟨?_, EP_ext (e 9 (by decide)) (e 16 (by decide)) (fun k a b => e k (by omega)) (by omega) h.2.1, fun q a b => ?_⟩
      · unfold EA
        rw [y5, e 0 (by decide), e 1 (by decide), e 2 (by decide), e 7 (by decide), e 16 (by decide), e 17 (by decide), e 18 (by decide), e 19 (by decide), e 21 (by decide), e 22 (by decide), e 23 (by decide), e 24 (by decide)]
        have m12 := m.1.2 (by omega)
        exact ⟨⟨fun z => absurd z (by decide), fun _ => m12⟩, m.2⟩
      · rw [e 0 (by decide)] at b
        rw [y5, e 7 (by decide), fj q 0 a (by decide), fj q 7 a (by decide)]
        exact ⟨(h.2.2 q a b).1, fun z => absurd rfl z⟩
    have s : ∀ k, k < 85 → ¬ k = 0 → ¬ k = 3 → ¬ k = 7 → ¬ k = 20 → ¬ k = 21 → stapF (endsF r) (plc r (r 6)) k = endsF r k := fun k a b' c d e f => stapF_at pl.1 a b' c d e f
    have s17 := (s 17 (by decide) (by decide) (by decide) (by decide) (by decide) (by decide)).trans (e 17 (by decide))
    exact ⟨EI_stap E (RI_ends hI) y5 (by rw [e 0 (by decide)]; exact pl), (s 16 (by decide) (by decide) (by decide) (by decide) (by decide) (by decide)).trans (e 16 (by decide)), by omega, (s 23 (by decide) (by decide) (by decide) (by decide) (by decide) (by decide)).trans (e 23 (by decide))⟩
  · rw [if_neg z]
    have r5 : r 5 = 1 := by omega
    have g : ∀ k, ¬ (4 ≤ k ∧ k < 7) → ¬ k = 8 → inc (endsF r) 8 k = r k := fun k a b => (up1_ne b).trans (e k a)
    have g5 : inc (endsF r) 8 5 = 0 := (up1_ne (by decide)).trans y5
    have gj : ∀ q w, 0 ≤ q → 0 ≤ w → jf (inc (endsF r) 8) q w = jf r q w := fun q w a b => g _ (by omega) (by omega)
    have m11 := m.1.1 r5
    unfold fin1
    generalize inc (endsF r) 8 = v at g g5 gj
    by_cases y : 0 < v 14 ∧ v 8 % v 14 = 0
    · rw [if_pos y]
      have i : ∀ k, ¬ k = 18 → inc v 18 k = v k := fun k a => up1_ne a
      have i18 : inc v 18 18 = r 18 + 1 := up1_at.trans (by rw [g 18 (by decide) (by decide)])
      have i16 := (i 16 (by decide)).trans (g 16 (by decide) (by decide))
      have i17 := (i 17 (by decide)).trans (g 17 (by decide) (by decide))
      refine ⟨⟨?_, EP_ext ((i 9 (by decide)).trans (g 9 (by decide) (by decide))) i16 (fun k a b => (i k (by omega)).trans (g k (by omega) (by omega))) (by omega) h.2.1, fun q a b => ?_⟩, i16, by omega, (i 23 (by decide)).trans (g 23 (by decide) (by decide))⟩
      · unfold EA
        rw [i18, i 5 (by decide), g5, i16, i17, i 0 (by decide), i 1 (by decide), i 2 (by decide), i 7 (by decide), i 19 (by decide), i 21 (by decide), i 22 (by decide), i 23 (by decide), i 24 (by decide), g 0 (by decide) (by decide), g 1 (by decide) (by decide), g 2 (by decide) (by decide), g 7 (by decide) (by decide), g 19 (by decide) (by decide), g 21 (by decide) (by decide), g 22 (by decide) (by decide), g 23 (by decide) (by decide), g 24 (by decide) (by decide)]
        refine ⟨⟨fun z => absurd z (by decide), fun _ => by omega⟩, m.2.1, m.2.2.1, m.2.2.2.1, by omega, m.2.2.2.2.2⟩
      · rw [i 0 (by decide), g 0 (by decide) (by decide)] at b
        have w0 : ∀ w, 0 ≤ w → jf (inc v 18) q w = jf r q w := fun w c => (i _ (by omega)).trans (gj q w a c)
        rw [i 5 (by decide), g5, i 7 (by decide), g 7 (by decide) (by decide), w0 0 (by decide), w0 7 (by decide)]
        exact ⟨(h.2.2 q a b).1, fun z => absurd rfl z⟩
    · rw [if_neg y]
      have i : ∀ k, k < 85 → ¬ k = 2 → ¬ k = 17 → ¬ k = 19 → fin2 v (plc r (r 6)) k = v k := fun k a b c d => fin2_at pl.1 a b c d
      have i2 : fin2 v (plc r (r 6)) 2 = r 2 + 1 := by
        unfold fin2 inc adn
        rw [up1_ne (by omega), up1_ne (by decide), up1_ne (by decide), up1_at, g 2 (by decide) (by decide)]
      have i17 : fin2 v (plc r (r 6)) 17 = r 17 + 1 := by
        unfold fin2 inc adn
        rw [up1_ne (by omega), up1_ne (by decide), up1_at, up1_ne (by decide), g 17 (by decide) (by decide)]
      have i19 : fin2 v (plc r (r 6)) 19 = r 19 + sid (inc (inc v 2) 17) (plc r (r 6)) := by
        unfold fin2
        rw [show ∀ f : Int → Int, inc f (85 + 10 * plc r (r 6) + 8) 19 = f 19 from fun f => up1_ne (by omega)]
        unfold adn
        rw [up1_at]
        unfold inc
        rw [up1_ne (by decide), up1_ne (by decide), g 19 (by decide) (by decide)]
      have sd := sid_12 (inc (inc v 2) 17) (plc r (r 6))
      generalize sid (inc (inc v 2) 17) (plc r (r 6)) = sq at i19 sd
      have ij : ∀ q w, 0 ≤ q → (w = 0 ∨ w = 7) → jf (fin2 v (plc r (r 6))) q w = jf r q w := fun q w a b => by
        rw [← gj q w a (by omega)]
        unfold fin2 inc adn jf
        rw [up1_ne (by omega), up1_ne (by omega), up1_ne (by omega), up1_ne (by omega)]
      generalize fin2 v (plc r (r 6)) = u at i i2 i17 i19 ij
      have i16 := (i 16 (by decide) (by decide) (by decide) (by decide)).trans (g 16 (by decide) (by decide))
      have i0 := (i 0 (by decide) (by decide) (by decide) (by decide)).trans (g 0 (by decide) (by decide))
      have i9 := (i 9 (by decide) (by decide) (by decide) (by decide)).trans (g 9 (by decide) (by decide))
      have i5 := (i 5 (by decide) (by decide) (by decide) (by decide)).trans g5
      have i7 := (i 7 (by decide) (by decide) (by decide) (by decide)).trans (g 7 (by decide) (by decide))
      have E : EI u := by
        refine ⟨?_, EP_ext i9 i16 (fun k a b => (i k (by omega) (by omega) (by omega) (by omega)).trans (g k (by omega) (by omega))) (by omega) h.2.1, fun q a b => ?_⟩
        · unfold EA
          rw [i5, i0, i2, i16, i17, i19, i 1 (by decide) (by decide) (by decide) (by decide), i 18 (by decide) (by decide) (by decide) (by decide), i 21 (by decide) (by decide) (by decide) (by decide), i 22 (by decide) (by decide) (by decide) (by decide), i 23 (by decide) (by decide) (by decide) (by decide), i 24 (by decide) (by decide) (by decide) (by decide), g 1 (by decide) (by decide), g 18 (by decide) (by decide), g 21 (by decide) (by decide), g 22 (by decide) (by decide), g 23 (by decide) (by decide), g 24 (by decide) (by decide)]
          refine ⟨⟨fun z => absurd z (by decide), fun _ => by omega⟩, by omega, by omega, m.2.2.2.1, m.2.2.2.2⟩
        · rw [i0] at b
          rw [i5, i7, ij q 0 a (Or.inl rfl), ij q 7 a (Or.inr rfl)]
          exact ⟨(h.2.2 q a b).1, fun z => absurd rfl z⟩
      have l : ∀ k, k < 85 → ¬ k = 0 → ¬ k = 7 → ¬ k = 21 → leavF u (plc r (r 6)) k = u k := fun k a b c d => leavF_at pl.1 a b c d
      refine ⟨EI_leav E i5 (by rw [i0]; exact pl) (by rw [i9]; omega) (fun q a b => ?_), (l 16 (by decide) (by decide) (by decide) (by decide)).trans i16, ?_, (l 23 (by decide) (by decide) (by decide) (by decide)).trans ((i 23 (by decide) (by decide) (by decide) (by decide)).trans (g 23 (by decide) (by decide)))⟩
      · rw [i0] at b
        rw [ij q 0 a (Or.inl rfl)]
        exact jn q a b
      · rw [l 17 (by decide) (by decide) (by decide) (by decide)]
        omega
theorem EI_gb {r : Int → Int} {w m : Int} (h : EI r) (hI : RI r) (hw : 0 ≤ w) (h5 : w = 0 → ¬ r 5 = 0) (hm : 1 ≤ m) (h24 : r 24 + m ≤ 1900000) : EI (gbF r w m) ∧ gbF r w m 16 = r 16 ∧ (r 17 ≤ gbF r w m 17 ∧ gbF r w m 17 ≤ r 17 + 1) ∧ gbF r w m 23 = r 23 + (if 0 < w then gbT r w m else 0) := by
  have n := hI.1
  unfold NI at n
  have wi := hI.2.2.2.2.2.2
  unfold WI at wi
  have m0 := h.1
  unfold EA at m0
  by_cases z : 0 < w
  · have t : gbT r w m = m := by unfold gbT; rw [if_pos (Or.inl z)]
    have e : gbF r w m = adn (adn r 24 m) 23 m := by unfold gbF; rw [if_pos z, t]
    rw [e, if_pos z, t]
    have g : ∀ k, ¬ k = 23 → ¬ k = 24 → adn (adn r 24 m) 23 m k = r k := fun k a b => (up1_ne a).trans (up1_ne b)
    have g24 : adn (adn r 24 m) 23 m 24 = r 24 + m := by unfold adn; rw [up1_ne (by decide), up1_at]
    have g23 : adn (adn r 24 m) 23 m 23 = r 23 + m := by unfold adn; rw [up1_at, up1_ne (by decide)]
    generalize adn (adn r 24 m) 23 m = v at g g24 g23
    have g17 := g 17 (by decide) (by decide)
    refine ⟨⟨?_, EP_ext (g 9 (by decide) (by decide)) (g 16 (by decide) (by decide)) (fun k a b => g k (by omega) (by omega)) (by omega) h.2.1, EJ_ext (g 0 (by decide) (by decide)) (g 5 (by decide) (by decide)) (g 6 (by decide) (by decide)) (g 7 (by decide) (by decide)) (fun p a b => ⟨g _ (by omega) (by omega), g _ (by omega) (by omega)⟩) h.2.2⟩, g 16 (by decide) (by decide), by omega, g23⟩
    unfold EA
    rw [g24, g23, g17, g 0 (by decide) (by decide), g 1 (by decide) (by decide), g 2 (by decide) (by decide), g 5 (by decide) (by decide), g 6 (by decide) (by decide), g 7 (by decide) (by decide), g 16 (by decide) (by decide), g 18 (by decide) (by decide), g 19 (by decide) (by decide), g 21 (by decide) (by decide), g 22 (by decide) (by decide)]
    exact ⟨m0.1, m0.2.1, m0.2.2.1, by omega, m0.2.2.2.2⟩
  · have w0 : w = 0 := by omega
    subst w0
    have h5 := h5 rfl
    have tb : 1 ≤ gbT r 0 m ∧ gbT r 0 m ≤ r 4 ∧ gbT r 0 m ≤ m := by unfold gbT; split <;> omega
    have eG : gbF r 0 m = if r 4 - gbT r 0 m = 0 then finF (sbn (adn r 24 (gbT r 0 m)) 4 (gbT r 0 m)) else sbn (adn r 24 (gbT r 0 m)) 4 (gbT r 0 m) := by
      unfold gbF
      rw [if_neg (by decide)]
    rw [eG, if_neg (show ¬ (0 : Int) < 0 by decide)]
    generalize gbT r 0 m = t at tb
    have g : ∀ k, ¬ k = 4 → ¬ k = 24 → sbn (adn r 24 t) 4 t k = r k := fun k a b => (up1_ne a).trans (up1_ne b)
    have g24 : sbn (adn r 24 t) 4 t 24 = r 24 + t := by unfold sbn adn; rw [up1_ne (by decide), up1_at]
    have E : EI (sbn (adn r 24 t) 4 t) := by
      refine ⟨?_, EP_ext (g 9 (by decide) (by decide)) (g 16 (by decide) (by decide)) (fun k a b => g k (by omega) (by omega)) (by omega) h.2.1, EJ_ext (g 0 (by decide) (by decide)) (g 5 (by decide) (by decide)) (g 6 (by decide) (by decide)) (g 7 (by decide) (by decide)) (fun p a b => ⟨g _ (by omega) (by omega), g _ (by omega) (by omega)⟩) h.2.2⟩
      unfold EA
      rw [g24, g 23 (by decide) (by decide), g 17 (by decide) (by decide), g 0 (by decide) (by decide), g 1 (by decide) (by decide), g 2 (by decide) (by decide), g 5 (by decide) (by decide), g 6 (by decide) (by decide), g 7 (by decide) (by decide), g 16 (by decide) (by decide), g 18 (by decide) (by decide), g 19 (by decide) (by decide), g 21 (by decide) (by decide), g 22 (by decide) (by decide)]
      exact ⟨m0.1, m0.2.1, m0.2.2.1, by omega, m0.2.2.2.2⟩
    by_cases y : r 4 - t = 0
    · rw [if_pos y]
      have pe : ∀ j, plc (sbn (adn r 24 t) 4 t) j = plc r j := plc_ext (g 0 (by decide) (by decide)) (fun p a d => g _ (by omega) (by omega))
      have fe : finF (sbn (adn r 24 t) 4 t) = finF (adn r 24 t) := by
        have b5 : (adn r 24 t) 5 = r 5 := up1_ne (by decide)
        have b6 : (adn r 24 t) 6 = r 6 := up1_ne (by decide)
        have pe2 : ∀ j, plc (adn r 24 t) j = plc r j := plc_ext (up1_ne (by decide)) (fun p a d => up1_ne (by omega))
        unfold finF
        rw [g 5 (by decide) (by decide), g 6 (by decide) (by decide), pe, ends_s, b5, b6, pe2]
      rw [fe]
      have X : RI (adn r 24 t) := RI_num hI (by omega)
      have a : ∀ k, ¬ k = 24 → adn r 24 t k = r k := fun k b => up1_ne b
      have a24 : adn r 24 t 24 = r 24 + t := up1_at
      have EX : EI (adn r 24 t) := by
        refine ⟨?_, EP_ext (a 9 (by decide)) (a 16 (by decide)) (fun k b c => a k (by omega)) (by omega) h.2.1, EJ_ext (a 0 (by decide)) (a 5 (by decide)) (a 6 (by decide)) (a 7 (by decide)) (fun p b c => ⟨a _ (by omega), a _ (by omega)⟩) h.2.2⟩
        unfold EA
        rw [a24, a 23 (by decide), a 17 (by decide), a 0 (by decide), a 1 (by decide), a 2 (by decide), a 5 (by decide), a 6 (by decide), a 7 (by decide), a 16 (by decide), a 18 (by decide), a 19 (by decide), a 21 (by decide), a 22 (by decide)]
        exact ⟨m0.1, m0.2.1, m0.2.2.1, by omega, m0.2.2.2.2⟩
      have F := EI_fin EX X (by rw [a 5 (by decide)]; exact h5)
      rw [a 16 (by decide), a 17 (by decide), a 23 (by decide)] at F
      exact ⟨F.1, F.2.1, F.2.2.1, by rw [F.2.2.2]; omega⟩
    · rw [if_neg y]
      have g17 := g 17 (by decide) (by decide)
      exact ⟨E, g 16 (by decide) (by decide), by omega, by rw [g 23 (by decide) (by decide)]; omega⟩
