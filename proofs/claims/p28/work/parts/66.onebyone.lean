/-! ticks one by one -/
noncomputable def itF : Nat → (Int → Int) → (Int → Int)
  | 0, r => r
  | n + 1, r => itF n (stpF r 1)
theorem itF_s : ∀ (n : Nat) (r : Int → Int), itF (n + 1) r = stpF (itF n r) 1
  | 0, _ => rfl
  | n + 1, r => by
    show itF (n + 1) (stpF r 1) = _
    rw [itF_s n]
    rfl
theorem itF_a : ∀ (a b : Nat) (r : Int → Int), itF (a + b) r = itF b (itF a r)
  | 0, b, r => by rw [Nat.zero_add]; rfl
  | a + 1, b, r => by
    rw [show a + 1 + b = (a + b) + 1 by omega]
    exact itF_a a b (stpF r 1)
theorem ifc {α : Type} {P P' : Prop} [Decidable P] [Decidable P'] {a b a' b' : α} (h : P ↔ P') (h1 : a = a') (h2 : b = b') : (if P then a else b) = if P' then a' else b' := by
  by_cases z : P
  · rw [if_pos z, if_pos (h.mp z), h1]
  · rw [if_neg z, if_neg (fun q => z (h.mpr q)), h2]
theorem wst_ext {r r' : Int → Int} (e : ∀ k, ¬ (16 ≤ k ∧ k < 25) → r' k = r k) : nxj r' = nxj r ∧ wst r' (nxj r) = wst r (nxj r) := by
  have f : ∀ p w : Int, (0 ≤ p ∨ p = -1) → 0 ≤ w → w < 10 → jf r' p w = jf r p w := fun p w a b c => e _ (by omega)
  have a1 : ∀ p q : Int, 0 ≤ p → 0 ≤ q → (ahd r' p q ↔ ahd r p q) := fun p q a b => by
    unfold ahd
    rw [f p 7 (Or.inl a) (by decide) (by decide), f q 7 (Or.inl b) (by decide) (by decide), f p 0 (Or.inl a) (by decide) (by decide), f q 0 (Or.inl b) (by decide) (by decide), f p 6 (Or.inl a) (by decide) (by decide), f q 6 (Or.inl b) (by decide) (by decide), e 7 (by decide)]
  have nx : ∀ n : Nat, nxF r' n = nxF r n := fun n => by
    induction n with
    | zero => rfl
    | succ n ih =>
      unfold nxF
      have f7 := f n 7 (Or.inl (by omega)) (by decide) (by decide)
      rw [ih]
      refine ifc ?_ rfl rfl
      rw [f7]
      by_cases z : nxF r n < 0
      · exact ⟨fun q => ⟨q.1, Or.inl z⟩, fun q => ⟨q.1, Or.inl z⟩⟩
      · have y := a1 n (nxF r n) (by omega) (by omega)
        exact ⟨fun q => ⟨q.1, q.2.elim Or.inl (fun u => Or.inr (y.mp u))⟩, fun q => ⟨q.1, q.2.elim Or.inl (fun u => Or.inr (y.mpr u))⟩⟩
  have nj : nxj r' = nxj r := by
    unfold nxj
    rw [e 0 (by decide), nx]
  refine ⟨nj, ?_⟩
  unfold wst
  by_cases z : nxj r < 0
  · rw [if_pos z, if_pos z]
  · have g : ∀ w, 0 ≤ w → w < 10 → jf r' (nxj r) w = jf r (nxj r) w := fun w a b => f _ w (Or.inl (by omega)) a b
    have hs : hset r' (nxj r) ↔ hset r (nxj r) := hset_ext g
    have sa : ∀ s q, ∀ n : Nat, n ≤ 4 → shA r' s q n = shA r s q n := fun s q n => by
      induction n with
      | zero => exact fun _ => rfl
      | succ n ih =>
        intro hn
        unfold shA
        rw [ih (by omega), e _ (by omega), e _ (by omega), e _ (by omega)]
    rw [if_neg z, if_neg z]
    refine ifc hs ?_ ?_
    · rw [g 5 (by decide) (by decide), e 3 (by decide)]
    · rw [g 3 (by decide) (by decide), g 4 (by decide) (by decide), e 15 (by decide), e 2 (by decide), sa _ _ 4 (by decide)]
theorem begF_stop : ∀ (n : Nat) (r : Int → Int), 0 < (begF n r).1 → (begF n r).2 5 = 0 ∧ wst (begF n r).2 (nxj (begF n r).2) = (begF n r).1 := by
  intro n
  induction n with
  | zero => exact fun r h => absurd h (Int.lt_irrefl 0)
  | succ n ih =>
    intro r h
    unfold begF at h ⊢
    by_cases a : r 5 = 0
    · rw [if_pos a] at h ⊢
      by_cases w : wst r (nxj r) = 0
      · rw [if_pos w] at h ⊢
        exact ih _ h
      · rw [if_neg w] at h ⊢
        exact ⟨a, rfl⟩
    · rw [if_neg a] at h
      exact absurd h (Int.lt_irrefl 0)
theorem bgF_stop {r : Int → Int} (h : 0 < (bgF r).1) : (bgF r).2 5 = 0 ∧ wst (bgF r).2 (nxj (bgF r).2) = (bgF r).1 := by
  by_cases a : r 5 = 0
  · rw [bgF_0 a] at h ⊢
    exact begF_stop _ _ h
  · rw [bgF_1 a] at h
    exact absurd h (Int.lt_irrefl 0)
/-- a row at which the machine stops, and one with other accounts -/
theorem bgF_same {b u : Int → Int} {w : Int} (hw : 0 < w) (h5 : b 5 = 0) (hb : wst b (nxj b) = w) (e : ∀ k, ¬ (16 ≤ k ∧ k < 25) → u k = b k) : bgF u = (w, u) := by
  obtain ⟨e1, e2⟩ := wst_ext e
  have u5 : u 5 = 0 := (e 5 (by decide)).trans h5
  rw [bgF_0 u5]
  show begF (599 + 1) u = _
  unfold begF
  rw [if_pos u5, e1, e2, hb, if_neg (by omega)]
theorem it_gb {r : Int → Int} (h : RI r) (h24 : r 24 ≤ 1800000) : ∀ n : Nat, 1 ≤ n → (n : Int) ≤ 20000 → ((bgF r).1 = 0 → (n : Int) ≤ (bgF r).2 4) → itF n r = gbF (bgF r).2 (bgF r).1 n ∧ gbT (bgF r).2 (bgF r).1 n = n := by
  obtain ⟨a, b, c, d⟩ := RI_bg h
  have wi := a.2.2.2.2.2.2
  unfold WI at wi
  have T : ∀ n : Int, ((bgF r).1 = 0 → n ≤ (bgF r).2 4) → gbT (bgF r).2 (bgF r).1 n = n := fun n hn => by
    unfold gbT
    split <;> omega
  intro n
  induction n with
  | zero => exact fun h => absurd h (by decide)
  | succ n ih =>
    intro _ h2 h3
    have Tn := T ((n + 1 : Nat) : Int) h3
    refine ⟨?_, Tn⟩
    by_cases z : n = 0
    · subst z
      rfl
    · have i := ih (by omega) (by omega) (fun q => by have := h3 q; omega)
      rw [itF_s, i.1]
      have Ti := i.2
      by_cases w : 0 < (bgF r).1
      · obtain ⟨s1, s2⟩ := bgF_stop w
        generalize (bgF r).2 = B at s1 s2 Tn Ti ⊢
        generalize (bgF r).1 = W at w s2 Tn Ti ⊢
        have e : gbF B W (n : Int) = adn (adn B 24 (n : Int)) 23 (n : Int) := by unfold gbF; rw [if_pos w, Ti]
        have e2 : gbF B W ((n + 1 : Nat) : Int) = adn (adn B 24 ((n + 1 : Nat) : Int)) 23 ((n + 1 : Nat) : Int) := by unfold gbF; rw [if_pos w, Tn]
        rw [e2, e]
        have q := bgF_same (u := adn (adn B 24 (n : Int)) 23 (n : Int)) w s1 s2 (fun k hk => by unfold adn; rw [up1_ne (by omega), up1_ne (by omega)])
        unfold stpF
        rw [q]
        show gbF (adn (adn B 24 (n : Int)) 23 (n : Int)) W 1 = _
        unfold gbF gbT
        rw [if_pos w, if_pos (Or.inl w)]
        funext k
        unfold adn up1
        (repeat' split) <;> omega
      · have w0 : (bgF r).1 = 0 := by omega
        have h5 := c w0
        rw [w0] at Tn Ti ⊢
        have h3 := h3 w0
        generalize (bgF r).2 = B at h5 Tn Ti h3 wi ⊢
        have e : gbF B 0 (n : Int) = sbn (adn B 24 (n : Int)) 4 (n : Int) := by unfold gbF; rw [if_neg (show ¬ (0 : Int) < 0 by decide), Ti, if_neg (by omega)]
        have e2 : gbF B 0 ((n + 1 : Nat) : Int) = if B 4 - ((n + 1 : Nat) : Int) = 0 then finF (sbn (adn B 24 ((n + 1 : Nat) : Int)) 4 ((n + 1 : Nat) : Int)) else sbn (adn B 24 ((n + 1 : Nat) : Int)) 4 ((n + 1 : Nat) : Int) := by unfold gbF; rw [if_neg (show ¬ (0 : Int) < 0 by decide), Tn]
        rw [e2, e]
        have u5 : ¬ sbn (adn B 24 (n : Int)) 4 (n : Int) 5 = 0 := by unfold sbn adn; rw [up1_ne (by decide), up1_ne (by decide)]; exact h5
        have u4 : sbn (adn B 24 (n : Int)) 4 (n : Int) 4 = B 4 - n := by unfold sbn adn; rw [up1_at, up1_ne (by decide)]
        have uu : sbn (adn (sbn (adn B 24 (n : Int)) 4 (n : Int)) 24 1) 4 1 = sbn (adn B 24 ((n + 1 : Nat) : Int)) 4 ((n + 1 : Nat) : Int) := by
          funext k
          unfold sbn adn up1
          (repeat' split) <;> omega
        unfold stpF
        rw [bgF_1 u5]
        show gbF (sbn (adn B 24 (n : Int)) 4 (n : Int)) 0 1 = _
        have t1 : gbT (sbn (adn B 24 (n : Int)) 4 (n : Int)) 0 1 = 1 := by
          unfold gbT
          rw [u4]
          split <;> omega
        unfold gbF
        rw [if_neg (show ¬ (0 : Int) < 0 by decide), t1, u4, uu]
        by_cases z1 : B 4 - ((n + 1 : Nat) : Int) = 0
        · rw [if_pos z1, if_pos (by omega)]
        · rw [if_neg z1, if_neg (by omega)]
theorem stp_it {r : Int → Int} {m : Int} (h : RI r) (hm : 1 ≤ m ∧ m ≤ 20000) (h24 : r 24 + m ≤ 1800000) : stpF r m = itF (stpT r m).toNat r := by
  obtain ⟨a, b, c, d⟩ := RI_bg h
  have n := h.1
  unfold NI at n
  have s := RI_step h hm.1 (by omega)
  have wi := a.2.2.2.2.2.2
  unfold WI at wi
  have e : gbT (bgF r).2 (bgF r).1 (stpT r m) = stpT r m ∧ ((bgF r).1 = 0 → stpT r m ≤ (bgF r).2 4) := by
    unfold stpT gbT
    (repeat' split) <;> omega
  have i := it_gb h (by omega) (stpT r m).toNat (by omega) (by omega) (fun q => by have := e.2 q; omega)
  rw [i.1, show (((stpT r m).toNat : Nat) : Int) = stpT r m by omega]
  have x : gbT (bgF r).2 (bgF r).1 (stpT r m) = gbT (bgF r).2 (bgF r).1 m := e.1
  unfold stpF gbF
  rw [x]
theorem RI_it : ∀ (n : Nat) (r : Int → Int), RI r → r 24 + (n : Int) ≤ 1800000 → RI (itF n r) ∧ itF n r 24 = r 24 + n
  | 0, r, h, _ => ⟨h, by show r 24 = _; omega⟩
  | n + 1, r, h, hb => by
    have s := RI_step (m := 1) h (by decide) (by omega)
    have i := RI_it n (stpF r 1) s.1 (by omega)
    exact ⟨i.1, by show itF n (stpF r 1) 24 = _; omega⟩
theorem run_it : ∀ (n : Nat) (r : Int → Int) (m : Int), RI r → 0 ≤ m → m ≤ (n : Int) → m ≤ 20000 → r 24 + m ≤ 1800000 → runF n r m = itF m.toNat r := by
  intro n
  induction n with
  | zero =>
    intro r m h h0 h1 h2 h3
    rw [runF_e (by omega), show m.toNat = 0 by omega]
    rfl
  | succ n ih =>
    intro r m h h0 h1 h2 h3
    by_cases z : 0 < m
    · have s := RI_step h (show 1 ≤ m by omega) (by omega)
      rw [runF_s z, ih _ _ s.1 (by omega) (by omega) (by omega) (by omega), stp_it h (by omega) h3, ← itF_a]
      congr 1
      omega
    · rw [runF_e z, show m.toNat = 0 by omega]
      rfl
/-- a run in two parts -/
theorem run_two {r : Int → Int} {a b : Int} (h : RI r) (ha : 0 ≤ a) (hb : 0 ≤ b) (hab : a + b ≤ 5000) (h24 : r 24 + a + b ≤ 1800000) : runF 5000 (runF 5000 r a) b = runF 5000 r (a + b) := by
  have i := RI_it a.toNat r h (by omega)
  rw [run_it 5000 r a h ha (by omega) (by omega) (by omega), run_it 5000 r (a + b) h (by omega) (by omega) (by omega) (by omega), run_it 5000 _ b i.1 hb (by omega) (by omega) (by omega), ← itF_a]
  congr 1
  omega
theorem run_one {r : Int → Int} (h : RI r) (h24 : r 24 ≤ 1700000) : runF 5000 r 1 = stpF r 1 := by
  rw [run_it 5000 r 1 h (by decide) (by decide) (by decide) (by omega)]
  rfl
