/-! what holds besides: accounts, papers, jobs that are held -/
def paS (r : Int → Int) : Nat → Int
  | 0 => 0
  | n + 1 => paS r n + r (37 + 3 * (n : Int) + 2)
def EA (r : Int → Int) : Prop := ((r 5 = 1 → r 16 = r 17 + r 18 + 1 ∧ r 6 = r 7) ∧ (¬ r 5 = 1 → r 16 = r 17 + r 18)) ∧ (r 17 ≤ r 19 ∧ r 19 ≤ 2 * r 17) ∧ r 2 ≤ r 17 ∧ (0 ≤ r 23 ∧ r 23 ≤ r 24) ∧ 0 ≤ r 18 ∧ (r 0 + r 21 + r 22 = r 1 ∧ 0 ≤ r 21 ∧ 0 ≤ r 22)
def EP (r : Int → Int) : Prop := paS r (r 9).toNat = r 16 ∧ ∀ k : Int, 0 ≤ k → k < r 9 → 1 ≤ r (37 + 3 * k + 2)
def EJ (r : Int → Int) : Prop := ∀ p : Int, 0 ≤ p → p < r 0 → (jf r p 0 = r 7 → jf r p 7 = 0) ∧ (¬ r 5 = 0 → jf r p 0 = r 6 → jf r p 7 = 0)
def EI (r : Int → Int) : Prop := EA r ∧ EP r ∧ EJ r
theorem paS_ext {r r' : Int → Int} : ∀ n : Nat, (∀ k : Int, 0 ≤ k → k < (n : Int) → r' (37 + 3 * k + 2) = r (37 + 3 * k + 2)) → paS r' n = paS r n
  | 0, _ => rfl
  | n + 1, h => by
    unfold paS
    rw [paS_ext n (fun k a b => h k a (by omega)), h (n : Int) (by omega) (by omega)]
theorem paS_inc {r r' : Int → Int} {k d : Int} (hk : 0 ≤ k) : ∀ n : Nat, (∀ i : Int, 0 ≤ i → i < (n : Int) → r' (37 + 3 * i + 2) = r (37 + 3 * i + 2) + (if i = k then d else 0)) → paS r' n = paS r n + (if k < (n : Int) then d else 0)
  | 0, _ => by unfold paS; rw [if_neg (by omega)]; rfl
  | n + 1, h => by
    unfold paS
    rw [paS_inc hk n (fun i a b => h i a (by omega)), h (n : Int) (by omega) (by omega)]
    (repeat' split) <;> omega
theorem EP_ext {r r' : Int → Int} (e9 : r' 9 = r 9) (e16 : r' 16 = r 16) (h : ∀ k, 37 ≤ k → k < 85 → r' k = r k) (h9 : 0 ≤ r 9 ∧ r 9 ≤ 16) (m : EP r) : EP r' := by
  refine ⟨?_, fun k a b => ?_⟩
  · rw [e9, e16, ← m.1]
    exact paS_ext _ (fun k a b => h _ (by omega) (by omega))
  · rw [e9] at b
    rw [h _ (by omega) (by omega)]
    exact m.2 k a b
theorem EJ_ext {r r' : Int → Int} (e0 : r' 0 = r 0) (e5 : r' 5 = r 5) (e6 : r' 6 = r 6) (e7 : r' 7 = r 7) (f : ∀ p, 0 ≤ p → p < r 0 → jf r' p 0 = jf r p 0 ∧ jf r' p 7 = jf r p 7) (m : EJ r) : EJ r' := fun p a b => by
  rw [e0] at b
  rw [e5, e6, e7, (f p a b).1, (f p a b).2]
  exact m p a b
theorem EA_ext {r r' : Int → Int} (e : ∀ k : Int, (k < 3 ∨ (4 < k ∧ k < 8) ∨ (15 < k ∧ k < 20) ∨ (20 < k ∧ k < 25)) → 0 ≤ k → r' k = r k) (m : EA r) : EA r' := by
  unfold EA at m ⊢
  rw [e 0 (by decide) (by decide), e 1 (by decide) (by decide), e 2 (by decide) (by decide), e 5 (by decide) (by decide), e 6 (by decide) (by decide), e 7 (by decide) (by decide), e 16 (by decide) (by decide), e 17 (by decide) (by decide), e 18 (by decide) (by decide), e 19 (by decide) (by decide), e 21 (by decide) (by decide), e 22 (by decide) (by decide), e 23 (by decide) (by decide), e 24 (by decide) (by decide)]
  exact m
/-- a change of what none of them tells of -/
theorem EI_up {r : Int → Int} {k x : Int} (h : EI r) (h9 : 0 ≤ r 9 ∧ r 9 ≤ 16) (h0 : r 0 ≤ 10) (hk : k = 3 ∨ k = 4 ∨ k = 8 ∨ (10 ≤ k ∧ k < 16) ∨ k = 20 ∨ (25 ≤ k ∧ k < 37) ∨ (85 ≤ k ∧ ∃ p w : Int, k = 85 + 10 * p + w ∧ 0 < w ∧ w < 10 ∧ ¬ w = 7)) : EI (up1 r k x) := by
  have f : ∀ p, 0 ≤ p → p < r 0 → jf (up1 r k x) p 0 = jf r p 0 ∧ jf (up1 r k x) p 7 = jf r p 7 := fun p a b => by
    constructor <;> refine up1_ne ?_ <;> rcases hk with z | z | z | z | z | z | ⟨z, p', w, z1, z2, z3, z4⟩ <;> omega
  have e : ∀ j : Int, j < 85 → ¬ (j = 3 ∨ j = 4 ∨ j = 8 ∨ (10 ≤ j ∧ j < 16) ∨ j = 20 ∨ (25 ≤ j ∧ j < 37)) → up1 r k x j = r j := fun j a b => up1_ne (by rcases hk with z | z | z | z | z | z | ⟨z, -⟩ <;> omega)
  exact ⟨EA_ext (fun k a b => e k (by omega) (by omega)) h.1, EP_ext (e 9 (by decide) (by decide)) (e 16 (by decide) (by decide)) (fun k a b => e k (by omega) (by omega)) h9 h.2.1, EJ_ext (e 0 (by decide) (by decide)) (e 5 (by decide) (by decide)) (e 6 (by decide) (by decide)) (e 7 (by decide) (by decide)) f h.2.2⟩
theorem EJ_goes {r : Int → Int} {p : Int} (hp : 0 ≤ p ∧ p < r 0) (m : EJ r) : EJ (goesF r p) := fun q a b => by
  rw [goesF_0 hp.1] at b
  rw [goesF_at hp.1 (by decide) (by decide), goesF_at hp.1 (by decide) (by decide), goesF_at hp.1 (by decide) (by decide)]
  rcases Int.lt_or_le q p with z | z
  · rw [goesF_lo hp.1 z a (by decide) (by decide), goesF_lo hp.1 z a (by decide) (by decide)]
    exact m q a (by omega)
  · rw [goesF_hi hp.1 z b (by decide) (by decide), goesF_hi hp.1 z b (by decide) (by decide)]
    exact m (q + 1) (by omega) (by omega)
theorem EJ_stay {r : Int → Int} {j : Int} (hn : ∀ q, 0 ≤ q → q < r 0 → 0 ≤ jf r q 0) (m : EJ r) : EJ (stayF r j) := fun q a b => by
  have e : ∀ k, ¬ k = 7 → stayF r j k = r k := fun k z => up1_ne z
  have e7 : stayF r j 7 = if r 7 = j then -4 else r 7 := up1_at
  have g : ∀ w, 0 ≤ w → jf (stayF r j) q w = jf r q w := fun w z => e _ (by omega)
  rw [e 0 (by decide)] at b
  rw [e 5 (by decide), e 6 (by decide), e7, g 0 (by decide), g 7 (by decide)]
  have y := hn q a b
  refine ⟨fun z => ?_, (m q a b).2⟩
  split at z
  · omega
  · exact (m q a b).1 z
theorem RI.jn {r : Int → Int} (h : RI r) : ∀ q, 0 ≤ q → q < r 0 → 0 ≤ jf r q 0 := fun q a b => by
  have j := (h.2.2.2.2.2.1 q a b).1
  unfold JB at j
  omega
theorem EI_leav {r : Int → Int} {p : Int} (h : EI r) (h5 : r 5 = 0) (hp : 0 ≤ p ∧ p < r 0) (h9 : 0 ≤ r 9 ∧ r 9 ≤ 16) (hn : ∀ q, 0 ≤ q → q < r 0 → 0 ≤ jf r q 0) : EI (leavF r p) := by
  unfold leavF
  split
  · have s : ∀ k, ¬ k = 7 → stayF r (jf r p 0) k = r k := fun k z => up1_ne z
    have s0 := s 0 (by decide)
    have e : ∀ k, k < 85 → ¬ k = 0 → ¬ k = 7 → ¬ k = 21 → inc (goesF (stayF r (jf r p 0)) p) 21 k = r k := fun k a b c d => by
      unfold inc
      rw [up1_ne d, goesF_at hp.1 a b]
      exact s k c
    have e0 : inc (goesF (stayF r (jf r p 0)) p) 21 0 = r 0 - 1 := by
      unfold inc
      rw [up1_ne (by decide), goesF_0 hp.1, s0]
    have e21 : inc (goesF (stayF r (jf r p 0)) p) 21 21 = r 21 + 1 := by
      unfold inc
      rw [up1_at, goesF_at hp.1 (by decide) (by decide), s 21 (by decide)]
    obtain ⟨m1, m2, m3⟩ := h
    refine ⟨?_, EP_ext (e 9 (by decide) (by decide) (by decide) (by decide)) (e 16 (by decide) (by decide) (by decide) (by decide)) (fun k a b => e k b (by omega) (by omega) (by omega)) h9 m2, ?_⟩
    · unfold EA at m1 ⊢
      rw [e0, e21, e 1 (by decide) (by decide) (by decide) (by decide), e 2 (by decide) (by decide) (by decide) (by decide), e 5 (by decide) (by decide) (by decide) (by decide), e 16 (by decide) (by decide) (by decide) (by decide), e 17 (by decide) (by decide) (by decide) (by decide), e 18 (by decide) (by decide) (by decide) (by decide), e 19 (by decide) (by decide) (by decide) (by decide), e 22 (by decide) (by decide) (by decide) (by decide), e 23 (by decide) (by decide) (by decide) (by decide), e 24 (by decide) (by decide) (by decide) (by decide)]
      refine ⟨⟨fun z => by omega, m1.1.2⟩, ?_⟩
      omega
    · have z := EJ_goes (r := stayF r (jf r p 0)) (p := p) (by omega) (EJ_stay hn m3)
      have i : ∀ k, ¬ k = 21 → inc (goesF (stayF r (jf r p 0)) p) 21 k = goesF (stayF r (jf r p 0)) p k := fun k a => up1_ne a
      exact EJ_ext (i 0 (by decide)) (i 5 (by decide)) (i 6 (by decide)) (i 7 (by decide)) (fun q a b => ⟨i _ (by omega), i _ (by omega)⟩) z
  · exact h
theorem EI_stap0 {r : Int → Int} {p : Int} (h : EI r) (hp : 0 ≤ p) (h9 : 0 ≤ r 9 ∧ r 9 ≤ 16) (h0 : r 0 ≤ 10) : EI (stapF0 r p) := by
  unfold stapF0
  have a1 : EI (sbn r 3 (useF r p)) := EI_up h h9 h0 (by omega)
  have a2 : EI (adn (sbn r 3 (useF r p)) 20 (useF r p)) := EI_up a1 (by unfold sbn; rw [up1_ne (by decide)]; exact h9) (by unfold sbn; rw [up1_ne (by decide)]; exact h0) (by omega)
  refine EI_up a2 (by unfold adn sbn; rw [up1_ne (by decide), up1_ne (by decide)]; exact h9) (by unfold adn sbn; rw [up1_ne (by decide), up1_ne (by decide)]; exact h0) ?_
  exact Or.inr (Or.inr (Or.inr (Or.inr (Or.inr (Or.inr ⟨by omega, p, 9, rfl, by decide, by decide, by decide⟩)))))
theorem stap0_n {r : Int → Int} {p q : Int} (hq : 0 ≤ q) (hp : 0 ≤ p) : jf (stapF0 r p) q 0 = jf r q 0 := by
  unfold stapF0 inc adn sbn jf
  rw [up1_ne (by omega), up1_ne (by omega), up1_ne (by omega)]
theorem EI_stap {r : Int → Int} {p : Int} (h : EI r) (hI : RI r) (h5 : r 5 = 0) (hp : 0 ≤ p ∧ p < r 0) : EI (stapF r p) := by
  have n := hI.1
  unfold NI at n
  have e : ∀ k, k < 85 → ¬ k = 3 → ¬ k = 20 → stapF0 r p k = r k := fun k a b c => stap0_at hp.1 b c a
  unfold stapF
  refine EI_leav (EI_stap0 h hp.1 (by omega) (by omega)) (by rw [e 5 (by decide) (by decide) (by decide)]; exact h5) (by rw [e 0 (by decide) (by decide) (by decide)]; exact hp) (by rw [e 9 (by decide) (by decide) (by decide)]; omega) (fun q a b => ?_)
  rw [e 0 (by decide) (by decide) (by decide)] at b
  rw [stap0_n a hp.1]
  exact hI.jn q a b
/-- a sheet is taken: the papers -/
theorem EP_tk {r : Int → Int} {s q : Int} (hO : tkO r s q) (h : EP r) : EP (tkF r s q) ∧ tkF r s q 16 = r 16 + 1 := by
  obtain ⟨z1, z2, z3, z4⟩ := tkO_0 hO
  have h9 := hO.1.2.2.1
  have e : ∀ k, 37 ≤ k → tk0 r s q k = r k := fun k a => tk0_at z1 (by omega)
  have e16 : tk0 r s q 16 = r 16 + 1 := by
    unfold tk0 inc sbn
    rw [up1_at, up1_ne (by omega)]
  unfold tkF
  generalize tk0 r s q = v at z2 z3 z4 e e16 ⊢
  have hv : paS v (v 9).toNat = r 16 := by
    rw [z3, ← h.1]
    exact paS_ext _ (fun k a b => e _ (by omega))
  have hk : ∀ k : Int, 0 ≤ k → k < v 9 → 1 ≤ v (37 + 3 * k + 2) := fun k a b => by
    rw [e _ (by omega)]
    exact h.2 k a (by omega)
  have hl : ppl v s q ≤ v 9 := by rcases ppl_sp v s q (by omega) with w | w <;> omega
  by_cases y : ppl v s q = v 9
  · have w : inc (tk1 v s q) (37 + 3 * ppl v s q + 2) = up1 (up1 (up1 (up1 v (37 + 3 * v 9) s) (37 + 3 * v 9 + 1) q) (37 + 3 * v 9 + 2) 1) 9 (v 9 + 1) := by
      unfold tk1
      rw [if_pos y, y]
      unfold inc
      funext z
      unfold up1
      (repeat' split) <;> first | rfl | omega
    rw [w]
    have g : ∀ j, ¬ j = 9 → ¬ j = 37 + 3 * v 9 → ¬ j = 37 + 3 * v 9 + 1 → ¬ j = 37 + 3 * v 9 + 2 → up1 (up1 (up1 (up1 v (37 + 3 * v 9) s) (37 + 3 * v 9 + 1) q) (37 + 3 * v 9 + 2) 1) 9 (v 9 + 1) j = v j := fun j a b c d => by
      rw [up1_ne a, up1_ne d, up1_ne c, up1_ne b]
    have g2 : up1 (up1 (up1 (up1 v (37 + 3 * v 9) s) (37 + 3 * v 9 + 1) q) (37 + 3 * v 9 + 2) 1) 9 (v 9 + 1) (37 + 3 * v 9 + 2) = 1 := by
      rw [up1_ne (by omega), up1_at]
    have g9 : up1 (up1 (up1 (up1 v (37 + 3 * v 9) s) (37 + 3 * v 9 + 1) q) (37 + 3 * v 9 + 2) 1) 9 (v 9 + 1) 9 = v 9 + 1 := up1_at
    have g16 := g 16 (by decide) (by omega) (by omega) (by omega)
    generalize up1 (up1 (up1 (up1 v (37 + 3 * v 9) s) (37 + 3 * v 9 + 1) q) (37 + 3 * v 9 + 2) 1) 9 (v 9 + 1) = u at g g2 g9 g16
    refine ⟨⟨?_, fun k a b => ?_⟩, by omega⟩
    · rw [g9, g16, e16, show (v 9 + 1).toNat = (v 9).toNat + 1 by omega]
      unfold paS
      rw [paS_ext (r := v) _ (fun k a b => g _ (by omega) (by omega) (by omega) (by omega)), hv, show (((v 9).toNat : Nat) : Int) = v 9 by omega, g2]
    · rw [g9] at b
      by_cases z : k = v 9
      · rw [z, g2]
        decide
      · rw [g _ (by omega) (by omega) (by omega) (by omega)]
        exact hk k a (by omega)
  · have w : tk1 v s q = v := if_neg y
    rw [w]
    have g : ∀ j, ¬ j = 37 + 3 * ppl v s q + 2 → inc v (37 + 3 * ppl v s q + 2) j = v j := fun j a => up1_ne a
    have g2 : inc v (37 + 3 * ppl v s q + 2) (37 + 3 * ppl v s q + 2) = v (37 + 3 * ppl v s q + 2) + 1 := up1_at
    generalize inc v (37 + 3 * ppl v s q + 2) = u at g g2
    have g9 := g 9 (by omega)
    have g16 := g 16 (by omega)
    refine ⟨⟨?_, fun k a b => ?_⟩, by omega⟩
    · rw [g9, g16, e16, paS_inc (r := v) (k := ppl v s q) (d := 1) z4.1 _ (fun i a b => ?_), hv, if_pos (by omega)]
      by_cases z : i = ppl v s q
      · rw [if_pos z, z, g2]
      · rw [if_neg z, g _ (by omega)]
        omega
    · rw [g9] at b
      by_cases z : k = ppl v s q
      · rw [z, g2]
        have := hk (ppl v s q) z4.1 (by omega)
        omega
      · rw [g _ (by omega)]
        exact hk k a b
theorem tkF_at {r : Int → Int} {s q k : Int} (hO : tkO r s q) (hk : (k < 25 ∧ ¬ k = 9 ∧ ¬ k = 16) ∨ 85 ≤ k) : tkF r s q k = r k := by
  obtain ⟨z1, z2, z3, z4⟩ := tkO_0 hO
  have h9 := hO.1.2.2.1
  have e : tk1 (tk0 r s q) s q k = tk0 r s q k := by
    unfold tk1
    split
    · unfold inc
      rw [up1_ne (by omega), up1_ne (by omega), up1_ne (by omega), up1_ne (by omega)]
    · rfl
  unfold tkF inc
  rw [up1_ne (by omega), e, tk0_at z1 (by omega)]
