/-! the model's questions -/
def lsubE (ls : List (Nat × Value)) : List (Nat × Value) → Prop
  | [] => True
  | q :: r => (∃ x, lk q.1 ls = some x ∧ x = q.2) ∧ lsubE ls r
theorem lsubE_sub {ls : List (Nat × Value)} : ∀ {l : List (Nat × Value)}, lsubE ls l → lsub ls l
  | [], _ => trivial
  | q :: r, h => by
    obtain ⟨⟨x, h1, h2⟩, h3⟩ := h
    exact ⟨by rw [h1, h2], lsubE_sub h3⟩
theorem V_lq {M : MI} {N N1 pc : Nat} {ls : List (Nat × Value)} {st : List Value} {Q : Option Value → Sto → Prop} {σ : Sto} (ls' : List (Nat × Value)) (h : lsubE ls ls') (k : V M N1 pc ls' st N σ Q) : V M N1 pc ls st N σ Q := V_ls ls' (lsubE_sub h) k
theorem V_sq {M : MI} {N N1 pc : Nat} {ls : List (Nat × Value)} {st : List Value} {Q : Option Value → Sto → Prop} {σ σ' : Sto} (h : σ = σ') (k : V M N1 pc ls st N σ' Q) : V M N1 pc ls st N σ Q := by rw [h]; exact k
theorem loop_nat {I : Nat → Prop} (hi : Nat) (h : ∀ n : Nat, n ≤ hi → (n + 1 ≤ hi → I (n + 1)) → I n) : ∀ n : Nat, n ≤ hi → I n := by
  have key : ∀ m n : Nat, n + m = hi → I n := by
    intro m
    induction m with
    | zero => exact fun n e => h n (by omega) (fun z => absurd z (by omega))
    | succ m ih => exact fun n e => h n (by omega) (fun _ => ih (n + 1) (by omega))
  exact fun n hn => key (hi - n) n (by omega)
theorem loop_up {I : Int → Prop} (hi : Int) (h : ∀ n : Int, n ≤ hi → (∀ n' : Int, n < n' → n' ≤ hi → I n') → I n) : ∀ n : Int, n ≤ hi → I n := by
  have key : ∀ (m : Nat) (n : Int), hi - n ≤ (m : Int) → n ≤ hi → I n := by
    intro m
    induction m with
    | zero => exact fun n e hn => h n hn (fun n' h1 h2 => absurd h1 (by omega))
    | succ m ih => exact fun n e hn => h n hn (fun n' h1 h2 => ih n' (by omega) h2)
  exact fun n hn => key (hi - n).toNat n (by omega) hn
/-- a job's numbers are in their ranges -/
def JB (r : Int → Int) (p : Int) : Prop := 0 ≤ p ∧ p < 10 ∧ 0 ≤ jf r p 0 ∧ jf r p 0 ≤ 3000000 ∧ 1 ≤ jf r p 1 ∧ jf r p 1 ≤ 200 ∧ 1 ≤ jf r p 2 ∧ jf r p 2 ≤ 50 ∧ 0 ≤ jf r p 3 ∧ jf r p 3 ≤ 3 ∧ 0 ≤ jf r p 4 ∧ jf r p 4 ≤ 3 ∧ 0 ≤ jf r p 5 ∧ jf r p 5 < 16 ∧ 0 ≤ jf r p 6 ∧ jf r p 6 ≤ 9 ∧ 0 ≤ jf r p 7 ∧ jf r p 7 ≤ 1 ∧ 0 ≤ jf r p 8 ∧ jf r p 8 ≤ 10000 ∧ 0 ≤ jf r p 9 ∧ jf r p 9 ≤ 1000
/-- all numbers of a row are in their ranges -/
def RR (r : Int → Int) : Prop := RB r ∧ (0 ≤ r 0 ∧ r 0 ≤ 10) ∧ (0 ≤ r 9 ∧ r 9 ≤ 16) ∧ ∀ p : Int, 0 ≤ p → p < r 0 → JB r p
def sst (r : Int → Int) (p : Int) : Int := sof (jf r p 1) (jf r p 5)
def als (r : Int → Int) (p : Int) : Int := sst r p * jf r p 2
theorem sst_rg {r : Int → Int} {p : Int} (h : JB r p) : 1 ≤ sst r p ∧ sst r p ≤ 200 := by
  unfold JB at h
  exact sof_rg (by omega) (by omega)
theorem als_rg {r : Int → Int} {p : Int} (h : JB r p) : 1 ≤ als r p ∧ als r p ≤ 10000 := by
  have h1 := sst_rg h
  unfold JB at h
  unfold als
  have a : 1 * 1 ≤ sst r p * jf r p 2 := Int.mul_le_mul h1.1 (by omega) (by omega) (by omega)
  have c : sst r p * jf r p 2 ≤ 200 * 50 := Int.mul_le_mul h1.2 (by omega) (by omega) (by omega)
  omega
theorem dv_rg {x y : Int} (hx : 0 ≤ x) (hy : 0 < y) : 0 ≤ x / y ∧ x / y ≤ x ∧ 0 ≤ x % y ∧ x % y < y :=
  ⟨Int.ediv_nonneg hx (by omega), Int.ediv_le_self y hx, Int.emod_nonneg x (by omega), Int.emod_lt_of_pos x hy⟩
def nsh (r : Int → Int) (p : Int) : Int := if jf r p 5 / 2 % 2 = 1 then jf r p 8 % sst r p else jf r p 8 / jf r p 2
def ncp (r : Int → Int) (p : Int) : Int := if jf r p 5 / 2 % 2 = 1 then jf r p 8 / sst r p else jf r p 8 % jf r p 2
theorem nsh_rg {r : Int → Int} {p : Int} (h : JB r p) : 0 ≤ nsh r p ∧ nsh r p ≤ 10000 := by
  have h1 := sst_rg h
  unfold JB at h
  have a := dv_rg (x := jf r p 8) (y := sst r p) (by omega) (by omega)
  have b := dv_rg (x := jf r p 8) (y := jf r p 2) (by omega) (by omega)
  unfold nsh
  split <;> omega
abbrev ahd (r : Int → Int) (p q : Int) : Prop := (¬ jf r p 7 = jf r q 7 ∧ jf r p 7 = 0) ∨ (jf r p 7 = jf r q 7 ∧ (((jf r p 0 = r 7 ∨ jf r q 0 = r 7) ∧ jf r p 0 = r 7) ∨ (¬ (jf r p 0 = r 7 ∨ jf r q 0 = r 7) ∧ ((¬ jf r p 6 = jf r q 6 ∧ jf r q 6 < jf r p 6) ∨ (jf r p 6 = jf r q 6 ∧ p < q)))))
abbrev hset (r : Int → Int) (p : Int) : Prop := 0 < jf r p 5 / 4 ∧ jf r p 9 < jf r p 8 / sst r p
/-- the sheets of a paper in the first n trays -/
def shA (r : Int → Int) (s q : Int) : Nat → Int
  | 0 => 0
  | n + 1 => shA r s q n + (if r (25 + 3 * (n : Int)) = s ∧ r (25 + 3 * (n : Int) + 1) = q then r (25 + 3 * (n : Int) + 2) else 0)
def wst (r : Int → Int) (p : Int) : Int := if p < 0 then 1 else if hset r p then (if r 3 < jf r p 5 / 4 then 4 else 0) else if shA r (jf r p 3) (jf r p 4) 4 = 0 then 2 else if r 15 ≤ r 2 then 3 else 0
def sid (r : Int → Int) (p : Int) : Int := if jf r p 5 % 2 = 1 ∧ (nsh r p < sst r p - 1 ∨ jf r p 1 % 2 = 0) then 2 else 1
/-- where a job lies -/
noncomputable def plc (r : Int → Int) (j : Int) : Int := by
  classical exact if h : ∃ p, 0 ≤ p ∧ p < r 0 ∧ jf r p 0 = j ∧ ∀ i, 0 ≤ i → i < p → ¬ jf r i 0 = j then h.choose else -1
theorem plc_at {r : Int → Int} {j p : Int} (h0 : 0 ≤ p) (h1 : p < r 0) (h2 : jf r p 0 = j) (h3 : ∀ i, 0 ≤ i → i < p → ¬ jf r i 0 = j) : plc r j = p := by
  have h : ∃ p, 0 ≤ p ∧ p < r 0 ∧ jf r p 0 = j ∧ ∀ i, 0 ≤ i → i < p → ¬ jf r i 0 = j := ⟨p, h0, h1, h2, h3⟩
  unfold plc
  rw [dif_pos h]
  obtain ⟨a, c, d, f⟩ := h.choose_spec
  generalize h.choose = q at a c d f
  rcases Int.lt_trichotomy p q with z | z | z
  · exact absurd h2 (f p h0 z)
  · exact z.symm
  · exact absurd d (h3 q a z)
theorem plc_no {r : Int → Int} {j : Int} (h3 : ∀ i, 0 ≤ i → i < r 0 → ¬ jf r i 0 = j) : plc r j = -1 := by
  unfold plc
  rw [dif_neg (fun ⟨p, a, c, d, f⟩ => h3 p a c d)]
theorem plc_sp (r : Int → Int) (j : Int) : (plc r j = -1 ∧ ∀ i, 0 ≤ i → i < r 0 → ¬ jf r i 0 = j) ∨ (0 ≤ plc r j ∧ plc r j < r 0 ∧ jf r (plc r j) 0 = j ∧ ∀ i, 0 ≤ i → i < plc r j → ¬ jf r i 0 = j) := by
  classical
  by_cases h : ∃ p, 0 ≤ p ∧ p < r 0 ∧ jf r p 0 = j ∧ ∀ i, 0 ≤ i → i < p → ¬ jf r i 0 = j
  · obtain ⟨p, a, c, d, f⟩ := h
    rw [plc_at a c d f]
    exact Or.inr ⟨a, c, d, f⟩
  · refine Or.inl ?_
    have h3 : ∀ n : Nat, ∀ i : Int, 0 ≤ i → i < r 0 → i < n → ¬ jf r i 0 = j := by
      intro n
      induction n with
      | zero => exact fun i a _ c => absurd c (by omega)
      | succ n ih => exact fun i a c _ d => h ⟨i, a, c, d, fun k e f => ih k e (by omega) (by omega)⟩
    have h4 : ∀ i, 0 ≤ i → i < r 0 → ¬ jf r i 0 = j := fun i a c => h3 (i + 1).toNat i a c (by omega)
    exact ⟨plc_no h4, h4⟩
/-- the next job among the first n -/
def nxF (r : Int → Int) : Nat → Int
  | 0 => -1
  | n + 1 => if jf r (n : Int) 7 = 0 ∧ (nxF r n < 0 ∨ ahd r (n : Int) (nxF r n)) then (n : Int) else nxF r n
def nxj (r : Int → Int) : Int := nxF r (r 0).toNat
theorem nxF_rg (r : Int → Int) : ∀ n : Nat, -1 ≤ nxF r n ∧ nxF r n < (n : Int) ∧ (0 ≤ nxF r n → jf r (nxF r n) 7 = 0)
  | 0 => ⟨by unfold nxF; omega, by unfold nxF; omega, fun h => absurd h (by unfold nxF; omega)⟩
  | n + 1 => by
    have h := nxF_rg r n
    unfold nxF
    split
    · next q => exact ⟨by omega, by omega, fun _ => q.1⟩
    · exact ⟨h.1, by omega, h.2.2⟩
def hdN (r : Int → Int) : Nat → Int
  | 0 => 0
  | n + 1 => hdN r n + jf r (n : Int) 7
/-- how many of the first n are ahead of job k -/
def ahN (r : Int → Int) (k : Int) : Nat → Int
  | 0 => 0
  | n + 1 => ahN r k n + (if ¬ (n : Int) = k ∧ ahd r (n : Int) k then 1 else 0)
theorem ahN_rg (r : Int → Int) (k : Int) : ∀ n : Nat, 0 ≤ ahN r k n ∧ ahN r k n ≤ (n : Int)
  | 0 => ⟨Int.le_refl _, Int.le_refl _⟩
  | n + 1 => by
    have h := ahN_rg r k n
    unfold ahN
    split <;> omega
/-- the job at a place of the order, from the n-th on -/
def quF (r : Int → Int) (p : Int) : Nat → Nat → Int
  | 0, _ => -4
  | m + 1, n => if ahN r (n : Int) (r 0).toNat = p then jf r (n : Int) 0 else quF r p m (n + 1)
/-- what lacks, over the first n jobs -/
def lkN (r : Int → Int) (s q : Int) : Nat → Int
  | 0 => - shA r s q 4
  | n + 1 => lkN r s q n + (if jf r (n : Int) 3 = s ∧ jf r (n : Int) 4 = q then als r (n : Int) - jf r (n : Int) 8 - (if r 5 = 1 ∧ r 6 = jf r (n : Int) 0 then 1 else 0) else 0)
def wny (r : Int → Int) (pg kd hw : Int) : Int := if hw < 4 then 0 else if hw / 2 % 2 = 0 then 1 else if kd = 3 then 2 else if sof pg hw = 1 then 3 else if (if kd = 1 then r 13 / 2 else r 13) < sof pg hw then 4 else 0
def telF (r : Int → Int) (p w : Int) : Int := if w = 7 then sst r p else if w = 8 then als r p else if w = 9 then jf r p 8 else if w = 10 then jf r p 9 else if w = 11 then (if jf r p 8 = als r p then -4 else nsh r p) else if w = 12 then (if jf r p 8 = als r p then -4 else ncp r p) else jf r p (1 + w)
