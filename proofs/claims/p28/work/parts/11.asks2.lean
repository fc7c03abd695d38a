/-! the model's questions, the rest -/
theorem shA_rg {r : Int → Int} (hR : RB r) (s q : Int) : ∀ n : Nat, n ≤ 4 → -3000000 * (n : Int) ≤ shA r s q n ∧ shA r s q n ≤ 3000000 * (n : Int)
  | 0, _ => ⟨by unfold shA; omega, by unfold shA; omega⟩
  | n + 1, h => by
    have i := shA_rg hR s q n (by omega)
    have e := hR (25 + 3 * (n : Int) + 2) (by omega) (by omega) (by omega)
    unfold shA
    split <;> omega
theorem sof_w {pg hw : Int} (h : 0 ≤ pg ∧ pg ≤ 999) : 0 ≤ sof pg hw ∧ sof pg hw ≤ 1000 := by
  unfold sof
  split <;> omega
theorem lkN_rg {r : Int → Int} (hR : RR r) (s q : Int) : ∀ n : Nat, (n : Int) ≤ r 0 → -12000000 - 20000 * (n : Int) ≤ lkN r s q n ∧ lkN r s q n ≤ 12000000 + 20000 * (n : Int)
  | 0, _ => by
    have h := shA_rg hR.1 s q 4 (by omega)
    unfold lkN
    omega
  | n + 1, h => by
    have i := lkN_rg hR s q n (by omega)
    have hJ := hR.2.2.2 (n : Int) (by omega) (by omega)
    have a := als_rg hJ
    have j := hJ
    unfold JB at j
    unfold lkN
    (repeat' split) <;> omega
