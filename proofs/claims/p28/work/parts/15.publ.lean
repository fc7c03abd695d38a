theorem givF_0 {r : Int → Int} {j : Int} {k : Int} (h : k < 4 ∨ (7 < k ∧ k < 18) ∨ 18 < k) : givF r j k = r k := by
  unfold givF stayF
  rw [up1_ne (by omega)]
  split
  · rw [endsF_at (by omega)]
    exact up1_ne (by omega)
  · rfl
def cntF (r : Int → Int) (sv ln w : Int) : Int := if w = 0 then r 0 else if w = 1 then hdN r (r 0).toNat else if w = 2 then r 1 else if w = 3 then r 2 else if w = 4 then r 3 else if w = 5 then r 4 else if w = 6 then r 5 else if w = 7 then r 6 else if w = 14 then r 9 else if w = 15 then sv else if w = 16 then ln else if 8 ≤ w ∧ w ≤ 13 then r (10 + w - 8) else -1
noncomputable def bgF (r : Int → Int) : Int × (Int → Int) := if r 5 = 0 then begF 600 r else (0, r)
noncomputable def stpT (r : Int → Int) (m : Int) : Int := gbT (bgF r).2 (bgF r).1 m
noncomputable def stpF (r : Int → Int) (m : Int) : Int → Int := gbF (bgF r).2 (bgF r).1 m
noncomputable def runF : Nat → (Int → Int) → Int → (Int → Int)
  | 0, r, _ => r
  | n + 1, r, m => if 0 < m then runF n (stpF r m) (m - stpT r m) else r
noncomputable def rOK : Nat → (Int → Int) → Int → Prop
  | 0, r, m => RB r ∧ -3000000 ≤ m ∧ m ≤ 0
  | n + 1, r, m => RB r ∧ (-3000000 ≤ m ∧ m ≤ 20000) ∧ (0 < m → (r 5 = 0 → bOK 600 r) ∧ gO (bgF r).2 (bgF r).1 m ∧ rOK n (stpF r m) (m - stpT r m))
noncomputable def ttF : Nat → (Int → Int) → Int → Int → Int × (Int → Int)
  | 0, r, _, t => (t, r)
  | n + 1, r, j, t => if t < 20000 ∧ 0 ≤ plc r j then (if plc (bgF r).2 j < 0 then ttF n (bgF r).2 j (t + 1) else ttF n (stpF r (20000 - t)) j (t + stpT r (20000 - t))) else (t, r)
noncomputable def tOK : Nat → (Int → Int) → Int → Int → Prop
  | 0, r, j, t => RR r ∧ (0 ≤ t ∧ t ≤ 30000) ∧ ¬ (t < 20000 ∧ 0 ≤ plc r j)
  | n + 1, r, j, t => RR r ∧ (0 ≤ t ∧ t ≤ 30000) ∧ (t < 20000 ∧ 0 ≤ plc r j → (r 5 = 0 → bOK 600 r) ∧ RR (bgF r).2 ∧ (if plc (bgF r).2 j < 0 then tOK n (bgF r).2 j (t + 1) else (gO (bgF r).2 (bgF r).1 (20000 - t) ∧ tOK n (stpF r (20000 - t)) j (t + stpT r (20000 - t)))))
theorem bgF_0 {r : Int → Int} (h : r 5 = 0) : bgF r = begF 600 r := if_pos h
theorem bgF_1 {r : Int → Int} (h : ¬ r 5 = 0) : bgF r = (0, r) := if_neg h
