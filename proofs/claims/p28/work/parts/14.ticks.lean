/-! the model's ticks -/
theorem sid_12 (r : Int → Int) (p : Int) : sid r p = 1 ∨ sid r p = 2 := by
  unfold sid
  split
  · exact Or.inr rfl
  · exact Or.inl rfl
theorem tkF_hi {r : Int → Int} {s q k : Int} (h : tkO r s q) (hk : 85 ≤ k) : tkF r s q k = r k := by
  obtain ⟨a, b, c, d⟩ := tkO_0 h
  have e : tk1 (tk0 r s q) s q k = tk0 r s q k := by
    unfold tk1
    split
    · unfold inc
      rw [up1_ne (by omega), up1_ne (by omega), up1_ne (by omega), up1_ne (by omega)]
    · rfl
  unfold tkF inc
  rw [up1_ne (by omega), e, tk0_at a (by omega)]
theorem tkF_J {r : Int → Int} {s q p : Int} (h : tkO r s q) (hJ : JB r p) : JB (tkF r s q) p := by
  have jj := hJ
  unfold JB at jj
  exact JB_ext (fun w h0 h1 => tkF_hi h (by omega)) hJ
theorem endsF_at {r : Int → Int} {k : Int} (h : k < 4 ∨ 6 < k) : endsF r k = r k := by
  unfold endsF
  rw [up1_ne (by omega), up1_ne (by omega), up1_ne (by omega)]
theorem endsF_J {r : Int → Int} {p : Int} (hJ : JB r p) : JB (endsF r) p := by
  have jj := hJ
  unfold JB at jj
  exact JB_ext (fun w h0 h1 => endsF_at (by omega)) hJ
def stO (r : Int → Int) (p : Int) : Prop := if hset r p then jf r p 9 ≤ 999 else tkO r (jf r p 3) (jf r p 4)
/-- the model's work can begin: enough sets at most n, each thing in its range -/
noncomputable def bOK : Nat → (Int → Int) → Prop
  | 0, r => RR r ∧ ¬ r 5 = 0
  | n + 1, r => RR r ∧ (r 5 = 0 → wst r (nxj r) = 0 → stO r (nxj r) ∧ bOK n (bstF r (nxj r)))
theorem wst_0 {r : Int → Int} {p : Int} (h : wst r p = 0) : 0 ≤ p := by
  unfold wst at h
  split at h <;> omega
theorem nxj_lt {r : Int → Int} (h0 : 0 ≤ r 0) : -1 ≤ nxj r ∧ nxj r < r 0 ∨ nxj r = -1 := by
  have h := nxF_rg r (r 0).toNat
  unfold nxj
  omega
/-- what an end of work needs -/
def fO (r : Int → Int) : Prop := RR r ∧ (0 ≤ plc r (r 6) ∧ plc r (r 6) < r 0) ∧ (jf r (plc r (r 6)) 9 ≤ 999 ∧ (¬ r 5 = 2 → jf r (plc r (r 6)) 8 ≤ 9999)) ∧ (0 ≤ r 8 ∧ r 8 ≤ 2999999) ∧ (0 ≤ r 14) ∧ (-3000000 ≤ r 2 ∧ r 2 ≤ 2999999)
theorem fin2_at {r : Int → Int} {p k : Int} (hp : 0 ≤ p) (hk : k < 85) (h2 : ¬ k = 2) (h17 : ¬ k = 17) (h19 : ¬ k = 19) : fin2 r p k = r k := by
  unfold fin2 inc adn
  rw [up1_ne (by omega), up1_ne (by omega), up1_ne (by omega), up1_ne (by omega)]
theorem JB_inc8 {r : Int → Int} {p : Int} (h8 : jf r p 8 ≤ 9999) (hJ : JB r p) : JB (inc r (85 + 10 * p + 8)) p := by
  have e : ∀ v, jf (inc r (85 + 10 * p + 8)) p v = if v = 8 then jf r p 8 + 1 else jf r p v := fun v => by
    by_cases h : v = 8
    · rw [if_pos h, h]; exact up1_at
    · rw [if_neg h]; exact up1_ne (by omega)
  have hK := hJ
  unfold JB at hK ⊢
  simp only [e, Int.reduceEq, if_true, if_false]
  omega
theorem fin2_J {r : Int → Int} {p : Int} (h8 : jf r p 8 ≤ 9999) (hJ : JB r p) : JB (fin2 r p) p := by
  have jj := hJ
  unfold JB at jj
  refine JB_inc8 ?_ (JB_up1 (by omega) (JB_up1 (by omega) (JB_up1 (by omega) hJ)))
  unfold adn inc
  rw [jf_up1 (by omega) (by decide) (by decide), jf_up1 (by omega) (by decide) (by decide), jf_up1 (by omega) (by decide) (by decide)]
  exact h8
def gO (r : Int → Int) (w m : Int) : Prop := RB r ∧ (0 ≤ m ∧ m ≤ 20000) ∧ (0 ≤ w ∧ w ≤ 4) ∧ (¬ 0 < w → r 4 - gbT r w m = 0 → fO (sbn (adn r 24 (gbT r w m)) 4 (gbT r w m)))
