/-! PURE WORDS of a row -/
abbrev RB (r : Int → Int) : Prop := ∀ k : Int, 0 ≤ k → k < 185 → ((k < 16 ∨ 24 ≤ k) ∧ ¬ (37 ≤ k ∧ k < 85 ∧ (k - 37) % 3 = 2)) → -3000000 ≤ r k ∧ r k ≤ 3000000
def jf (r : Int → Int) (p w : Int) : Int := r (85 + 10 * p + w)
theorem Qv {Q : Option Value → Sto → Prop} {v v' : Int} {σ σ' : Sto} (k : Q (some (zI v)) σ) (hv : v = v') (hs : σ = σ') : Q (some (zI v')) σ' := by
  subst hv; subst hs; exact k
theorem Qn {Q : Option Value → Sto → Prop} {σ σ' : Sto} (k : Q none σ) (hs : σ = σ') : Q none σ' := by
  subst hs; exact k
theorem cases16 {P : Int → Prop} (h : ∀ n : Nat, n < 16 → P (n : Int)) : ∀ x : Int, 0 ≤ x → x < 16 → P x := fun x h0 h1 => by
  obtain ⟨n, rfl⟩ := Int.eq_ofNat_of_zero_le h0
  exact h n (by omega)
theorem ba_1 : ∀ x : Int, 0 ≤ x → x < 16 → ba x 1 = x % 2 := cases16 (by decide +kernel)
theorem ba_2 : ∀ x : Int, 0 ≤ x → x < 16 → ba x 2 = x / 2 % 2 * 2 := cases16 (by decide +kernel)
theorem ba_4 : ∀ x : Int, 0 ≤ x → x < 16 → ba x 4 = x / 4 % 2 * 4 := cases16 (by decide +kernel)
theorem ba_8 : ∀ x : Int, 0 ≤ x → x < 16 → ba x 8 = x / 8 % 2 * 8 := cases16 (by decide +kernel)
/-- sheets of a set -/
def sof (pages how : Int) : Int := if how % 2 = 1 then (pages + 1) / 2 else pages
theorem sof_rg {pages how : Int} (h1 : 1 ≤ pages) (h2 : pages ≤ 200) : 1 ≤ sof pages how ∧ sof pages how ≤ 200 := by
  unfold sof
  split <;> omega
theorem fx_0_11 : fldR 0 11 = some (0, 0) := rfl
theorem fx_0_18 : fldR 0 18 = some (0, 1) := rfl
theorem fx_1_9 : fldR 1 9 = some (1, 1) := rfl
theorem fx_1_15 : fldR 1 15 = some (1, 2) := rfl
theorem fx_1_18 : fldR 1 18 = some (1, 3) := rfl
theorem fx_1_21 : fldR 1 21 = some (1, 4) := rfl
theorem fx_1_24 : fldR 1 24 = some (1, 5) := rfl
theorem fx_1_27 : fldR 1 27 = some (1, 6) := rfl
theorem fx_1_31 : fldR 1 31 = some (1, 7) := rfl
theorem fx_1_34 : fldR 1 34 = some (1, 8) := rfl
theorem fx_1_37 : fldR 1 37 = some (1, 9) := rfl
theorem fx_1_40 : fldR 1 40 = some (1, 10) := rfl
theorem fx_1_43 : fldR 1 43 = some (1, 11) := rfl
theorem fx_1_46 : fldR 1 46 = some (1, 12) := rfl
theorem fx_1_49 : fldR 1 49 = some (1, 13) := rfl
theorem fx_1_52 : fldR 1 52 = some (1, 14) := rfl
theorem fx_1_55 : fldR 1 55 = some (1, 0) := rfl
theorem fx_2_9 : fldR 2 9 = some (2, 0) := rfl
theorem fx_2_15 : fldR 2 15 = some (2, 1) := rfl
theorem fx_2_23 : fldR 2 23 = some (4, 3) := rfl
theorem fx_2_29 : fldR 2 29 = some (4, 1) := rfl
theorem fx_2_39 : fldR 2 39 = some (2, 2) := rfl
theorem fx_2_42 : fldR 2 42 = some (2, 3) := rfl
theorem fx_2_45 : fldR 2 45 = some (2, 5) := rfl
theorem fx_2_48 : fldR 2 48 = some (2, 4) := rfl
theorem fx_3_9 : fldR 3 9 = some (3, 0) := rfl
theorem fx_3_15 : fldR 3 15 = some (3, 1) := rfl
theorem fx_3_18 : fldR 3 18 = some (3, 2) := rfl
theorem fx_3_21 : fldR 3 21 = some (3, 3) := rfl
theorem fx_3_30 : fldR 3 30 = some (3, 4) := rfl
theorem fx_3_34 : fldR 3 34 = some (3, 5) := rfl
theorem fx_4_12 : fldR 4 12 = some (4, 0) := rfl
theorem fx_4_21 : fldR 4 21 = some (4, 1) := rfl
theorem fx_4_28 : fldR 4 28 = some (4, 2) := rfl
theorem fx_4_32 : fldR 4 32 = some (4, 3) := rfl
theorem fx_4_36 : fldR 4 36 = some (4, 4) := rfl
theorem fx_4_40 : fldR 4 40 = some (4, 6) := rfl
theorem fx_4_62 : fldR 4 62 = some (4, 5) := rfl
theorem fx_4_65 : fldR 4 65 = some (4, 7) := rfl
theorem fx_4_68 : fldR 4 68 = some (4, 8) := rfl
theorem fx_4_108 : fldR 4 108 = some (1, 8) := rfl
theorem fx_4_111 : fldR 4 111 = some (1, 3) := rfl
theorem fx_4_114 : fldR 4 114 = some (1, 4) := rfl
theorem fx_4_127 : fldR 4 127 = some (1, 0) := rfl
theorem fx_4_130 : fldR 4 130 = some (5, 3) := rfl
theorem fx_4_150 : fldR 4 150 = some (3, 5) := rfl
theorem fx_4_153 : fldR 4 153 = some (1, 13) := rfl
theorem fx_4_159 : fldR 4 159 = some (1, 14) := rfl
theorem fx_5_11 : fldR 5 11 = some (5, 0) := rfl
theorem fx_5_17 : fldR 5 17 = some (5, 3) := rfl
theorem fx_5_22 : fldR 5 22 = some (5, 1) := rfl
theorem fx_5_25 : fldR 5 25 = some (5, 2) := rfl
theorem fx_5_32 : fldR 5 32 = some (1, 0) := rfl
theorem fx_5_35 : fldR 5 35 = some (1, 12) := rfl
theorem fx_5_39 : fldR 5 39 = some (1, 11) := rfl
theorem fx_5_54 : fldR 5 54 = some (1, 10) := rfl
theorem fx_5_57 : fldR 5 57 = some (1, 13) := rfl
theorem fx_6_9 : fldR 6 9 = some (6, 0) := rfl
theorem fx_6_15 : fldR 6 15 = some (6, 1) := rfl
theorem fx_6_18 : fldR 6 18 = some (6, 2) := rfl
theorem fx_7_12 : fldR 7 12 = some (7, 0) := rfl
theorem fx_7_16 : fldR 7 16 = some (7, 1) := rfl
theorem fx_7_22 : fldR 7 22 = some (7, 2) := rfl
theorem fx_7_29 : fldR 7 29 = some (7, 3) := rfl
theorem fx_7_36 : fldR 7 36 = some (7, 4) := rfl
theorem fx_7_48 : fldR 7 48 = some (4, 0) := rfl
theorem fx_7_52 : fldR 7 52 = some (6, 2) := rfl
theorem fx_7_69 : fldR 7 69 = some (6, 0) := rfl
theorem fx_7_72 : fldR 7 72 = some (6, 1) := rfl
theorem fx_7_79 : fldR 7 79 = some (4, 4) := rfl
theorem fx_7_83 : fldR 7 83 = some (4, 5) := rfl
theorem fx_7_92 : fldR 7 92 = some (4, 3) := rfl
theorem fx_7_107 : fldR 7 107 = some (7, 5) := rfl
theorem fx_7_110 : fldR 7 110 = some (4, 1) := rfl
theorem fx_7_128 : fldR 7 128 = some (1, 12) := rfl
theorem fx_7_136 : fldR 7 136 = some (1, 13) := rfl
theorem fx_7_142 : fldR 7 142 = some (4, 2) := rfl
theorem fx_7_152 : fldR 7 152 = some (1, 11) := rfl
theorem fx_7_161 : fldR 7 161 = some (1, 0) := rfl
theorem fx_7_164 : fldR 7 164 = some (3, 0) := rfl
theorem fx_7_178 : fldR 7 178 = some (5, 1) := rfl
theorem fx_7_184 : fldR 7 184 = some (5, 2) := rfl
theorem fx_7_187 : fldR 7 187 = some (4, 8) := rfl
theorem fx_7_190 : fldR 7 190 = some (4, 6) := rfl
theorem fx_7_193 : fldR 7 193 = some (4, 7) := rfl
theorem fx_7_196 : fldR 7 196 = some (3, 4) := rfl
theorem fx_7_199 : fldR 7 199 = some (0, 1) := rfl
theorem fx_7_202 : fldR 7 202 = some (2, 1) := rfl
theorem fx_7_208 : fldR 7 208 = some (3, 1) := rfl
theorem fx_7_211 : fldR 7 211 = some (3, 2) := rfl
theorem fx_7_214 : fldR 7 214 = some (3, 3) := rfl
theorem fx_7_234 : fldR 7 234 = some (2, 5) := rfl
theorem fx_7_237 : fldR 7 237 = some (2, 4) := rfl
