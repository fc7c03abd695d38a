/-! PURE WORDS of a row -/
abbrev RB (r : Int → Int) : Prop := ∀ k : Int, 0 ≤ k → k < 185 → ((k < 16 ∨ 24 ≤ k) ∧ ¬ (37 ≤ k ∧ k < 85 ∧ (k - 37) % 3 = 2)) → -3000000 ≤ r k ∧ r k ≤ 3000000
def jf (r : Int → Int) (p w : Int) : Int := r (85 + 10 * p + w)
theorem Qv {Q : Option Value → Sto → Prop} {v v' : Int} {σ σ' : Sto} (k : Q (some (zI v)) σ) (hv : v = v') (hs : σ = σ') : Q (some (zI v')) σ' := by
  subst hv; subst hs; exact k
theorem Qn {Q : Option Value → Sto → Prop} {σ σ' : Sto} (k : Q none σ) (hs : σ = σ') : Q none σ' := by
  subst hs; exact k
theorem mnow {σ : Sto} {now now' : Int → Int} {P : PT} {T : TT} (h : now = now') : mst σ now P T = mst σ now' P T := by rw [h]
theorem cases16 {P : Int → Prop} (h : ∀ n : Nat, n < 16 → P (n : Int)) : ∀ x : Int, 0 ≤ x → x < 16 → P x := fun x h0 h1 => by
  obtain ⟨n, rfl⟩ := Int.eq_ofNat_of_zero_le h0
  exact h n (by omega)
theorem ba_1 : ∀ x : Int, 0 ≤ x → x < 16 → ba x 1 = x % 2 := cases16 (by decide +kernel)
theorem ba_2 : ∀ x : Int, 0 ≤ x → x < 16 → ba x 2 = x / 2 % 2 * 2 := cases16 (by decide +kernel)
theorem ba_4 : ∀ x : Int, 0 ≤ x → x < 16 → ba x 4 = x / 4 % 2 * 4 := cases16 (by decide +kernel)
theorem ba_8 : ∀ x : Int, 0 ≤ x → x < 16 → ba x 8 = x / 8 % 2 * 8 := cases16 (by decide +kernel)
/-- sheets of a set -/
def sof (pages how : Int) : Int := if how % 2 = 1 then (pages + 1) / 2 else pages
theorem sof_rg {pages how : Int} (h1 : 1 ≤ pages) (h2 : pages ≤ 200) : 1 ≤ sof pages how ∧ sof pages how ≤ 200 := by
  unfold sof
  split <;> omega
theorem fx_0_11 : fldR 0 11 = some (0, 0) := rfl
theorem fx_0_18 : fldR 0 18 = some (0, 1) := rfl
theorem fx_1_9 : fldR 1 9 = some (1, 1) := rfl
theorem fx_1_15 : fldR 1 15 = some (1, 2) := rfl
theorem fx_1_18 : fldR 1 18 = some (1, 3) := rfl
theorem fx_1_21 : fldR 1 21 = some (1, 4) := rfl
theorem fx_1_24 : fldR 1 24 = some (1, 5) := rfl
theorem fx_1_27 : fldR 1 27 = some (1, 6) := rfl
theorem fx_1_31 : fldR 1 31 = some (1, 7) := rfl
theorem fx_1_34 : fldR 1 34 = some (1, 8) := rfl
theorem fx_1_37 : fldR 1 37 = some (1, 9) := rfl
theorem fx_1_40 : fldR 1 40 = some (1, 10) := rfl
theorem fx_1_43 : fldR 1 43 = some (1, 11) := rfl
theorem fx_1_46 : fldR 1 46 = some (1, 12) := rfl
theorem fx_1_49 : fldR 1 49 = some (1, 13) := rfl
theorem fx_1_52 : fldR 1 52 = some (1, 14) := rfl
theorem fx_1_55 : fldR 1 55 = some (1, 0) := rfl
theorem fx_2_9 : fldR 2 9 = some (2, 0) := rfl
theorem fx_2_15 : fldR 2 15 = some (2, 1) := rfl
theorem fx_2_23 : fldR 2 23 = some (4, 3) := rfl
theorem fx_2_29 : fldR 2 29 = some (4, 1) := rfl
theorem fx_2_39 : fldR 2 39 = some (2, 2) := rfl
theorem fx_2_42 : fldR 2 42 = some (2, 3) := rfl
theorem fx_2_45 : fldR 2 45 = some (2, 5) := rfl
theorem fx_2_48 : fldR 2 48 = some (2, 4) := rfl
theorem fx_3_9 : fldR 3 9 = some (3, 0) := rfl
theorem fx_3_15 : fldR 3 15 = some (3, 1) := rfl
theorem fx_3_18 : fldR 3 18 = some (3, 2) := rfl
theorem fx_3_21 : fldR 3 21 = some (3, 3) := rfl
theorem fx_3_30 : fldR 3 30 = some (3, 4) := rfl
theorem fx_3_34 : fldR 3 34 = some (3, 5) := rfl
theorem fx_4_12 : fldR 4 12 = some (4, 0) := rfl
theorem fx_4_21 : fldR 4 21 = some (4, 1) := rfl
theorem fx_4_28 : fldR 4 28 = some (4, 2) := rfl
theorem fx_4_32 : fldR 4 32 = some (4, 3) := rfl
theorem fx_4_36 : fldR 4 36 = some (4, 4) := rfl
theorem fx_4_40 : fldR 4 40 = some (4, 6) := rfl
theorem fx_4_62 : fldR 4 62 = some (4, 5) := rfl
theorem fx_4_65 : fldR 4 65 = some (4, 7) := rfl
theorem fx_4_68 : fldR 4 68 = some (4, 8) := rfl
theorem fx_4_108 : fldR 4 108 = some (1, 8) := rfl
theorem fx_4_111 : fldR 4 111 = some (1, 3) := rfl
theorem fx_4_114 : fldR 4 114 = some (1, 4) := rfl
theorem fx_4_127 : fldR 4 127 = some (1, 0) := rfl
theorem fx_4_130 : fldR 4 130 = some (5, 3) := rfl
theorem fx_4_150 : fldR 4 150 = some (3, 5) := rfl
theorem fx_4_153 : fldR 4 153 = some (1, 13) := rfl
theorem fx_4_159 : fldR 4 159 = some (1, 14) := rfl
theorem fx_5_11 : fldR 5 11 = some (5, 0) := rfl
theorem fx_5_17 : fldR 5 17 = some (5, 3) := rfl
theorem fx_5_22 : fldR 5 22 = some (5, 1) := rfl
theorem fx_5_25 : fldR 5 25 = some (5, 2) := rfl
theorem fx_5_32 : fldR 5 32 = some (1, 0) := rfl
theorem fx_5_35 : fldR 5 35 = some (1, 12) := rfl
theorem fx_5_39 : fldR 5 39 = some (1, 11) := rfl
theorem fx_5_54 : fldR 5 54 = some (1, 10) := rfl
theorem fx_5_57 : fldR 5 57 = some (1, 13) := rfl
theorem fx_6_9 : fldR 6 9 = some (6, 0) := rfl
theorem fx_6_15 : fldR 6 15 = some (6, 1) := rfl
theorem fx_6_18 : fldR 6 18 = some (6, 2) := rfl
theorem fx_7_12 : fldR 7 12 = some (7, 0) := rfl
theorem fx_7_16 : fldR 7 16 = some (7, 1) := rfl
theorem fx_7_22 : fldR 7 22 = some (7, 2) := rfl
theorem fx_7_29 : fldR 7 29 = some (7, 3) := rfl
theorem fx_7_36 : fldR 7 36 = some (7, 4) := rfl
theorem fx_7_48 : fldR 7 48 = some (4, 0) := rfl
theorem fx_7_52 : fldR 7 52 = some (6, 2) := rfl
theorem fx_7_69 : fldR 7 69 = some (6, 0) := rfl
theorem fx_7_72 : fldR 7 72 = some (6, 1) := rfl
theorem fx_7_79 : fldR 7 79 = some (4, 4) := rfl
theorem fx_7_83 : fldR 7 83 = some (4, 5) := rfl
theorem fx_7_92 : fldR 7 92 = some (4, 3) := rfl
theorem fx_7_107 : fldR 7 107 = some (7, 5) := rfl
theorem fx_7_110 : fldR 7 110 = some (4, 1) := rfl
theorem fx_7_128 : fldR 7 128 = some (1, 12) := rfl
theorem fx_7_136 : fldR 7 136 = some (1, 13) := rfl
theorem fx_7_142 : fldR 7 142 = some (4, 2) := rfl
theorem fx_7_152 : fldR 7 152 = some (1, 11) := rfl
theorem fx_7_161 : fldR 7 161 = some (1, 0) := rfl
theorem fx_7_164 : fldR 7 164 = some (3, 0) := rfl
theorem fx_7_178 : fldR 7 178 = some (5, 1) := rfl
theorem fx_7_184 : fldR 7 184 = some (5, 2) := rfl
theorem fx_7_187 : fldR 7 187 = some (4, 8) := rfl
theorem fx_7_190 : fldR 7 190 = some (4, 6) := rfl
theorem fx_7_193 : fldR 7 193 = some (4, 7) := rfl
theorem fx_7_196 : fldR 7 196 = some (3, 4) := rfl
theorem fx_7_199 : fldR 7 199 = some (0, 1) := rfl
theorem fx_7_202 : fldR 7 202 = some (2, 1) := rfl
theorem fx_7_208 : fldR 7 208 = some (3, 1) := rfl
theorem fx_7_211 : fldR 7 211 = some (3, 2) := rfl
theorem fx_7_214 : fldR 7 214 = some (3, 3) := rfl
theorem fx_7_234 : fldR 7 234 = some (2, 5) := rfl
theorem fx_7_237 : fldR 7 237 = some (2, 4) := rfl
theorem fx_7_240 : fldR 7 240 = some (2, 3) := rfl
theorem fx_7_243 : fldR 7 243 = some (2, 2) := rfl
theorem fx_8_7 : fldR 8 7 = some (8, 0) := rfl
theorem fx_8_13 : fldR 8 13 = some (8, 1) := rfl
theorem fx_8_16 : fldR 8 16 = some (8, 2) := rfl
theorem fx_8_19 : fldR 8 19 = some (8, 4) := rfl
theorem fx_8_23 : fldR 8 23 = some (8, 5) := rfl
theorem fx_8_26 : fldR 8 26 = some (8, 8) := rfl
theorem fx_8_29 : fldR 8 29 = some (8, 3) := rfl
theorem fx_8_166 : fldR 8 166 = some (8, 6) := rfl
theorem fx_8_169 : fldR 8 169 = some (8, 7) := rfl
theorem fx_8_217 : fldR 8 217 = some (8, 11) := rfl
theorem fx_8_223 : fldR 8 223 = some (8, 9) := rfl
theorem fx_8_226 : fldR 8 226 = some (8, 10) := rfl
theorem c_X8_in {σ : Sto} {Q : Option Value → Sto → Prop} {v lo hi : Int} (r_v : -2147483648 ≤ v ∧ v < 2147483648) (r_lo : -2147483648 ≤ lo ∧ lo < 2147483648) (r_hi : -2147483648 ≤ hi ∧ hi < 2147483648) (k1 : lo ≤ v ∧ v ≤ hi → Q (some (zI 1)) σ) (k0 : ¬ (lo ≤ v ∧ v ≤ hi) → Q (some (zI 0)) σ) : Con M_X8_in 150 150 σ [zI v, zI lo, zI hi] Q := by
  refine V_entry ok_X8_in (Nat.le_refl _) (Nat.le_of_ble_eq_true rfl) (V_ls [(0, zI v), (1, zI lo), (2, zI hi)] ⟨rfl, rfl, rfl, trivial⟩ ?_)
  refine V_iload_n (pc := 0) e_X8_in_0 rfl ?_
  refine V_iload_n (pc := 1) e_X8_in_1 rfl ?_
  refine V_icmp_lt (pc := 2) e_X8_in_2 (by decide) (by omega) (by omega) (fun h2 => ?_) (fun h2 => ?_)
  · refine V_iconst (pc := 14) e_X8_in_14 ?_
    refine V_ret (pc := 15) (v := some (zI _)) ⟨e_X8_in_15, _, rfl, by decide⟩ ?_
    first | exact k1 (by omega) | exact k0 (by omega)
  · refine V_iload_n (pc := 5) e_X8_in_5 rfl ?_
    refine V_iload_n (pc := 6) e_X8_in_6 rfl ?_
    refine V_icmp_gt (pc := 7) e_X8_in_7 (by decide) (by omega) (by omega) (fun h7 => ?_) (fun h7 => ?_)
    · refine V_iconst (pc := 14) e_X8_in_14 ?_
      refine V_ret (pc := 15) (v := some (zI _)) ⟨e_X8_in_15, _, rfl, by decide⟩ ?_
      first | exact k1 (by omega) | exact k0 (by omega)
    · refine V_iconst (pc := 10) e_X8_in_10 ?_
      refine V_goto (pc := 11) e_X8_in_11 (by decide) ?_
      refine V_ret (pc := 15) (v := some (zI _)) ⟨e_X8_in_15, _, rfl, by decide⟩ ?_
      first | exact k1 (by omega) | exact k0 (by omega)
theorem c_X8_isPaper {σ : Sto} {Q : Option Value → Sto → Prop} {s t : Int} (r_s : -2147483648 ≤ s ∧ s < 2147483648) (r_t : -2147483648 ≤ t ∧ t < 2147483648) (k1 : (0 ≤ s ∧ s ≤ 3) ∧ 0 ≤ t ∧ t ≤ 3 → Q (some (zI 1)) σ) (k0 : ¬ ((0 ≤ s ∧ s ≤ 3) ∧ 0 ≤ t ∧ t ≤ 3) → Q (some (zI 0)) σ) : Con M_X8_isPaper 150 150 σ [zI s, zI t] Q := by
  refine V_entry ok_X8_isPaper (Nat.le_refl _) (Nat.le_of_ble_eq_true rfl) (V_ls [(0, zI s), (1, zI t)] ⟨rfl, rfl, trivial⟩ ?_)
  refine V_iload_n (pc := 0) e_X8_isPaper_0 rfl ?_
  refine V_iconst (pc := 1) e_X8_isPaper_1 ?_
  refine V_iconst (pc := 2) e_X8_isPaper_2 ?_
  refine V_cS3 (pc := 3) ca_8_32 e_X8_isPaper_3 (by decide) (Nat.le_of_ble_eq_true rfl) (c_X8_in (by omega) (by omega) (by omega) (fun h_in => ?_) (fun h_in => ?_))
  · refine V_if_eq (pc := 6) e_X8_isPaper_6 (by decide) (by decide) (fun h => absurd h (by decide)) (fun _ => ?_)
    refine V_iload_n (pc := 9) e_X8_isPaper_9 rfl ?_
    refine V_iconst (pc := 10) e_X8_isPaper_10 ?_
    refine V_iconst (pc := 11) e_X8_isPaper_11 ?_
    refine V_cS3 (pc := 12) ca_8_32 e_X8_isPaper_12 (by decide) (Nat.le_of_ble_eq_true rfl) (c_X8_in (by omega) (by omega) (by omega) (fun h_in => ?_) (fun h_in => ?_))
    · refine V_if_eq (pc := 15) e_X8_isPaper_15 (by decide) (by decide) (fun h => absurd h (by decide)) (fun _ => ?_)
      refine V_iconst (pc := 18) e_X8_isPaper_18 ?_
      refine V_goto (pc := 19) e_X8_isPaper_19 (by decide) ?_
      refine V_ret (pc := 23) (v := some (zI _)) ⟨e_X8_isPaper_23, _, rfl, by decide⟩ ?_
      first | exact k1 (by omega) | exact k0 (by omega)
    · refine V_if_eq (pc := 15) e_X8_isPaper_15 (by decide) (by decide) (fun _ => ?_) (fun h => absurd (by decide) h)
      refine V_iconst (pc := 22) e_X8_isPaper_22 ?_
      refine V_ret (pc := 23) (v := some (zI _)) ⟨e_X8_isPaper_23, _, rfl, by decide⟩ ?_
      first | exact k1 (by omega) | exact k0 (by omega)
  · refine V_if_eq (pc := 6) e_X8_isPaper_6 (by decide) (by decide) (fun _ => ?_) (fun h => absurd (by decide) h)
    refine V_iconst (pc := 22) e_X8_isPaper_22 ?_
    refine V_ret (pc := 23) (v := some (zI _)) ⟨e_X8_isPaper_23, _, rfl, by decide⟩ ?_
    first | exact k1 (by omega) | exact k0 (by omega)
theorem c_X8_isTray {σ : Sto} {Q : Option Value → Sto → Prop} {t : Int} (r_t : -2147483648 ≤ t ∧ t < 2147483648) (k1 : 0 ≤ t ∧ t ≤ 3 → Q (some (zI 1)) σ) (k0 : ¬ (0 ≤ t ∧ t ≤ 3) → Q (some (zI 0)) σ) : Con M_X8_isTray 150 150 σ [zI t] Q := by
  refine V_entry ok_X8_isTray (Nat.le_refl _) (Nat.le_of_ble_eq_true rfl) (V_ls [(0, zI t)] ⟨rfl, trivial⟩ ?_)
  refine V_iload_n (pc := 0) e_X8_isTray_0 rfl ?_
  refine V_iconst (pc := 1) e_X8_isTray_1 ?_
  refine V_iconst (pc := 2) e_X8_isTray_2 ?_
  refine V_cS3 (pc := 3) ca_8_32 e_X8_isTray_3 (by decide) (Nat.le_of_ble_eq_true rfl) (c_X8_in (by omega) (by omega) (by omega) (fun h_in => ?_) (fun h_in => ?_))
  · refine V_ret (pc := 6) (v := some (zI _)) ⟨e_X8_isTray_6, _, rfl, by decide⟩ ?_
    first | exact k1 (by omega) | exact k0 (by omega)
  · refine V_ret (pc := 6) (v := some (zI _)) ⟨e_X8_isTray_6, _, rfl, by decide⟩ ?_
    first | exact k1 (by omega) | exact k0 (by omega)
theorem c_X8_isPages {σ : Sto} {Q : Option Value → Sto → Prop} {t : Int} (r_t : -2147483648 ≤ t ∧ t < 2147483648) (k1 : 1 ≤ t ∧ t ≤ 200 → Q (some (zI 1)) σ) (k0 : ¬ (1 ≤ t ∧ t ≤ 200) → Q (some (zI 0)) σ) : Con M_X8_isPages 150 150 σ [zI t] Q := by
  refine V_entry ok_X8_isPages (Nat.le_refl _) (Nat.le_of_ble_eq_true rfl) (V_ls [(0, zI t)] ⟨rfl, trivial⟩ ?_)
  refine V_iload_n (pc := 0) e_X8_isPages_0 rfl ?_
  refine V_iconst (pc := 1) e_X8_isPages_1 ?_
  refine V_sipush (pc := 2) (by decide) e_X8_isPages_2 ?_
  refine V_cS3 (pc := 5) ca_8_32 e_X8_isPages_5 (by decide) (Nat.le_of_ble_eq_true rfl) (c_X8_in (by omega) (by omega) (by omega) (fun h_in => ?_) (fun h_in => ?_))
  · refine V_ret (pc := 8) (v := some (zI _)) ⟨e_X8_isPages_8, _, rfl, by decide⟩ ?_
    first | exact k1 (by omega) | exact k0 (by omega)
  · refine V_ret (pc := 8) (v := some (zI _)) ⟨e_X8_isPages_8, _, rfl, by decide⟩ ?_
    first | exact k1 (by omega) | exact k0 (by omega)
theorem c_X8_isCopies {σ : Sto} {Q : Option Value → Sto → Prop} {t : Int} (r_t : -2147483648 ≤ t ∧ t < 2147483648) (k1 : 1 ≤ t ∧ t ≤ 50 → Q (some (zI 1)) σ) (k0 : ¬ (1 ≤ t ∧ t ≤ 50) → Q (some (zI 0)) σ) : Con M_X8_isCopies 150 150 σ [zI t] Q := by
  refine V_entry ok_X8_isCopies (Nat.le_refl _) (Nat.le_of_ble_eq_true rfl) (V_ls [(0, zI t)] ⟨rfl, trivial⟩ ?_)
  refine V_iload_n (pc := 0) e_X8_isCopies_0 rfl ?_
  refine V_iconst (pc := 1) e_X8_isCopies_1 ?_
  refine V_bipush (pc := 2) (by decide) e_X8_isCopies_2 ?_
  refine V_cS3 (pc := 4) ca_8_32 e_X8_isCopies_4 (by decide) (Nat.le_of_ble_eq_true rfl) (c_X8_in (by omega) (by omega) (by omega) (fun h_in => ?_) (fun h_in => ?_))
  · refine V_ret (pc := 7) (v := some (zI _)) ⟨e_X8_isCopies_7, _, rfl, by decide⟩ ?_
    first | exact k1 (by omega) | exact k0 (by omega)
  · refine V_ret (pc := 7) (v := some (zI _)) ⟨e_X8_isCopies_7, _, rfl, by decide⟩ ?_
    first | exact k1 (by omega) | exact k0 (by omega)
theorem c_X8_jobAt {σ : Sto} {Q : Option Value → Sto → Prop} {p : Int} (k : Q (some (zI (85 + 10 * p))) σ) : Con M_X8_jobAt 150 150 σ [zI p] Q := by
  refine V_entry ok_X8_jobAt (Nat.le_refl _) (Nat.le_of_ble_eq_true rfl) (V_ls [(0, zI p)] ⟨rfl, trivial⟩ ?_)
  refine V_bipush (pc := 0) (by decide) e_X8_jobAt_0 ?_
  refine V_bipush (pc := 2) (by decide) e_X8_jobAt_2 ?_
  refine V_iload_n (pc := 4) e_X8_jobAt_4 rfl ?_
  refine V_imul (pc := 5) e_X8_jobAt_5 ?_
  refine V_iadd (pc := 6) e_X8_jobAt_6 ?_
  refine V_ret (pc := 7) (v := some (zI _)) ⟨e_X8_jobAt_7, _, rfl, rfl⟩ ?_
  exact k
theorem c_X8_of {σ : Sto} {now : Int → Int} {P : PT} {T : TT} {Q : Option Value → Sto → Prop} {p w : Int} (h : 0 ≤ 85 + 10 * p + w ∧ 85 + 10 * p + w < 185) (k : Q (some (zI (jf now p w))) (mst σ now P T)) : Con M_X8_of 150 150 (mst σ now P T) [.ref 144, zI p, zI w] Q := by
  refine V_entry ok_X8_of (Nat.le_refl _) (Nat.le_of_ble_eq_true rfl) (V_ls [(0, .ref 144), (1, zI p), (2, zI w)] ⟨rfl, rfl, rfl, trivial⟩ ?_)
  refine V_aload_n (pc := 0) e_X8_of_0 rfl (Or.inl ⟨_, rfl⟩) ?_
  refine V_getR (pc := 1) (q := 0) (j := 145) fx_8_7 e_X8_of_1 rfl rfl (by decide) rfl rfl ?_
  refine V_iload_n (pc := 4) e_X8_of_4 rfl ?_
  refine V_cS1 (pc := 5) ca_8_60 e_X8_of_5 (by decide) (Nat.le_of_ble_eq_true rfl) (c_X8_jobAt ?_)
  refine V_iload_n (pc := 8) e_X8_of_8 rfl ?_
  refine V_iadd (pc := 9) e_X8_of_9 ?_
  refine Vm_now (pc := 10) e_X8_of_10 (by omega) ?_
  refine V_ret (pc := 11) (v := some (zI _)) ⟨e_X8_of_11, _, rfl, rfl⟩ ?_
  exact k
theorem c_X8_setOf {σ : Sto} {Q : Option Value → Sto → Prop} {p w : Int} (hw : 0 ≤ w ∧ w < 16) (hp : 0 ≤ p ∧ p ≤ 1000) (k : Q (some (zI (sof p w))) σ) : Con M_X8_setOf 150 150 σ [zI p, zI w] Q := by
  refine V_entry ok_X8_setOf (Nat.le_refl _) (Nat.le_of_ble_eq_true rfl) (V_ls [(0, zI p), (1, zI w)] ⟨rfl, rfl, trivial⟩ ?_)
  have b1 := ba_1 w (by omega) (by omega)
  refine V_iload_n (pc := 0) e_X8_setOf_0 rfl ?_
  refine V_iconst (pc := 1) e_X8_setOf_1 ?_
  refine V_iand (pc := 2) e_X8_setOf_2 ?_
  refine V_iconst (pc := 3) e_X8_setOf_3 ?_
  refine V_icmp_ne (pc := 4) e_X8_setOf_4 (by decide) (by omega) (by decide) (fun h4 => ?_) (fun h4 => ?_)
  · refine V_iload_n (pc := 15) e_X8_setOf_15 rfl ?_
    refine V_ret (pc := 16) (v := some (zI _)) ⟨e_X8_setOf_16, _, rfl, rfl⟩ ?_
    exact Qv k (by unfold sof; split <;> omega) rfl
  · refine V_iload_n (pc := 7) e_X8_setOf_7 rfl ?_
    refine V_iconst (pc := 8) e_X8_setOf_8 ?_
    refine V_iadd (pc := 9) e_X8_setOf_9 ?_
    refine V_iconst (pc := 10) e_X8_setOf_10 ?_
    refine V_idiv (pc := 11) e_X8_setOf_11 (by omega) (by decide) ?_
    refine V_goto (pc := 12) e_X8_setOf_12 (by decide) ?_
    refine V_ret (pc := 16) (v := some (zI _)) ⟨e_X8_setOf_16, _, rfl, rfl⟩ ?_
    exact Qv k (by unfold sof; split <;> omega) rfl
theorem c_X8_isOf {σ : Sto} {now : Int → Int} {P : PT} {T : TT} {Q : Option Value → Sto → Prop} {t s q : Int} (hR : RB now) (ht : 0 ≤ t ∧ t ≤ 3) (r_s : -2147483648 ≤ s ∧ s < 2147483648) (r_q : -2147483648 ≤ q ∧ q < 2147483648) (k1 : now (25 + 3 * t) = s ∧ now (25 + 3 * t + 1) = q → Q (some (zI 1)) (mst σ now P T)) (k0 : ¬ (now (25 + 3 * t) = s ∧ now (25 + 3 * t + 1) = q) → Q (some (zI 0)) (mst σ now P T)) : Con M_X8_isOf 150 150 (mst σ now P T) [.ref 144, zI t, zI s, zI q] Q := by
  refine V_entry ok_X8_isOf (Nat.le_refl _) (Nat.le_of_ble_eq_true rfl) (V_ls [(0, .ref 144), (1, zI t), (2, zI s), (3, zI q)] ⟨rfl, rfl, rfl, rfl, trivial⟩ ?_)
  have g1 := hR (25 + 3 * t) (by omega) (by omega) (by omega)
  have g2 := hR (25 + 3 * t + 1) (by omega) (by omega) (by omega)
  refine V_aload_n (pc := 0) e_X8_isOf_0 rfl (Or.inl ⟨_, rfl⟩) ?_
  refine V_getR (pc := 1) (q := 0) (j := 145) fx_8_7 e_X8_isOf_1 rfl rfl (by decide) rfl rfl ?_
  refine V_bipush (pc := 4) (by decide) e_X8_isOf_4 ?_
  refine V_iconst (pc := 6) e_X8_isOf_6 ?_
  refine V_iload_n (pc := 7) e_X8_isOf_7 rfl ?_
  refine V_imul (pc := 8) e_X8_isOf_8 ?_
  refine V_iadd (pc := 9) e_X8_isOf_9 ?_
  refine Vm_now (pc := 10) e_X8_isOf_10 (by omega) ?_
  refine V_iload_n (pc := 11) e_X8_isOf_11 rfl ?_
  refine V_icmp_ne (pc := 12) e_X8_isOf_12 (by decide) (by omega) (by omega) (fun h12 => ?_) (fun h12 => ?_)
  · refine V_iconst (pc := 36) e_X8_isOf_36 ?_
    refine V_ret (pc := 37) (v := some (zI _)) ⟨e_X8_isOf_37, _, rfl, by decide⟩ ?_
    first | exact k1 (by omega) | exact k0 (by omega)
  · refine V_aload_n (pc := 15) e_X8_isOf_15 rfl (Or.inl ⟨_, rfl⟩) ?_
    refine V_getR (pc := 16) (q := 0) (j := 145) fx_8_7 e_X8_isOf_16 rfl rfl (by decide) rfl rfl ?_
    refine V_bipush (pc := 19) (by decide) e_X8_isOf_19 ?_
    refine V_iconst (pc := 21) e_X8_isOf_21 ?_
    refine V_iload_n (pc := 22) e_X8_isOf_22 rfl ?_
    refine V_imul (pc := 23) e_X8_isOf_23 ?_
    refine V_iadd (pc := 24) e_X8_isOf_24 ?_
    refine V_iconst (pc := 25) e_X8_isOf_25 ?_
    refine V_iadd (pc := 26) e_X8_isOf_26 ?_
    refine Vm_now (pc := 27) e_X8_isOf_27 (by omega) ?_
    refine V_iload_n (pc := 28) e_X8_isOf_28 rfl ?_
    refine V_icmp_ne (pc := 29) e_X8_isOf_29 (by decide) (by omega) (by omega) (fun h29 => ?_) (fun h29 => ?_)
    · refine V_iconst (pc := 36) e_X8_isOf_36 ?_
      refine V_ret (pc := 37) (v := some (zI _)) ⟨e_X8_isOf_37, _, rfl, by decide⟩ ?_
      first | exact k1 (by omega) | exact k0 (by omega)
    · refine V_iconst (pc := 32) e_X8_isOf_32 ?_
      refine V_goto (pc := 33) e_X8_isOf_33 (by decide) ?_
      refine V_ret (pc := 37) (v := some (zI _)) ⟨e_X8_isOf_37, _, rfl, by decide⟩ ?_
      first | exact k1 (by omega) | exact k0 (by omega)
