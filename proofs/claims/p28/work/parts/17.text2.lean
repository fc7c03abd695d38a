/-! the model's texts, jobs of them -/
theorem dgv_rg {tx : Int → Int} {s : Int} : ∀ n : Nat, (∀ i : Int, 0 ≤ i → i < (n : Int) → 48 ≤ tx (s + i) ∧ tx (s + i) ≤ 57) → n ≤ 3 → 0 ≤ dgv tx s n ∧ dgv tx s n ≤ 999 ∧ (n ≤ 2 → dgv tx s n ≤ 99) ∧ (n ≤ 1 → dgv tx s n ≤ 9) ∧ (n = 0 → dgv tx s n = 0)
  | 0, _, _ => by unfold dgv; omega
  | n + 1, h, hn => by
    have a := dgv_rg n (fun i x y => h i x (by omega)) (by omega)
    have b := h (n : Int) (by omega) (by omega)
    unfold dgv
    omega
theorem dgc_dig {tx : Int → Int} {ln s : Int} : ∀ i : Int, 0 ≤ i → i < dgc tx ln s → dig tx ln (s + i) := by
  intro i h0 h1
  unfold dgc at h1
  split at h1
  · next a =>
    split at h1
    · next b =>
      split at h1
      · next c =>
        rcases (show i = 0 ∨ i = 1 ∨ i = 2 by omega) with rfl | rfl | rfl
        · rw [Int.add_zero]; exact a
        · exact b
        · exact c
      · rcases (show i = 0 ∨ i = 1 by omega) with rfl | rfl
        · rw [Int.add_zero]; exact a
        · exact b
    · rcases (show i = 0 by omega) with rfl
      rw [Int.add_zero]; exact a
  · omega
/-- a number of digits: its value -/
def dgN (tx : Int → Int) (ln s : Int) : Int := dgv tx s (dgc tx ln s).toNat
theorem dgN_rg {tx : Int → Int} {ln s : Int} : 0 ≤ dgN tx ln s ∧ dgN tx ln s ≤ 999 := by
  have r := dgc_rg tx ln s
  have h := dgv_rg (tx := tx) (s := s) (dgc tx ln s).toNat (fun i a b => (dgc_dig (ln := ln) i a (by omega)).2) (by omega)
  exact ⟨h.1, h.2.1⟩
theorem L_X8_takesNumber {σ : Sto} {now text read : Int → Int} {P : PT} {len spot fat fwy many : Int} {Q : Option Value → Sto → Prop} {w c : Int} (hl : 0 ≤ len ∧ len ≤ 100) (hs : 0 ≤ spot ∧ spot ≤ len) (ht : ∀ k : Int, 0 ≤ k → k < len → 32 ≤ text k ∧ text k ≤ 126) (k : ∀ d : Int, d = dgc text len spot → V M_X8_takesNumber 150 81 [(0, .ref 144), (1, zI w), (2, zI c), (3, zI spot), (4, zI (dgv text spot d.toNat))] [] 150 (mst σ now P (text, read, len, (spot + d), fat, fwy, many)) Q) : ∀ n : Nat, n ≤ 3 → (∀ i : Int, 0 ≤ i → i < (n : Int) → dig text len (spot + i)) → V M_X8_takesNumber 150 8 [(0, .ref 144), (1, zI w), (2, zI c), (3, zI spot), (4, zI (dgv text spot n))] [] 150 (mst σ now P (text, read, len, (spot + (n : Int)), fat, fwy, many)) Q := by
  refine loop_nat (3) (fun n hn ih => ?_)
  intro hv
  have hsp : spot + (n : Int) ≤ len := by
    by_cases y : n = 0
    · omega
    · have := (hv ((n : Int) - 1) (by omega) (by omega)).1; omega
  refine V_aload_n (pc := 8) e_X8_takesNumber_8 rfl (Or.inl ⟨_, rfl⟩) ?_
  refine Vm_spot (pc := 9) fx_8_169 e_X8_takesNumber_9 ?_
  refine V_aload_n (pc := 12) e_X8_takesNumber_12 rfl (Or.inl ⟨_, rfl⟩) ?_
  refine Vm_length (pc := 13) fx_8_166 e_X8_takesNumber_13 ?_
  refine V_icmp_ge (pc := 16) e_X8_takesNumber_16 (by decide) (by omega) (by omega) (fun h16 => ?_) (fun h16 => ?_)
  · have e : dgc text len spot = (n : Int) := dgc_at hn hv (by
      first
        | exact Or.inl (by omega)
        | exact Or.inr (fun z => absurd z.1 (by omega))
        | exact Or.inr (fun z => absurd z.2 h_in))
    exact V_lq [(0, .ref 144), (1, zI w), (2, zI c), (3, zI spot), (4, zI (dgv text spot (n : Int).toNat))] ⟨⟨_, rfl, rfl⟩, ⟨_, rfl, rfl⟩, ⟨_, rfl, rfl⟩, ⟨_, rfl, rfl⟩, ⟨_, rfl, congrArg (fun e : Int => zI e) (by rw [show ((n : Int)).toNat = n by omega])⟩, trivial⟩ (k (n : Int) e.symm)
  · have hc := ht (spot + (n : Int)) (by omega) (by omega)
    have vr := dgv_rg (tx := text) (s := spot) n (fun i a b => (hv i a b).2) (by omega)
    refine V_aload_n (pc := 19) e_X8_takesNumber_19 rfl (Or.inl ⟨_, rfl⟩) ?_
    refine V_getR (pc := 20) (q := 5) (j := 148) fx_8_23 e_X8_takesNumber_20 rfl rfl (by decide) rfl rfl ?_
    refine V_aload_n (pc := 23) e_X8_takesNumber_23 rfl (Or.inl ⟨_, rfl⟩) ?_
    refine Vm_spot (pc := 24) fx_8_169 e_X8_takesNumber_24 ?_
    refine Vm_text (pc := 27) e_X8_takesNumber_27 (by omega) ?_
    refine V_bipush (pc := 28) (by decide) e_X8_takesNumber_28 ?_
    refine V_bipush (pc := 30) (by decide) e_X8_takesNumber_30 ?_
    refine V_cS3 (pc := 32) ca_8_32 e_X8_takesNumber_32 (by decide) (Nat.le_of_ble_eq_true rfl) (c_X8_in (by omega) (by omega) (by omega) (fun h_in => ?_) (fun h_in => ?_))
    · refine V_if_eq (pc := 35) e_X8_takesNumber_35 (by decide) (by decide) (fun h => absurd h (by decide)) (fun _ => ?_)
      refine V_aload_n (pc := 38) e_X8_takesNumber_38 rfl (Or.inl ⟨_, rfl⟩) ?_
      refine Vm_spot (pc := 39) fx_8_169 e_X8_takesNumber_39 ?_
      refine V_iload_n (pc := 42) e_X8_takesNumber_42 rfl ?_
      refine V_iconst (pc := 43) e_X8_takesNumber_43 ?_
      refine V_iadd (pc := 44) e_X8_takesNumber_44 ?_
      refine V_icmp_ge (pc := 45) e_X8_takesNumber_45 (by decide) (by omega) (by omega) (fun h45 => ?_) (fun h45 => ?_)
      · have e : dgc text len spot = (n : Int) := dgc_at hn hv (by
          first
            | exact Or.inl (by omega)
            | exact Or.inr (fun z => absurd z.1 (by omega))
            | exact Or.inr (fun z => absurd z.2 h_in))
        exact V_lq [(0, .ref 144), (1, zI w), (2, zI c), (3, zI spot), (4, zI (dgv text spot (n : Int).toNat))] ⟨⟨_, rfl, rfl⟩, ⟨_, rfl, rfl⟩, ⟨_, rfl, rfl⟩, ⟨_, rfl, rfl⟩, ⟨_, rfl, congrArg (fun e : Int => zI e) (by rw [show ((n : Int)).toNat = n by omega])⟩, trivial⟩ (k (n : Int) e.symm)
      · refine V_bipush (pc := 48) (by decide) e_X8_takesNumber_48 ?_
        refine V_iload (pc := 50) e_X8_takesNumber_50 rfl ?_
        refine V_imul (pc := 52) e_X8_takesNumber_52 ?_
        refine V_aload_n (pc := 53) e_X8_takesNumber_53 rfl (Or.inl ⟨_, rfl⟩) ?_
        refine V_getR (pc := 54) (q := 5) (j := 148) fx_8_23 e_X8_takesNumber_54 rfl rfl (by decide) rfl rfl ?_
        refine V_aload_n (pc := 57) e_X8_takesNumber_57 rfl (Or.inl ⟨_, rfl⟩) ?_
        refine Vm_spot (pc := 58) fx_8_169 e_X8_takesNumber_58 ?_
        refine Vm_text (pc := 61) e_X8_takesNumber_61 (by omega) ?_
        refine V_iadd (pc := 62) e_X8_takesNumber_62 ?_
        refine V_bipush (pc := 63) (by decide) e_X8_takesNumber_63 ?_
        refine V_isub (pc := 65) e_X8_takesNumber_65 ?_
        refine V_istore (pc := 66) e_X8_takesNumber_66 (by decide) ?_
        refine V_aload_n (pc := 68) e_X8_takesNumber_68 rfl (Or.inl ⟨_, rfl⟩) ?_
        refine V_dup (pc := 69) e_X8_takesNumber_69 rfl ?_
        refine Vm_spot (pc := 70) fx_8_169 e_X8_takesNumber_70 ?_
        refine V_iconst (pc := 73) e_X8_takesNumber_73 ?_
        refine V_iadd (pc := 74) e_X8_takesNumber_74 ?_
        refine Vm_pspot (pc := 75) fx_8_169 e_X8_takesNumber_75 ?_
        refine V_goto (pc := 78) e_X8_takesNumber_78 (by decide) ?_
        refine V_sq (σ' := (mst σ now P (text, read, len, (spot + ((n + 1 : Nat) : Int)), fat, fwy, many))) (by rw [show spot + ((n + 1 : Nat) : Int) = spot + (n : Int) + 1 by omega]) ?_
        exact V_lq [(0, .ref 144), (1, zI w), (2, zI c), (3, zI spot), (4, zI (dgv text spot (n + 1)))] ⟨⟨_, rfl, rfl⟩, ⟨_, rfl, rfl⟩, ⟨_, rfl, rfl⟩, ⟨_, rfl, rfl⟩, ⟨_, rfl, rfl⟩, trivial⟩ (ih (by omega) (fun i a b => by
          by_cases y : i = (n : Int)
          · rw [y]; exact ⟨by omega, h_in⟩
          · exact hv i a (by omega)))
    · refine V_if_eq (pc := 35) e_X8_takesNumber_35 (by decide) (by decide) (fun _ => ?_) (fun h => absurd (by decide) h)
      have e : dgc text len spot = (n : Int) := dgc_at hn hv (by
        first
          | exact Or.inl (by omega)
          | exact Or.inr (fun z => absurd z.1 (by omega))
          | exact Or.inr (fun z => absurd z.2 h_in))
      exact V_lq [(0, .ref 144), (1, zI w), (2, zI c), (3, zI spot), (4, zI (dgv text spot (n : Int).toNat))] ⟨⟨_, rfl, rfl⟩, ⟨_, rfl, rfl⟩, ⟨_, rfl, rfl⟩, ⟨_, rfl, rfl⟩, ⟨_, rfl, congrArg (fun e : Int => zI e) (by rw [show ((n : Int)).toNat = n by omega])⟩, trivial⟩ (k (n : Int) e.symm)
theorem T_X8_takesNumber {σ : Sto} {now text read : Int → Int} {P : PT} {len spot fat fwy many : Int} {Q : Option Value → Sto → Prop} {w c : Int} (hl : 0 ≤ len ∧ len ≤ 100) (hs : 0 ≤ spot ∧ spot ≤ len) (ht : ∀ k : Int, 0 ≤ k → k < len → 32 ≤ text k ∧ text k ≤ 126) (hw : 0 ≤ w ∧ w < 5) (r_c : 0 ≤ c ∧ c < 65536) (k1 : (0 < dgc text len spot ∧ spot + dgc text len spot < len ∧ text (spot + dgc text len spot) = c) → Q (some (zI 1)) (mst σ now P (text, (up1 read w (dgN text len spot)), len, (spot + dgc text len spot + 1), fat, fwy, many))) (k0 : ¬ (0 < dgc text len spot ∧ spot + dgc text len spot < len ∧ text (spot + dgc text len spot) = c) → ∀ s, Q (some (zI 0)) (mst σ now P (text, (up1 read w (dgN text len spot)), len, s, fat, fwy, many))) : ∀ d : Int, d = dgc text len spot → V M_X8_takesNumber 150 81 [(0, .ref 144), (1, zI w), (2, zI c), (3, zI spot), (4, zI (dgv text spot d.toNat))] [] 150 (mst σ now P (text, read, len, (spot + d), fat, fwy, many)) Q := by
  intro d hd
  subst hd
  have r := dgc_rg text len spot
  refine V_aload_n (pc := 81) e_X8_takesNumber_81 rfl (Or.inl ⟨_, rfl⟩) ?_
  refine V_getR (pc := 82) (q := 8) (j := 149) fx_8_26 e_X8_takesNumber_82 rfl rfl (by decide) rfl rfl ?_
  refine V_iload_n (pc := 85) e_X8_takesNumber_85 rfl ?_
  refine V_iload (pc := 86) e_X8_takesNumber_86 rfl ?_
  refine Vm_readS (pc := 88) e_X8_takesNumber_88 (by omega) ?_
  refine V_aload_n (pc := 89) e_X8_takesNumber_89 rfl (Or.inl ⟨_, rfl⟩) ?_
  refine Vm_spot (pc := 90) fx_8_169 e_X8_takesNumber_90 ?_
  refine V_iload_n (pc := 93) e_X8_takesNumber_93 rfl ?_
  refine V_icmp_le (pc := 94) e_X8_takesNumber_94 (by decide) (by omega) (by omega) (fun h94 => ?_) (fun h94 => ?_)
  · refine V_iconst (pc := 109) e_X8_takesNumber_109 ?_
    refine V_ret (pc := 110) (v := some (zI _)) ⟨e_X8_takesNumber_110, _, rfl, by decide⟩ ?_
    first | exact k1 (by omega) | exact k0 (by omega) _
  · refine V_aload_n (pc := 97) e_X8_takesNumber_97 rfl (Or.inl ⟨_, rfl⟩) ?_
    refine V_iload_n (pc := 98) e_X8_takesNumber_98 rfl ?_
    refine V_cV1 (pc := 99) ca_8_175 e_X8_takesNumber_99 (by decide) (Nat.le_of_ble_eq_true rfl) (by decide) rfl (by decide) (c_X8_takes hl (by omega) ht (by omega) (fun h_tk => ?_) (fun h_tk => ?_))
    · refine V_if_eq (pc := 102) e_X8_takesNumber_102 (by decide) (by decide) (fun h => absurd h (by decide)) (fun _ => ?_)
      refine V_iconst (pc := 105) e_X8_takesNumber_105 ?_
      refine V_goto (pc := 106) e_X8_takesNumber_106 (by decide) ?_
      refine V_ret (pc := 110) (v := some (zI _)) ⟨e_X8_takesNumber_110, _, rfl, by decide⟩ ?_
      first | exact k1 (by omega) | exact k0 (by omega) _
    · refine V_if_eq (pc := 102) e_X8_takesNumber_102 (by decide) (by decide) (fun _ => ?_) (fun h => absurd (by decide) h)
      refine V_iconst (pc := 109) e_X8_takesNumber_109 ?_
      refine V_ret (pc := 110) (v := some (zI _)) ⟨e_X8_takesNumber_110, _, rfl, by decide⟩ ?_
      first | exact k1 (by omega) | exact k0 (by omega) _
theorem c_X8_takesNumber {σ : Sto} {now text read : Int → Int} {P : PT} {len spot fat fwy many : Int} {Q : Option Value → Sto → Prop} {w c : Int} (hl : 0 ≤ len ∧ len ≤ 100) (hs : 0 ≤ spot ∧ spot ≤ len) (ht : ∀ k : Int, 0 ≤ k → k < len → 32 ≤ text k ∧ text k ≤ 126) (hw : 0 ≤ w ∧ w < 5) (r_c : 0 ≤ c ∧ c < 65536) (k1 : (0 < dgc text len spot ∧ spot + dgc text len spot < len ∧ text (spot + dgc text len spot) = c) → Q (some (zI 1)) (mst σ now P (text, (up1 read w (dgN text len spot)), len, (spot + dgc text len spot + 1), fat, fwy, many))) (k0 : ¬ (0 < dgc text len spot ∧ spot + dgc text len spot < len ∧ text (spot + dgc text len spot) = c) → ∀ s, Q (some (zI 0)) (mst σ now P (text, (up1 read w (dgN text len spot)), len, s, fat, fwy, many))) : Con M_X8_takesNumber 150 150 (mst σ now P (text, read, len, spot, fat, fwy, many)) [.ref 144, zI w, zI c] Q := by
  refine V_entry ok_X8_takesNumber (Nat.le_refl _) (Nat.le_of_ble_eq_true rfl) (V_ls [(0, .ref 144), (1, zI w), (2, zI c)] ⟨rfl, rfl, rfl, trivial⟩ ?_)
  refine V_aload_n (pc := 0) e_X8_takesNumber_0 rfl (Or.inl ⟨_, rfl⟩) ?_
  refine Vm_spot (pc := 1) fx_8_169 e_X8_takesNumber_1 ?_
  refine V_istore_n (pc := 4) e_X8_takesNumber_4 (by decide) ?_
  refine V_iconst (pc := 5) e_X8_takesNumber_5 ?_
  refine V_istore (pc := 6) e_X8_takesNumber_6 (by decide) ?_
  refine V_sq (σ' := (mst σ now P (text, read, len, (spot + ((0 : Nat) : Int)), fat, fwy, many))) (by rw [show spot + ((0 : Nat) : Int) = spot by omega]) ?_
  exact V_lq [(0, .ref 144), (1, zI w), (2, zI c), (3, zI spot), (4, zI (dgv text spot 0))] ⟨⟨_, rfl, rfl⟩, ⟨_, rfl, rfl⟩, ⟨_, rfl, rfl⟩, ⟨_, rfl, rfl⟩, ⟨_, rfl, rfl⟩, trivial⟩ (L_X8_takesNumber hl hs ht (T_X8_takesNumber hl hs ht hw r_c k1 k0) 0 (by omega) (fun i a b => absurd b (by omega)))
theorem c_X8_takesOption {σ : Sto} {now text read : Int → Int} {P : PT} {len spot fat fwy many : Int} {Q : Option Value → Sto → Prop} {w : Int} (hl : 0 ≤ len ∧ len ≤ 100) (hs : 0 ≤ spot ∧ spot ≤ len) (ht : ∀ k : Int, 0 ≤ k → k < len → 32 ≤ text k ∧ text k ≤ 126) (hw : 0 ≤ w ∧ w < 9) (k1 : ((spot < len ∧ text spot = 32) ∧ wm text len (spot + 1) w) → Q (some (zI 1)) (mst σ now P (text, read, len, (spot + 1 + wle w), fat, fwy, many))) (k0 : ¬ ((spot < len ∧ text spot = 32) ∧ wm text len (spot + 1) w) → Q (some (zI 0)) (mst σ now P (text, read, len, spot, fat, fwy, many))) : Con M_X8_takesOption 150 150 (mst σ now P (text, read, len, spot, fat, fwy, many)) [.ref 144, zI w] Q := by
  refine V_entry ok_X8_takesOption (Nat.le_refl _) (Nat.le_of_ble_eq_true rfl) (V_ls [(0, .ref 144), (1, zI w)] ⟨rfl, rfl, trivial⟩ ?_)
  refine V_aload_n (pc := 0) e_X8_takesOption_0 rfl (Or.inl ⟨_, rfl⟩) ?_
  refine Vm_spot (pc := 1) fx_8_169 e_X8_takesOption_1 ?_
  refine V_istore_n (pc := 4) e_X8_takesOption_4 (by decide) ?_
  refine V_aload_n (pc := 5) e_X8_takesOption_5 rfl (Or.inl ⟨_, rfl⟩) ?_
  refine V_bipush (pc := 6) (by decide) e_X8_takesOption_6 ?_
  refine V_cV1 (pc := 8) ca_8_175 e_X8_takesOption_8 (by decide) (Nat.le_of_ble_eq_true rfl) (by decide) rfl (by decide) (c_X8_takes hl (by omega) ht (by omega) (fun h_tk => ?_) (fun h_tk => ?_))
  · refine V_if_eq (pc := 11) e_X8_takesOption_11 (by decide) (by decide) (fun h => absurd h (by decide)) (fun _ => ?_)
    refine V_aload_n (pc := 14) e_X8_takesOption_14 rfl (Or.inl ⟨_, rfl⟩) ?_
    refine V_iload_n (pc := 15) e_X8_takesOption_15 rfl ?_
    refine V_cV1 (pc := 16) ca_8_201 e_X8_takesOption_16 (by decide) (Nat.le_of_ble_eq_true rfl) (by decide) rfl (by decide) (c_X8_takesWord hl (by omega) ht (by omega) (fun h_wd => ?_) (fun h_wd => ?_))
    · refine V_if_eq (pc := 19) e_X8_takesOption_19 (by decide) (by decide) (fun h => absurd h (by decide)) (fun _ => ?_)
      refine V_iconst (pc := 22) e_X8_takesOption_22 ?_
      refine V_goto (pc := 23) e_X8_takesOption_23 (by decide) ?_
      refine V_istore_n (pc := 27) e_X8_takesOption_27 (by decide) ?_
      refine V_aload_n (pc := 28) e_X8_takesOption_28 rfl (Or.inl ⟨_, rfl⟩) ?_
      refine V_iload_n (pc := 29) e_X8_takesOption_29 rfl ?_
      refine V_if_eq (pc := 30) e_X8_takesOption_30 (by decide) (by decide) (fun h => absurd h (by decide)) (fun _ => ?_)
      refine V_aload_n (pc := 33) e_X8_takesOption_33 rfl (Or.inl ⟨_, rfl⟩) ?_
      refine Vm_spot (pc := 34) fx_8_169 e_X8_takesOption_34 ?_
      refine V_goto (pc := 37) e_X8_takesOption_37 (by decide) ?_
      refine Vm_pspot (pc := 41) fx_8_169 e_X8_takesOption_41 ?_
      refine V_iload_n (pc := 44) e_X8_takesOption_44 rfl ?_
      refine V_ret (pc := 45) (v := some (zI _)) ⟨e_X8_takesOption_45, _, rfl, by decide⟩ ?_
      first | exact k1 ⟨h_tk, h_wd⟩ | exact k0 (fun z => absurd z.1 h_tk) | exact k0 (fun z => absurd z.2 h_wd)
    · refine V_if_eq (pc := 19) e_X8_takesOption_19 (by decide) (by decide) (fun _ => ?_) (fun h => absurd (by decide) h)
      refine V_iconst (pc := 26) e_X8_takesOption_26 ?_
      refine V_istore_n (pc := 27) e_X8_takesOption_27 (by decide) ?_
      refine V_aload_n (pc := 28) e_X8_takesOption_28 rfl (Or.inl ⟨_, rfl⟩) ?_
      refine V_iload_n (pc := 29) e_X8_takesOption_29 rfl ?_
      refine V_if_eq (pc := 30) e_X8_takesOption_30 (by decide) (by decide) (fun _ => ?_) (fun h => absurd (by decide) h)
      refine V_iload_n (pc := 40) e_X8_takesOption_40 rfl ?_
      refine Vm_pspot (pc := 41) fx_8_169 e_X8_takesOption_41 ?_
      refine V_iload_n (pc := 44) e_X8_takesOption_44 rfl ?_
      refine V_ret (pc := 45) (v := some (zI _)) ⟨e_X8_takesOption_45, _, rfl, by decide⟩ ?_
      first | exact k1 ⟨h_tk, h_wd⟩ | exact k0 (fun z => absurd z.1 h_tk) | exact k0 (fun z => absurd z.2 h_wd)
  · refine V_if_eq (pc := 11) e_X8_takesOption_11 (by decide) (by decide) (fun _ => ?_) (fun h => absurd (by decide) h)
    refine V_iconst (pc := 26) e_X8_takesOption_26 ?_
    refine V_istore_n (pc := 27) e_X8_takesOption_27 (by decide) ?_
    refine V_aload_n (pc := 28) e_X8_takesOption_28 rfl (Or.inl ⟨_, rfl⟩) ?_
    refine V_iload_n (pc := 29) e_X8_takesOption_29 rfl ?_
    refine V_if_eq (pc := 30) e_X8_takesOption_30 (by decide) (by decide) (fun _ => ?_) (fun h => absurd (by decide) h)
    refine V_iload_n (pc := 40) e_X8_takesOption_40 rfl ?_
    refine Vm_pspot (pc := 41) fx_8_169 e_X8_takesOption_41 ?_
    refine V_iload_n (pc := 44) e_X8_takesOption_44 rfl ?_
    refine V_ret (pc := 45) (v := some (zI _)) ⟨e_X8_takesOption_45, _, rfl, by decide⟩ ?_
    first | exact k1 ⟨h_tk, h_wd⟩ | exact k0 (fun z => absurd z.1 h_tk) | exact k0 (fun z => absurd z.2 h_wd)
theorem wm_len {tx : Int → Int} {ln s w : Int} (hw : 0 ≤ w ∧ w < 9) (h : wm tx ln s w) : 1 ≤ wle w ∧ wle w ≤ 7 ∧ s + wle w ≤ ln := by
  have a := (lt_in w 0 hw.1 hw.2 (by decide) (by decide)).2.2
  have b := (h (wle w - 1) (by omega) (by omega)).1
  omega
theorem wle_4 : wle 4 = 6 := by decide +kernel
theorem wle_3 : wle 3 = 1 := by decide +kernel
/-- the sizes: A5, A4, A3 or letter -/
def szO (tx : Int → Int) (ln s : Int) : Prop := wm tx ln s 4 ∨ (¬ wm tx ln s 4 ∧ wm tx ln s 3 ∧ s + 1 < ln ∧ 51 ≤ tx (s + 1) ∧ tx (s + 1) ≤ 53)
noncomputable def szV (tx : Int → Int) (ln s : Int) : Int := by classical exact if wm tx ln s 4 then 3 else 53 - tx (s + 1)
noncomputable def szE (tx : Int → Int) (ln s : Int) : Int := by classical exact if wm tx ln s 4 then s + wle 4 else s + wle 3 + 1
theorem c_X8_takesSize {σ : Sto} {now text read : Int → Int} {P : PT} {len spot fat fwy many : Int} {Q : Option Value → Sto → Prop} (hl : 0 ≤ len ∧ len ≤ 100) (hs : 0 ≤ spot ∧ spot ≤ len) (ht : ∀ k : Int, 0 ≤ k → k < len → 32 ≤ text k ∧ text k ≤ 126) (k1 : szO text len spot → Q (some (zI 1)) (mst σ now P (text, (up1 read 2 (szV text len spot)), len, (szE text len spot), fat, fwy, many))) (k0 : ¬ szO text len spot → ∀ s, Q (some (zI 0)) (mst σ now P (text, read, len, s, fat, fwy, many))) : Con M_X8_takesSize 150 150 (mst σ now P (text, read, len, spot, fat, fwy, many)) [.ref 144] Q := by
  refine V_entry ok_X8_takesSize (Nat.le_refl _) (Nat.le_of_ble_eq_true rfl) (V_ls [(0, .ref 144)] ⟨rfl, trivial⟩ ?_)
  refine V_aload_n (pc := 0) e_X8_takesSize_0 rfl (Or.inl ⟨_, rfl⟩) ?_
  refine V_iconst (pc := 1) e_X8_takesSize_1 ?_
  refine V_cV1 (pc := 2) ca_8_201 e_X8_takesSize_2 (by decide) (Nat.le_of_ble_eq_true rfl) (by decide) rfl (by decide) (c_X8_takesWord hl (by omega) ht (by omega) (fun h_wd => ?_) (fun h_wd => ?_))
  · refine V_if_eq (pc := 5) e_X8_takesSize_5 (by decide) (by decide) (fun h => absurd h (by decide)) (fun _ => ?_)
    refine V_aload_n (pc := 8) e_X8_takesSize_8 rfl (Or.inl ⟨_, rfl⟩) ?_
    refine V_getR (pc := 9) (q := 8) (j := 149) fx_8_26 e_X8_takesSize_9 rfl rfl (by decide) rfl rfl ?_
    refine V_iconst (pc := 12) e_X8_takesSize_12 ?_
    refine V_iconst (pc := 13) e_X8_takesSize_13 ?_
    refine Vm_readS (pc := 14) e_X8_takesSize_14 (by decide) ?_
    refine V_iconst (pc := 15) e_X8_takesSize_15 ?_
    refine V_ret (pc := 16) (v := some (zI _)) ⟨e_X8_takesSize_16, _, rfl, by decide⟩ ?_
    exact Qv (k1 (Or.inl h_wd)) rfl (by unfold szV szE; rw [if_pos h_wd, if_pos h_wd])
  · refine V_if_eq (pc := 5) e_X8_takesSize_5 (by decide) (by decide) (fun _ => ?_) (fun h => absurd (by decide) h)
    refine V_aload_n (pc := 17) e_X8_takesSize_17 rfl (Or.inl ⟨_, rfl⟩) ?_
    refine V_iconst (pc := 18) e_X8_takesSize_18 ?_
    refine V_cV1 (pc := 19) ca_8_201 e_X8_takesSize_19 (by decide) (Nat.le_of_ble_eq_true rfl) (by decide) rfl (by decide) (c_X8_takesWord hl (by omega) ht (by omega) (fun h_wd => ?_) (fun h_wd => ?_))
    · refine V_if_eq (pc := 22) e_X8_takesSize_22 (by decide) (by decide) (fun h => absurd h (by decide)) (fun _ => ?_)
      have w3 := wm_len (by decide) h_wd
      have e3 := wle_3
      refine V_aload_n (pc := 25) e_X8_takesSize_25 rfl (Or.inl ⟨_, rfl⟩) ?_
      refine Vm_spot (pc := 26) fx_8_169 e_X8_takesSize_26 ?_
      refine V_aload_n (pc := 29) e_X8_takesSize_29 rfl (Or.inl ⟨_, rfl⟩) ?_
      refine Vm_length (pc := 30) fx_8_166 e_X8_takesSize_30 ?_
      refine V_icmp_eq (pc := 33) e_X8_takesSize_33 (by decide) (by omega) (by omega) (fun h33 => ?_) (fun h33 => ?_)
      · refine V_iconst (pc := 55) e_X8_takesSize_55 ?_
        refine V_ret (pc := 56) (v := some (zI _)) ⟨e_X8_takesSize_56, _, rfl, by decide⟩ ?_
        refine k0 (fun z => ?_) _
        rcases z with z | z
        · first | exact absurd z ‹¬ wm text len spot 4›
        · first
            | exact absurd z.2.1 h_wd
            | (have e3 := wle_3; have := z.2.2.1; omega)
            | (have e3 := wle_3; have y := z.2.2.2; rw [show spot + 1 = spot + wle 3 by omega] at y; exact absurd y h_in)
      · have hc := ht (spot + wle 3) (by omega) (by omega)
        refine V_aload_n (pc := 36) e_X8_takesSize_36 rfl (Or.inl ⟨_, rfl⟩) ?_
        refine V_getR (pc := 37) (q := 5) (j := 148) fx_8_23 e_X8_takesSize_37 rfl rfl (by decide) rfl rfl ?_
        refine V_aload_n (pc := 40) e_X8_takesSize_40 rfl (Or.inl ⟨_, rfl⟩) ?_
        refine Vm_spot (pc := 41) fx_8_169 e_X8_takesSize_41 ?_
        refine Vm_text (pc := 44) e_X8_takesSize_44 (by omega) ?_
        refine V_bipush (pc := 45) (by decide) e_X8_takesSize_45 ?_
        refine V_bipush (pc := 47) (by decide) e_X8_takesSize_47 ?_
        refine V_cS3 (pc := 49) ca_8_32 e_X8_takesSize_49 (by decide) (Nat.le_of_ble_eq_true rfl) (c_X8_in (by omega) (by omega) (by omega) (fun h_in => ?_) (fun h_in => ?_))
        · refine V_if_ne (pc := 52) e_X8_takesSize_52 (by decide) (by decide) (fun _ => ?_) (fun h => absurd h (by decide))
          refine V_aload_n (pc := 57) e_X8_takesSize_57 rfl (Or.inl ⟨_, rfl⟩) ?_
          refine V_getR (pc := 58) (q := 8) (j := 149) fx_8_26 e_X8_takesSize_58 rfl rfl (by decide) rfl rfl ?_
          refine V_iconst (pc := 61) e_X8_takesSize_61 ?_
          refine V_bipush (pc := 62) (by decide) e_X8_takesSize_62 ?_
          refine V_aload_n (pc := 64) e_X8_takesSize_64 rfl (Or.inl ⟨_, rfl⟩) ?_
          refine V_getR (pc := 65) (q := 5) (j := 148) fx_8_23 e_X8_takesSize_65 rfl rfl (by decide) rfl rfl ?_
          refine V_aload_n (pc := 68) e_X8_takesSize_68 rfl (Or.inl ⟨_, rfl⟩) ?_
          refine Vm_spot (pc := 69) fx_8_169 e_X8_takesSize_69 ?_
          refine Vm_text (pc := 72) e_X8_takesSize_72 (by omega) ?_
          refine V_isub (pc := 73) e_X8_takesSize_73 ?_
          refine Vm_readS (pc := 74) e_X8_takesSize_74 (by decide) ?_
          refine V_aload_n (pc := 75) e_X8_takesSize_75 rfl (Or.inl ⟨_, rfl⟩) ?_
          refine V_dup (pc := 76) e_X8_takesSize_76 rfl ?_
          refine Vm_spot (pc := 77) fx_8_169 e_X8_takesSize_77 ?_
          refine V_iconst (pc := 80) e_X8_takesSize_80 ?_
          refine V_iadd (pc := 81) e_X8_takesSize_81 ?_
          refine Vm_pspot (pc := 82) fx_8_169 e_X8_takesSize_82 ?_
          refine V_iconst (pc := 85) e_X8_takesSize_85 ?_
          refine V_ret (pc := 86) (v := some (zI _)) ⟨e_X8_takesSize_86, _, rfl, by decide⟩ ?_
          have n4 : ¬ wm text len spot 4 := by assumption
          have y := h_in
          rw [e3] at y
          exact Qv (k1 (Or.inr ⟨n4, h_wd, by omega, y⟩)) rfl (by unfold szV szE; rw [if_neg n4, if_neg n4, e3])
        · refine V_if_ne (pc := 52) e_X8_takesSize_52 (by decide) (by decide) (fun h => absurd (by decide) h) (fun _ => ?_)
          refine V_iconst (pc := 55) e_X8_takesSize_55 ?_
          refine V_ret (pc := 56) (v := some (zI _)) ⟨e_X8_takesSize_56, _, rfl, by decide⟩ ?_
          refine k0 (fun z => ?_) _
          rcases z with z | z
          · first | exact absurd z ‹¬ wm text len spot 4›
          · first
              | exact absurd z.2.1 h_wd
              | (have e3 := wle_3; have := z.2.2.1; omega)
              | (have e3 := wle_3; have y := z.2.2.2; rw [show spot + 1 = spot + wle 3 by omega] at y; exact absurd y h_in)
    · refine V_if_eq (pc := 22) e_X8_takesSize_22 (by decide) (by decide) (fun _ => ?_) (fun h => absurd (by decide) h)
      refine V_iconst (pc := 55) e_X8_takesSize_55 ?_
      refine V_ret (pc := 56) (v := some (zI _)) ⟨e_X8_takesSize_56, _, rfl, by decide⟩ ?_
      refine k0 (fun z => ?_) _
      rcases z with z | z
      · first | exact absurd z ‹¬ wm text len spot 4›
      · first
          | exact absurd z.2.1 h_wd
          | (have e3 := wle_3; have := z.2.2.1; omega)
          | (have e3 := wle_3; have y := z.2.2.2; rw [show spot + 1 = spot + wle 3 by omega] at y; exact absurd y h_in)
/-- the kind at s; none below 0 -/
noncomputable def knd (tx : Int → Int) (ln s : Int) : Int := by classical exact if wm tx ln s 5 then 0 else if wm tx ln s 6 then 1 else if wm tx ln s 7 then 2 else if wm tx ln s 8 then 3 else -1
theorem knd_at {tx : Int → Int} {ln s i : Int} (h0 : 0 ≤ i) (h1 : i < 4) (h : wm tx ln s (5 + i)) (hn : ∀ j : Int, 0 ≤ j → j < i → ¬ wm tx ln s (5 + j)) : knd tx ln s = i := by
  have a0 : 0 < i → ¬ wm tx ln s 5 := fun z => hn 0 (by decide) z
  have a1 : 1 < i → ¬ wm tx ln s 6 := fun z => hn 1 (by decide) z
  have a2 : 2 < i → ¬ wm tx ln s 7 := fun z => hn 2 (by decide) z
  unfold knd
  rcases (show i = 0 ∨ i = 1 ∨ i = 2 ∨ i = 3 by omega) with rfl | rfl | rfl | rfl
  · exact if_pos h
  · rw [if_neg (a0 (by decide))]; exact if_pos h
  · rw [if_neg (a0 (by decide)), if_neg (a1 (by decide))]; exact if_pos h
  · rw [if_neg (a0 (by decide)), if_neg (a1 (by decide)), if_neg (a2 (by decide))]; exact if_pos h
theorem knd_no {tx : Int → Int} {ln s : Int} (hn : ∀ j : Int, 0 ≤ j → j < 4 → ¬ wm tx ln s (5 + j)) : knd tx ln s = -1 := by
  have a0 : ¬ wm tx ln s 5 := hn 0 (by decide) (by decide)
  have a1 : ¬ wm tx ln s 6 := hn 1 (by decide) (by decide)
  have a2 : ¬ wm tx ln s 7 := hn 2 (by decide) (by decide)
  have a3 : ¬ wm tx ln s 8 := hn 3 (by decide) (by decide)
  unfold knd
  rw [if_neg a0, if_neg a1, if_neg a2, if_neg a3]
theorem knd_sp {tx : Int → Int} {ln s : Int} (h : 0 ≤ knd tx ln s) : knd tx ln s < 4 ∧ wm tx ln s (5 + knd tx ln s) := by
  unfold knd at h ⊢
  split
  · next a => exact ⟨by decide, a⟩
  · next a =>
    rw [if_neg a] at h
    split
    · next b => exact ⟨by decide, b⟩
    · next b =>
      rw [if_neg b] at h
      split
      · next c => exact ⟨by decide, c⟩
      · next c =>
        rw [if_neg c] at h
        split
        · next d => exact ⟨by decide, d⟩
        · next d => rw [if_neg d] at h; exact absurd h (by decide)
theorem L_X8_takesKind {σ : Sto} {now text read : Int → Int} {P : PT} {len spot fat fwy many : Int} {Q : Option Value → Sto → Prop} (hl : 0 ≤ len ∧ len ≤ 100) (hs : 0 ≤ spot ∧ spot ≤ len) (ht : ∀ k : Int, 0 ≤ k → k < len → 32 ≤ text k ∧ text k ≤ 126) (k1 : 0 ≤ knd text len spot → Q (some (zI 1)) (mst σ now P (text, (up1 read 3 (knd text len spot)), len, (spot + wle (5 + knd text len spot)), fat, fwy, many))) (k0 : knd text len spot = -1 → Q (some (zI 0)) (mst σ now P (text, read, len, spot, fat, fwy, many))) : ∀ n : Nat, n ≤ 4 → (∀ j : Int, 0 ≤ j → j < (n : Int) → ¬ wm text len spot (5 + j)) → V M_X8_takesKind 150 2 [(0, .ref 144), (1, zI (n : Int))] [] 150 (mst σ now P (text, read, len, spot, fat, fwy, many)) Q := by
  refine loop_nat (4) (fun n hn ih => ?_)
  intro hv
  refine V_iload_n (pc := 2) e_X8_takesKind_2 rfl ?_
  refine V_iconst (pc := 3) e_X8_takesKind_3 ?_
  refine V_icmp_ge (pc := 4) e_X8_takesKind_4 (by decide) (by omega) (by decide) (fun h4 => ?_) (fun h4 => ?_)
  · refine V_iconst (pc := 32) e_X8_takesKind_32 ?_
    refine V_ret (pc := 33) (v := some (zI _)) ⟨e_X8_takesKind_33, _, rfl, by decide⟩ ?_
    exact k0 (knd_no (fun j a b => hv j a (by omega)))
  · refine V_aload_n (pc := 7) e_X8_takesKind_7 rfl (Or.inl ⟨_, rfl⟩) ?_
    refine V_iconst (pc := 8) e_X8_takesKind_8 ?_
    refine V_iload_n (pc := 9) e_X8_takesKind_9 rfl ?_
    refine V_iadd (pc := 10) e_X8_takesKind_10 ?_
    refine V_cV1 (pc := 11) ca_8_201 e_X8_takesKind_11 (by decide) (Nat.le_of_ble_eq_true rfl) (by decide) rfl (by decide) (c_X8_takesWord hl (by omega) ht (by omega) (fun h_wd => ?_) (fun h_wd => ?_))
    · refine V_if_eq (pc := 14) e_X8_takesKind_14 (by decide) (by decide) (fun h => absurd h (by decide)) (fun _ => ?_)
      refine V_aload_n (pc := 17) e_X8_takesKind_17 rfl (Or.inl ⟨_, rfl⟩) ?_
      refine V_getR (pc := 18) (q := 8) (j := 149) fx_8_26 e_X8_takesKind_18 rfl rfl (by decide) rfl rfl ?_
      refine V_iconst (pc := 21) e_X8_takesKind_21 ?_
      refine V_iload_n (pc := 22) e_X8_takesKind_22 rfl ?_
      refine Vm_readS (pc := 23) e_X8_takesKind_23 (by decide) ?_
      refine V_iconst (pc := 24) e_X8_takesKind_24 ?_
      refine V_ret (pc := 25) (v := some (zI _)) ⟨e_X8_takesKind_25, _, rfl, by decide⟩ ?_
      have e := knd_at (tx := text) (ln := len) (s := spot) (i := (n : Int)) (by omega) (by omega) h_wd hv
      exact Qv (k1 (by omega)) rfl (by rw [e])
    · refine V_if_eq (pc := 14) e_X8_takesKind_14 (by decide) (by decide) (fun _ => ?_) (fun h => absurd (by decide) h)
      refine V_iinc (pc := 26) e_X8_takesKind_26 rfl (by decide) ?_
      refine V_goto (pc := 29) e_X8_takesKind_29 (by decide) ?_
      exact V_lq [(0, .ref 144), (1, zI ((n + 1 : Nat) : Int))] ⟨⟨_, rfl, rfl⟩, ⟨_, rfl, rfl⟩, trivial⟩ (ih (by omega) (fun j a b => by
        by_cases y : j = (n : Int)
        · rw [y]; exact h_wd
        · exact hv j a (by omega)))
theorem c_X8_takesKind {σ : Sto} {now text read : Int → Int} {P : PT} {len spot fat fwy many : Int} {Q : Option Value → Sto → Prop} (hl : 0 ≤ len ∧ len ≤ 100) (hs : 0 ≤ spot ∧ spot ≤ len) (ht : ∀ k : Int, 0 ≤ k → k < len → 32 ≤ text k ∧ text k ≤ 126) (k1 : 0 ≤ knd text len spot → Q (some (zI 1)) (mst σ now P (text, (up1 read 3 (knd text len spot)), len, (spot + wle (5 + knd text len spot)), fat, fwy, many))) (k0 : knd text len spot = -1 → Q (some (zI 0)) (mst σ now P (text, read, len, spot, fat, fwy, many))) : Con M_X8_takesKind 150 150 (mst σ now P (text, read, len, spot, fat, fwy, many)) [.ref 144] Q := by
  refine V_entry ok_X8_takesKind (Nat.le_refl _) (Nat.le_of_ble_eq_true rfl) (V_ls [(0, .ref 144)] ⟨rfl, trivial⟩ ?_)
  refine V_iconst (pc := 0) e_X8_takesKind_0 ?_
  refine V_istore_n (pc := 1) e_X8_takesKind_1 (by decide) ?_
  exact V_lq [(0, .ref 144), (1, zI ((0 : Nat) : Int))] ⟨⟨_, rfl, rfl⟩, ⟨_, rfl, rfl⟩, trivial⟩ (L_X8_takesKind hl hs ht k1 k0 0 (by omega) (fun j a b => absurd b (by omega)))
/-- the end of a job: blank, size, blank, kind, semicolon -/
def eO (tx : Int → Int) (ln s : Int) : Prop := (s < ln ∧ tx s = 32) ∧ szO tx ln (s + 1) ∧ (szE tx ln (s + 1) < ln ∧ tx (szE tx ln (s + 1)) = 32) ∧ 0 ≤ knd tx ln (szE tx ln (s + 1) + 1) ∧ (szE tx ln (s + 1) + 1 + wle (5 + knd tx ln (szE tx ln (s + 1) + 1)) < ln ∧ tx (szE tx ln (s + 1) + 1 + wle (5 + knd tx ln (szE tx ln (s + 1) + 1))) = 59)
noncomputable def eS (tx : Int → Int) (ln s : Int) : Int := szV tx ln (s + 1)
noncomputable def eK (tx : Int → Int) (ln s : Int) : Int := knd tx ln (szE tx ln (s + 1) + 1)
noncomputable def eE (tx : Int → Int) (ln s : Int) : Int := szE tx ln (s + 1) + 1 + wle (5 + knd tx ln (szE tx ln (s + 1) + 1)) + 1
theorem szE_rg {tx : Int → Int} {ln s : Int} (h : szO tx ln s) : s < szE tx ln s ∧ szE tx ln s ≤ ln := by
  unfold szE
  rcases h with h | ⟨h, h3, h4, h5⟩
  · rw [if_pos h]
    have a := wm_len (by decide) h
    omega
  · rw [if_neg h]
    have := wle_3
    omega
theorem T_X8_takesJob_e {σ : Sto} {now text read : Int → Int} {P : PT} {len spot fat fwy many : Int} {Q : Option Value → Sto → Prop} (hl : 0 ≤ len ∧ len ≤ 100) (hs : 0 ≤ spot ∧ spot ≤ len) (ht : ∀ k : Int, 0 ≤ k → k < len → 32 ≤ text k ∧ text k ≤ 126) (k1 : eO text len spot → Q (some (zI 1)) (mst σ now P (text, (up1 (up1 read 2 (eS text len spot)) 3 (eK text len spot)), len, (eE text len spot), fat, fwy, many))) (k0 : ¬ eO text len spot → ∀ (rd : Int → Int) (s : Int), Q (some (zI 0)) (mst σ now P (text, rd, len, s, fat, fwy, many))) : V M_X8_takesJob 150 134 [(0, .ref 144)] [] 150 (mst σ now P (text, read, len, spot, fat, fwy, many)) Q := by
  refine V_aload_n (pc := 134) e_X8_takesJob_134 rfl (Or.inl ⟨_, rfl⟩) ?_
  refine V_bipush (pc := 135) (by decide) e_X8_takesJob_135 ?_
  refine V_cV1 (pc := 137) ca_8_175 e_X8_takesJob_137 (by decide) (Nat.le_of_ble_eq_true rfl) (by decide) rfl (by decide) (c_X8_takes hl (by omega) ht (by omega) (fun h_tk => ?_) (fun h_tk => ?_))
  · refine V_if_eq (pc := 140) e_X8_takesJob_140 (by decide) (by decide) (fun h => absurd h (by decide)) (fun _ => ?_)
    have h_a := h_tk
    refine V_aload_n (pc := 143) e_X8_takesJob_143 rfl (Or.inl ⟨_, rfl⟩) ?_
    refine V_cV0 (pc := 144) ca_8_210 e_X8_takesJob_144 (by decide) (Nat.le_of_ble_eq_true rfl) (by decide) rfl (by decide) (c_X8_takesSize hl (by omega) ht (fun h_sz => ?_) (fun h_sz s_sz => ?_))
    · refine V_if_eq (pc := 147) e_X8_takesJob_147 (by decide) (by decide) (fun h => absurd h (by decide)) (fun _ => ?_)
      have zr := szE_rg h_sz
      refine V_aload_n (pc := 150) e_X8_takesJob_150 rfl (Or.inl ⟨_, rfl⟩) ?_
      refine V_bipush (pc := 151) (by decide) e_X8_takesJob_151 ?_
      refine V_cV1 (pc := 153) ca_8_175 e_X8_takesJob_153 (by decide) (Nat.le_of_ble_eq_true rfl) (by decide) rfl (by decide) (c_X8_takes hl (by omega) ht (by omega) (fun h_tk => ?_) (fun h_tk => ?_))
      · refine V_if_eq (pc := 156) e_X8_takesJob_156 (by decide) (by decide) (fun h => absurd h (by decide)) (fun _ => ?_)
        have h_b := h_tk
        refine V_aload_n (pc := 159) e_X8_takesJob_159 rfl (Or.inl ⟨_, rfl⟩) ?_
        refine V_cV0 (pc := 160) ca_8_214 e_X8_takesJob_160 (by decide) (Nat.le_of_ble_eq_true rfl) (by decide) rfl (by decide) (c_X8_takesKind hl (by omega) ht (fun h_kd => ?_) (fun h_kd => ?_))
        · refine V_if_eq (pc := 163) e_X8_takesJob_163 (by decide) (by decide) (fun h => absurd h (by decide)) (fun _ => ?_)
          have kr := knd_sp h_kd
          have kl := wm_len (by omega) kr.2
          refine V_aload_n (pc := 166) e_X8_takesJob_166 rfl (Or.inl ⟨_, rfl⟩) ?_
          refine V_bipush (pc := 167) (by decide) e_X8_takesJob_167 ?_
          refine V_cV1 (pc := 169) ca_8_175 e_X8_takesJob_169 (by decide) (Nat.le_of_ble_eq_true rfl) (by decide) rfl (by decide) (c_X8_takes hl (by omega) ht (by omega) (fun h_tk => ?_) (fun h_tk => ?_))
          · refine V_if_eq (pc := 172) e_X8_takesJob_172 (by decide) (by decide) (fun h => absurd h (by decide)) (fun _ => ?_)
            refine V_iconst (pc := 175) e_X8_takesJob_175 ?_
            refine V_goto (pc := 176) e_X8_takesJob_176 (by decide) ?_
            refine V_ret (pc := 180) (v := some (zI _)) ⟨e_X8_takesJob_180, _, rfl, by decide⟩ ?_
            first | exact k1 ⟨h_a, h_sz, h_b, h_kd, h_tk⟩ | exact k0 (by
              unfold eO
              intro z
              first | exact absurd z.1 h_tk | exact absurd z.2.1 h_sz | exact absurd z.2.2.1 h_tk | exact absurd z.2.2.2.1 (by omega) | exact absurd z.2.2.2.2 h_tk) _ _
          · refine V_if_eq (pc := 172) e_X8_takesJob_172 (by decide) (by decide) (fun _ => ?_) (fun h => absurd (by decide) h)
            refine V_iconst (pc := 179) e_X8_takesJob_179 ?_
            refine V_ret (pc := 180) (v := some (zI _)) ⟨e_X8_takesJob_180, _, rfl, by decide⟩ ?_
            first | exact k1 ⟨h_a, h_sz, h_b, h_kd, h_tk⟩ | exact k0 (by
              unfold eO
              intro z
              first | exact absurd z.1 h_tk | exact absurd z.2.1 h_sz | exact absurd z.2.2.1 h_tk | exact absurd z.2.2.2.1 (by omega) | exact absurd z.2.2.2.2 h_tk) _ _
        · refine V_if_eq (pc := 163) e_X8_takesJob_163 (by decide) (by decide) (fun _ => ?_) (fun h => absurd (by decide) h)
          refine V_iconst (pc := 179) e_X8_takesJob_179 ?_
          refine V_ret (pc := 180) (v := some (zI _)) ⟨e_X8_takesJob_180, _, rfl, by decide⟩ ?_
          first | exact k1 ⟨h_a, h_sz, h_b, h_kd, h_tk⟩ | exact k0 (by
            unfold eO
            intro z
            first | exact absurd z.1 h_tk | exact absurd z.2.1 h_sz | exact absurd z.2.2.1 h_tk | exact absurd z.2.2.2.1 (by omega) | exact absurd z.2.2.2.2 h_tk) _ _
      · refine V_if_eq (pc := 156) e_X8_takesJob_156 (by decide) (by decide) (fun _ => ?_) (fun h => absurd (by decide) h)
        refine V_iconst (pc := 179) e_X8_takesJob_179 ?_
        refine V_ret (pc := 180) (v := some (zI _)) ⟨e_X8_takesJob_180, _, rfl, by decide⟩ ?_
        first | exact k1 ⟨h_a, h_sz, h_b, h_kd, h_tk⟩ | exact k0 (by
          unfold eO
          intro z
          first | exact absurd z.1 h_tk | exact absurd z.2.1 h_sz | exact absurd z.2.2.1 h_tk | exact absurd z.2.2.2.1 (by omega) | exact absurd z.2.2.2.2 h_tk) _ _
    · refine V_if_eq (pc := 147) e_X8_takesJob_147 (by decide) (by decide) (fun _ => ?_) (fun h => absurd (by decide) h)
      refine V_iconst (pc := 179) e_X8_takesJob_179 ?_
      refine V_ret (pc := 180) (v := some (zI _)) ⟨e_X8_takesJob_180, _, rfl, by decide⟩ ?_
      first | exact k1 ⟨h_a, h_sz, h_b, h_kd, h_tk⟩ | exact k0 (by
        unfold eO
        intro z
        first | exact absurd z.1 h_tk | exact absurd z.2.1 h_sz | exact absurd z.2.2.1 h_tk | exact absurd z.2.2.2.1 (by omega) | exact absurd z.2.2.2.2 h_tk) _ _
  · refine V_if_eq (pc := 140) e_X8_takesJob_140 (by decide) (by decide) (fun _ => ?_) (fun h => absurd (by decide) h)
    refine V_iconst (pc := 179) e_X8_takesJob_179 ?_
    refine V_ret (pc := 180) (v := some (zI _)) ⟨e_X8_takesJob_180, _, rfl, by decide⟩ ?_
    first | exact k1 ⟨h_a, h_sz, h_b, h_kd, h_tk⟩ | exact k0 (by
      unfold eO
      intro z
      first | exact absurd z.1 h_tk | exact absurd z.2.1 h_sz | exact absurd z.2.2.1 h_tk | exact absurd z.2.2.2.1 (by omega) | exact absurd z.2.2.2.2 h_tk) _ _
/-- the options of a job: how it is, and where they end; none below 0 -/
def opO (tx : Int → Int) (ln s w : Int) : Prop := (s < ln ∧ tx s = 32) ∧ wm tx ln (s + 1) w
noncomputable def o1E (tx : Int → Int) (ln s w : Int) : Int := by classical exact if opO tx ln s w then s + 1 + wle w else s
noncomputable def o1V (tx : Int → Int) (ln s w v : Int) : Int := by classical exact if opO tx ln s w then v else 0
/-- staple1, staple2: the form is kept -/
def o3O (tx : Int → Int) (ln s : Int) : Prop := opO tx ln s 2 → (s + 1 + wle 2 < ln ∧ (tx (s + 1 + wle 2) = 49 ∨ tx (s + 1 + wle 2) = 50))
noncomputable def o3E (tx : Int → Int) (ln s : Int) : Int := by classical exact if opO tx ln s 2 then s + 1 + wle 2 + 1 else s
noncomputable def o3V (tx : Int → Int) (ln s : Int) : Int := by classical exact if opO tx ln s 2 then (if tx (s + 1 + wle 2) = 49 then 4 else 8) else 0
theorem o1E_rg {tx : Int → Int} {ln s w : Int} (hw : 0 ≤ w ∧ w < 9) (h0 : s ≤ ln) : s ≤ o1E tx ln s w ∧ o1E tx ln s w ≤ ln := by
  unfold o1E
  split
  · next h => have := wm_len hw h.2; omega
  · omega
theorem o3E_rg {tx : Int → Int} {ln s : Int} (h0 : s ≤ ln) (h : o3O tx ln s) : s ≤ o3E tx ln s ∧ o3E tx ln s ≤ ln := by
  unfold o3E
  split
  · next z => have a := h z; have b := wm_len (by decide) z.2; omega
  · omega
theorem T_X8_takesJob_3 {σ : Sto} {now text read : Int → Int} {P : PT} {len spot fat fwy many : Int} {Q : Option Value → Sto → Prop} (hl : 0 ≤ len ∧ len ≤ 100) (hs : 0 ≤ spot ∧ spot ≤ len) (ht : ∀ k : Int, 0 ≤ k → k < len → 32 ≤ text k ∧ text k ≤ 126) (k1 : (o3O text len spot ∧ eO text len (o3E text len spot)) → Q (some (zI 1)) (mst σ now P (text, (up1 (up1 (up1 read 4 (read 4 + o3V text len spot)) 2 (eS text len (o3E text len spot))) 3 (eK text len (o3E text len spot))), len, (eE text len (o3E text len spot)), fat, fwy, many))) (k0 : ¬ (o3O text len spot ∧ eO text len (o3E text len spot)) → ∀ (rd : Int → Int) (s : Int), Q (some (zI 0)) (mst σ now P (text, rd, len, s, fat, fwy, many))) : V M_X8_takesJob 150 72 [(0, .ref 144)] [] 150 (mst σ now P (text, read, len, spot, fat, fwy, many)) Q := by
  refine V_aload_n (pc := 72) e_X8_takesJob_72 rfl (Or.inl ⟨_, rfl⟩) ?_
  refine V_iconst (pc := 73) e_X8_takesJob_73 ?_
  refine V_cV1 (pc := 74) ca_8_207 e_X8_takesJob_74 (by decide) (Nat.le_of_ble_eq_true rfl) (by decide) rfl (by decide) (c_X8_takesOption hl (by omega) ht (by omega) (fun h_op => ?_) (fun h_op => ?_))
  · refine V_if_eq (pc := 77) e_X8_takesJob_77 (by decide) (by decide) (fun h => absurd h (by decide)) (fun _ => ?_)
    have wo := wm_len (by decide) h_op.2
    refine V_aload_n (pc := 80) e_X8_takesJob_80 rfl (Or.inl ⟨_, rfl⟩) ?_
    refine V_bipush (pc := 81) (by decide) e_X8_takesJob_81 ?_
    refine V_cV1 (pc := 83) ca_8_172 e_X8_takesJob_83 (by decide) (Nat.le_of_ble_eq_true rfl) (by decide) rfl (by decide) (c_X8_isAt hl (by omega) ht (by omega) (fun h_at => ?_) (fun h_at => ?_))
    · refine V_if_ne (pc := 86) e_X8_takesJob_86 (by decide) (by decide) (fun _ => ?_) (fun h => absurd h (by decide))
      refine V_aload_n (pc := 100) e_X8_takesJob_100 rfl (Or.inl ⟨_, rfl⟩) ?_
      refine V_getR (pc := 101) (q := 8) (j := 149) fx_8_26 e_X8_takesJob_101 rfl rfl (by decide) rfl rfl ?_
      refine V_iconst (pc := 104) e_X8_takesJob_104 ?_
      refine V_dup2 (pc := 105) e_X8_takesJob_105 rfl rfl ?_
      refine Vm_read (pc := 106) e_X8_takesJob_106 (by decide) ?_
      refine V_aload_n (pc := 107) e_X8_takesJob_107 rfl (Or.inl ⟨_, rfl⟩) ?_
      refine V_bipush (pc := 108) (by decide) e_X8_takesJob_108 ?_
      refine V_cV1 (pc := 110) ca_8_172 e_X8_takesJob_110 (by decide) (Nat.le_of_ble_eq_true rfl) (by decide) rfl (by decide) (c_X8_isAt hl (by omega) ht (by omega) (fun h_at => ?_) (fun h_at => ?_))
      · refine V_if_eq (pc := 113) e_X8_takesJob_113 (by decide) (by decide) (fun h => absurd h (by decide)) (fun _ => ?_)
        refine V_iconst (pc := 116) e_X8_takesJob_116 ?_
        refine V_goto (pc := 117) e_X8_takesJob_117 (by decide) ?_
        refine V_iadd (pc := 122) e_X8_takesJob_122 ?_
        refine Vm_readS (pc := 123) e_X8_takesJob_123 (by decide) ?_
        refine V_aload_n (pc := 124) e_X8_takesJob_124 rfl (Or.inl ⟨_, rfl⟩) ?_
        refine V_dup (pc := 125) e_X8_takesJob_125 rfl ?_
        refine Vm_spot (pc := 126) fx_8_169 e_X8_takesJob_126 ?_
        refine V_iconst (pc := 129) e_X8_takesJob_129 ?_
        refine V_iadd (pc := 130) e_X8_takesJob_130 ?_
        refine Vm_pspot (pc := 131) fx_8_169 e_X8_takesJob_131 ?_
        exact V_lq [(0, .ref 144)] ⟨⟨_, rfl, rfl⟩, trivial⟩ (by
          first
            | (exfalso; omega)
            | (have e1 : o3E text len spot = spot + 1 + wle 2 + 1 := by unfold o3E; first | rw [if_pos (show opO text len spot 2 from h_op)] | rw [if_neg (show ¬ opO text len spot 2 from h_op)]
               have e2 : o3V text len spot = 4 := by unfold o3V; first | rw [if_pos (show opO text len spot 2 from h_op), if_pos (by omega)] | rw [if_pos (show opO text len spot 2 from h_op), if_neg (by omega)] | rw [if_neg (show ¬ opO text len spot 2 from h_op)]
               have e3 : o3O text len spot := fun z => by first | exact absurd z h_op | exact ⟨by omega, by omega⟩
               rw [e1, e2] at k1
               rw [e1] at k0
               exact T_X8_takesJob_e (read := (up1 read 4 (read 4 + 4))) (spot := (spot + 1 + wle 2 + 1)) hl (by omega) ht (fun z => k1 ⟨e3, z⟩) (fun z => k0 (fun y => z y.2))))
      · refine V_if_eq (pc := 113) e_X8_takesJob_113 (by decide) (by decide) (fun _ => ?_) (fun h => absurd (by decide) h)
        refine V_bipush (pc := 120) (by decide) e_X8_takesJob_120 ?_
        refine V_iadd (pc := 122) e_X8_takesJob_122 ?_
        refine Vm_readS (pc := 123) e_X8_takesJob_123 (by decide) ?_
        refine V_aload_n (pc := 124) e_X8_takesJob_124 rfl (Or.inl ⟨_, rfl⟩) ?_
        refine V_dup (pc := 125) e_X8_takesJob_125 rfl ?_
        refine Vm_spot (pc := 126) fx_8_169 e_X8_takesJob_126 ?_
        refine V_iconst (pc := 129) e_X8_takesJob_129 ?_
        refine V_iadd (pc := 130) e_X8_takesJob_130 ?_
        refine Vm_pspot (pc := 131) fx_8_169 e_X8_takesJob_131 ?_
        exact V_lq [(0, .ref 144)] ⟨⟨_, rfl, rfl⟩, trivial⟩ (by
          first
            | (exfalso; omega)
            | (have e1 : o3E text len spot = spot + 1 + wle 2 + 1 := by unfold o3E; first | rw [if_pos (show opO text len spot 2 from h_op)] | rw [if_neg (show ¬ opO text len spot 2 from h_op)]
               have e2 : o3V text len spot = 8 := by unfold o3V; first | rw [if_pos (show opO text len spot 2 from h_op), if_pos (by omega)] | rw [if_pos (show opO text len spot 2 from h_op), if_neg (by omega)] | rw [if_neg (show ¬ opO text len spot 2 from h_op)]
               have e3 : o3O text len spot := fun z => by first | exact absurd z h_op | exact ⟨by omega, by omega⟩
               rw [e1, e2] at k1
               rw [e1] at k0
               exact T_X8_takesJob_e (read := (up1 read 4 (read 4 + 8))) (spot := (spot + 1 + wle 2 + 1)) hl (by omega) ht (fun z => k1 ⟨e3, z⟩) (fun z => k0 (fun y => z y.2))))
    · refine V_if_ne (pc := 86) e_X8_takesJob_86 (by decide) (by decide) (fun h => absurd (by decide) h) (fun _ => ?_)
      refine V_aload_n (pc := 89) e_X8_takesJob_89 rfl (Or.inl ⟨_, rfl⟩) ?_
      refine V_bipush (pc := 90) (by decide) e_X8_takesJob_90 ?_
      refine V_cV1 (pc := 92) ca_8_172 e_X8_takesJob_92 (by decide) (Nat.le_of_ble_eq_true rfl) (by decide) rfl (by decide) (c_X8_isAt hl (by omega) ht (by omega) (fun h_at => ?_) (fun h_at => ?_))
      · refine V_if_ne (pc := 95) e_X8_takesJob_95 (by decide) (by decide) (fun _ => ?_) (fun h => absurd h (by decide))
        refine V_aload_n (pc := 100) e_X8_takesJob_100 rfl (Or.inl ⟨_, rfl⟩) ?_
        refine V_getR (pc := 101) (q := 8) (j := 149) fx_8_26 e_X8_takesJob_101 rfl rfl (by decide) rfl rfl ?_
        refine V_iconst (pc := 104) e_X8_takesJob_104 ?_
        refine V_dup2 (pc := 105) e_X8_takesJob_105 rfl rfl ?_
        refine Vm_read (pc := 106) e_X8_takesJob_106 (by decide) ?_
        refine V_aload_n (pc := 107) e_X8_takesJob_107 rfl (Or.inl ⟨_, rfl⟩) ?_
        refine V_bipush (pc := 108) (by decide) e_X8_takesJob_108 ?_
        refine V_cV1 (pc := 110) ca_8_172 e_X8_takesJob_110 (by decide) (Nat.le_of_ble_eq_true rfl) (by decide) rfl (by decide) (c_X8_isAt hl (by omega) ht (by omega) (fun h_at => ?_) (fun h_at => ?_))
        · refine V_if_eq (pc := 113) e_X8_takesJob_113 (by decide) (by decide) (fun h => absurd h (by decide)) (fun _ => ?_)
          refine V_iconst (pc := 116) e_X8_takesJob_116 ?_
          refine V_goto (pc := 117) e_X8_takesJob_117 (by decide) ?_
          refine V_iadd (pc := 122) e_X8_takesJob_122 ?_
          refine Vm_readS (pc := 123) e_X8_takesJob_123 (by decide) ?_
          refine V_aload_n (pc := 124) e_X8_takesJob_124 rfl (Or.inl ⟨_, rfl⟩) ?_
          refine V_dup (pc := 125) e_X8_takesJob_125 rfl ?_
          refine Vm_spot (pc := 126) fx_8_169 e_X8_takesJob_126 ?_
          refine V_iconst (pc := 129) e_X8_takesJob_129 ?_
          refine V_iadd (pc := 130) e_X8_takesJob_130 ?_
          refine Vm_pspot (pc := 131) fx_8_169 e_X8_takesJob_131 ?_
          exact V_lq [(0, .ref 144)] ⟨⟨_, rfl, rfl⟩, trivial⟩ (by
            first
              | (exfalso; omega)
              | (have e1 : o3E text len spot = spot + 1 + wle 2 + 1 := by unfold o3E; first | rw [if_pos (show opO text len spot 2 from h_op)] | rw [if_neg (show ¬ opO text len spot 2 from h_op)]
                 have e2 : o3V text len spot = 4 := by unfold o3V; first | rw [if_pos (show opO text len spot 2 from h_op), if_pos (by omega)] | rw [if_pos (show opO text len spot 2 from h_op), if_neg (by omega)] | rw [if_neg (show ¬ opO text len spot 2 from h_op)]
                 have e3 : o3O text len spot := fun z => by first | exact absurd z h_op | exact ⟨by omega, by omega⟩
                 rw [e1, e2] at k1
                 rw [e1] at k0
                 exact T_X8_takesJob_e (read := (up1 read 4 (read 4 + 4))) (spot := (spot + 1 + wle 2 + 1)) hl (by omega) ht (fun z => k1 ⟨e3, z⟩) (fun z => k0 (fun y => z y.2))))
        · refine V_if_eq (pc := 113) e_X8_takesJob_113 (by decide) (by decide) (fun _ => ?_) (fun h => absurd (by decide) h)
          refine V_bipush (pc := 120) (by decide) e_X8_takesJob_120 ?_
          refine V_iadd (pc := 122) e_X8_takesJob_122 ?_
          refine Vm_readS (pc := 123) e_X8_takesJob_123 (by decide) ?_
          refine V_aload_n (pc := 124) e_X8_takesJob_124 rfl (Or.inl ⟨_, rfl⟩) ?_
          refine V_dup (pc := 125) e_X8_takesJob_125 rfl ?_
          refine Vm_spot (pc := 126) fx_8_169 e_X8_takesJob_126 ?_
          refine V_iconst (pc := 129) e_X8_takesJob_129 ?_
          refine V_iadd (pc := 130) e_X8_takesJob_130 ?_
          refine Vm_pspot (pc := 131) fx_8_169 e_X8_takesJob_131 ?_
          exact V_lq [(0, .ref 144)] ⟨⟨_, rfl, rfl⟩, trivial⟩ (by
            first
              | (exfalso; omega)
              | (have e1 : o3E text len spot = spot + 1 + wle 2 + 1 := by unfold o3E; first | rw [if_pos (show opO text len spot 2 from h_op)] | rw [if_neg (show ¬ opO text len spot 2 from h_op)]
                 have e2 : o3V text len spot = 8 := by unfold o3V; first | rw [if_pos (show opO text len spot 2 from h_op), if_pos (by omega)] | rw [if_pos (show opO text len spot 2 from h_op), if_neg (by omega)] | rw [if_neg (show ¬ opO text len spot 2 from h_op)]
                 have e3 : o3O text len spot := fun z => by first | exact absurd z h_op | exact ⟨by omega, by omega⟩
                 rw [e1, e2] at k1
                 rw [e1] at k0
                 exact T_X8_takesJob_e (read := (up1 read 4 (read 4 + 8))) (spot := (spot + 1 + wle 2 + 1)) hl (by omega) ht (fun z => k1 ⟨e3, z⟩) (fun z => k0 (fun y => z y.2))))
      · refine V_if_ne (pc := 95) e_X8_takesJob_95 (by decide) (by decide) (fun h => absurd (by decide) h) (fun _ => ?_)
        refine V_iconst (pc := 98) e_X8_takesJob_98 ?_
        refine V_ret (pc := 99) (v := some (zI _)) ⟨e_X8_takesJob_99, _, rfl, by decide⟩ ?_
        exact k0 (fun z => by
          have y := z.1 h_op
          omega) _ _
  · refine V_if_eq (pc := 77) e_X8_takesJob_77 (by decide) (by decide) (fun _ => ?_) (fun h => absurd (by decide) h)
    exact V_lq [(0, .ref 144)] ⟨⟨_, rfl, rfl⟩, trivial⟩ (by
      have e1 : o3E text len spot = spot := by unfold o3E; rw [if_neg (show ¬ opO text len spot 2 from h_op)]
      have e2 : o3V text len spot = 0 := by unfold o3V; rw [if_neg (show ¬ opO text len spot 2 from h_op)]
      have e3 : o3O text len spot := fun z => absurd z h_op
      have e4 : up1 read 4 (read 4 + 0) = read := by funext q; unfold up1; split <;> first | (rename_i z; rw [z, Int.add_zero]) | rfl
      rw [e1, e2, e4] at k1
      rw [e1] at k0
      exact T_X8_takesJob_e hl hs ht (fun z => k1 ⟨e3, z⟩) (fun z => k0 (fun y => z y.2)))
theorem T_X8_takesJob_2 {σ : Sto} {now text read : Int → Int} {P : PT} {len spot fat fwy many : Int} {Q : Option Value → Sto → Prop} (hl : 0 ≤ len ∧ len ≤ 100) (hs : 0 ≤ spot ∧ spot ≤ len) (ht : ∀ k : Int, 0 ≤ k → k < len → 32 ≤ text k ∧ text k ≤ 126) (k1 : (o3O text len (o1E text len spot 1) ∧ eO text len (o3E text len (o1E text len spot 1))) → Q (some (zI 1)) (mst σ now P (text, (up1 (up1 (up1 (up1 read 4 (read 4 + o1V text len spot 1 2)) 4 (up1 read 4 (read 4 + o1V text len spot 1 2) 4 + o3V text len (o1E text len spot 1))) 2 (eS text len (o3E text len (o1E text len spot 1)))) 3 (eK text len (o3E text len (o1E text len spot 1)))), len, (eE text len (o3E text len (o1E text len spot 1))), fat, fwy, many))) (k0 : ¬ (o3O text len (o1E text len spot 1) ∧ eO text len (o3E text len (o1E text len spot 1))) → ∀ (rd : Int → Int) (s : Int), Q (some (zI 0)) (mst σ now P (text, rd, len, s, fat, fwy, many))) : V M_X8_takesJob 150 50 [(0, .ref 144)] [] 150 (mst σ now P (text, read, len, spot, fat, fwy, many)) Q := by
  refine V_aload_n (pc := 50) e_X8_takesJob_50 rfl (Or.inl ⟨_, rfl⟩) ?_
  refine V_getR (pc := 51) (q := 8) (j := 149) fx_8_26 e_X8_takesJob_51 rfl rfl (by decide) rfl rfl ?_
  refine V_iconst (pc := 54) e_X8_takesJob_54 ?_
  refine V_dup2 (pc := 55) e_X8_takesJob_55 rfl rfl ?_
  refine Vm_read (pc := 56) e_X8_takesJob_56 (by decide) ?_
  refine V_aload_n (pc := 57) e_X8_takesJob_57 rfl (Or.inl ⟨_, rfl⟩) ?_
  refine V_iconst (pc := 58) e_X8_takesJob_58 ?_
  refine V_cV1 (pc := 59) ca_8_207 e_X8_takesJob_59 (by decide) (Nat.le_of_ble_eq_true rfl) (by decide) rfl (by decide) (c_X8_takesOption hl (by omega) ht (by omega) (fun h_op => ?_) (fun h_op => ?_))
  · refine V_if_eq (pc := 62) e_X8_takesJob_62 (by decide) (by decide) (fun h => absurd h (by decide)) (fun _ => ?_)
    have wo := wm_len (by decide) h_op.2
    refine V_iconst (pc := 65) e_X8_takesJob_65 ?_
    refine V_goto (pc := 66) e_X8_takesJob_66 (by decide) ?_
    refine V_iadd (pc := 70) e_X8_takesJob_70 ?_
    refine Vm_readS (pc := 71) e_X8_takesJob_71 (by decide) ?_
    exact V_lq [(0, .ref 144)] ⟨⟨_, rfl, rfl⟩, trivial⟩ (by
      have e1 : o1E text len spot 1 = (spot + 1 + wle 1) := by unfold o1E; first | rw [if_pos (show opO text len spot 1 from h_op)] | rw [if_neg (show ¬ opO text len spot 1 from h_op)]
      have e2 : o1V text len spot 1 2 = 2 := by unfold o1V; first | rw [if_pos (show opO text len spot 1 from h_op)] | rw [if_neg (show ¬ opO text len spot 1 from h_op)]
      rw [e1, e2] at k1
      rw [e1] at k0
      exact T_X8_takesJob_3 (read := (up1 read 4 (read 4 + 2))) (spot := (spot + 1 + wle 1)) hl (by omega) ht k1 k0)
  · refine V_if_eq (pc := 62) e_X8_takesJob_62 (by decide) (by decide) (fun _ => ?_) (fun h => absurd (by decide) h)
    refine V_iconst (pc := 69) e_X8_takesJob_69 ?_
    refine V_iadd (pc := 70) e_X8_takesJob_70 ?_
    refine Vm_readS (pc := 71) e_X8_takesJob_71 (by decide) ?_
    exact V_lq [(0, .ref 144)] ⟨⟨_, rfl, rfl⟩, trivial⟩ (by
      have e1 : o1E text len spot 1 = spot := by unfold o1E; first | rw [if_pos (show opO text len spot 1 from h_op)] | rw [if_neg (show ¬ opO text len spot 1 from h_op)]
      have e2 : o1V text len spot 1 2 = 0 := by unfold o1V; first | rw [if_pos (show opO text len spot 1 from h_op)] | rw [if_neg (show ¬ opO text len spot 1 from h_op)]
      rw [e1, e2] at k1
      rw [e1] at k0
      exact T_X8_takesJob_3 (read := (up1 read 4 (read 4 + 0))) (spot := spot) hl (by omega) ht k1 k0)
theorem T_X8_takesJob_1 {σ : Sto} {now text read : Int → Int} {P : PT} {len spot fat fwy many : Int} {Q : Option Value → Sto → Prop} (hl : 0 ≤ len ∧ len ≤ 100) (hs : 0 ≤ spot ∧ spot ≤ len) (ht : ∀ k : Int, 0 ≤ k → k < len → 32 ≤ text k ∧ text k ≤ 126) (k1 : (o3O text len (o1E text len (o1E text len spot 0) 1) ∧ eO text len (o3E text len (o1E text len (o1E text len spot 0) 1))) → Q (some (zI 1)) (mst σ now P (text, (up1 (up1 (up1 (up1 (up1 read 4 (o1V text len spot 0 1)) 4 ((up1 read 4 (o1V text len spot 0 1)) 4 + o1V text len (o1E text len spot 0) 1 2)) 4 ((up1 (up1 read 4 (o1V text len spot 0 1)) 4 ((up1 read 4 (o1V text len spot 0 1)) 4 + o1V text len (o1E text len spot 0) 1 2)) 4 + o3V text len (o1E text len (o1E text len spot 0) 1))) 2 (eS text len (o3E text len (o1E text len (o1E text len spot 0) 1)))) 3 (eK text len (o3E text len (o1E text len (o1E text len spot 0) 1)))), len, (eE text len (o3E text len (o1E text len (o1E text len spot 0) 1))), fat, fwy, many))) (k0 : ¬ (o3O text len (o1E text len (o1E text len spot 0) 1) ∧ eO text len (o3E text len (o1E text len (o1E text len spot 0) 1))) → ∀ (rd : Int → Int) (s : Int), Q (some (zI 0)) (mst σ now P (text, rd, len, s, fat, fwy, many))) : V M_X8_takesJob 150 31 [(0, .ref 144)] [] 150 (mst σ now P (text, read, len, spot, fat, fwy, many)) Q := by
  refine V_aload_n (pc := 31) e_X8_takesJob_31 rfl (Or.inl ⟨_, rfl⟩) ?_
  refine V_getR (pc := 32) (q := 8) (j := 149) fx_8_26 e_X8_takesJob_32 rfl rfl (by decide) rfl rfl ?_
  refine V_iconst (pc := 35) e_X8_takesJob_35 ?_
  refine V_aload_n (pc := 36) e_X8_takesJob_36 rfl (Or.inl ⟨_, rfl⟩) ?_
  refine V_iconst (pc := 37) e_X8_takesJob_37 ?_
  refine V_cV1 (pc := 38) ca_8_207 e_X8_takesJob_38 (by decide) (Nat.le_of_ble_eq_true rfl) (by decide) rfl (by decide) (c_X8_takesOption hl (by omega) ht (by omega) (fun h_op => ?_) (fun h_op => ?_))
  · refine V_if_eq (pc := 41) e_X8_takesJob_41 (by decide) (by decide) (fun h => absurd h (by decide)) (fun _ => ?_)
    have wo := wm_len (by decide) h_op.2
    refine V_iconst (pc := 44) e_X8_takesJob_44 ?_
    refine V_goto (pc := 45) e_X8_takesJob_45 (by decide) ?_
    refine Vm_readS (pc := 49) e_X8_takesJob_49 (by decide) ?_
    exact V_lq [(0, .ref 144)] ⟨⟨_, rfl, rfl⟩, trivial⟩ (by
      have e1 : o1E text len spot 0 = (spot + 1 + wle 0) := by unfold o1E; first | rw [if_pos (show opO text len spot 0 from h_op)] | rw [if_neg (show ¬ opO text len spot 0 from h_op)]
      have e2 : o1V text len spot 0 1 = 1 := by unfold o1V; first | rw [if_pos (show opO text len spot 0 from h_op)] | rw [if_neg (show ¬ opO text len spot 0 from h_op)]
      rw [e1, e2] at k1
      rw [e1] at k0
      exact T_X8_takesJob_2 (read := (up1 read 4 1)) (spot := (spot + 1 + wle 0)) hl (by omega) ht k1 k0)
  · refine V_if_eq (pc := 41) e_X8_takesJob_41 (by decide) (by decide) (fun _ => ?_) (fun h => absurd (by decide) h)
    refine V_iconst (pc := 48) e_X8_takesJob_48 ?_
    refine Vm_readS (pc := 49) e_X8_takesJob_49 (by decide) ?_
    exact V_lq [(0, .ref 144)] ⟨⟨_, rfl, rfl⟩, trivial⟩ (by
      have e1 : o1E text len spot 0 = spot := by unfold o1E; first | rw [if_pos (show opO text len spot 0 from h_op)] | rw [if_neg (show ¬ opO text len spot 0 from h_op)]
      have e2 : o1V text len spot 0 1 = 0 := by unfold o1V; first | rw [if_pos (show opO text len spot 0 from h_op)] | rw [if_neg (show ¬ opO text len spot 0 from h_op)]
      rw [e1, e2] at k1
      rw [e1] at k0
      exact T_X8_takesJob_2 (read := (up1 read 4 0)) (spot := spot) hl (by omega) ht k1 k0)
