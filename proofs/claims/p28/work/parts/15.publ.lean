/-! the model's public methods -/
theorem c_X8_isSetting {σ : Sto} {Q : Option Value → Sto → Prop} {w v : Int} (r_w : -2147483648 ≤ w ∧ w < 2147483648) (r_v : -2147483648 ≤ v ∧ v < 2147483648) (k1 : ((w = 0 ∧ 1 ≤ v ∧ v ≤ 20) ∨ ((w = 1 ∨ w = 2) ∧ 0 ≤ v ∧ v ≤ 20) ∨ (w = 3 ∧ 2 ≤ v ∧ v ≤ 100) ∨ (w = 4 ∧ 0 ≤ v ∧ v ≤ 500) ∨ (w = 5 ∧ 1 ≤ v ∧ v ≤ 1000)) → Q (some (zI 1)) σ) (k0 : ¬ ((w = 0 ∧ 1 ≤ v ∧ v ≤ 20) ∨ ((w = 1 ∨ w = 2) ∧ 0 ≤ v ∧ v ≤ 20) ∨ (w = 3 ∧ 2 ≤ v ∧ v ≤ 100) ∨ (w = 4 ∧ 0 ≤ v ∧ v ≤ 500) ∨ (w = 5 ∧ 1 ≤ v ∧ v ≤ 1000)) → Q (some (zI 0)) σ) : Con M_X8_isSetting 150 150 σ [zI w, zI v] Q := by
  refine V_entry ok_X8_isSetting (Nat.le_refl _) (Nat.le_of_ble_eq_true rfl) (V_ls [(0, zI w), (1, zI v)] ⟨rfl, rfl, trivial⟩ ?_)
  refine V_iload_n (pc := 0) e_X8_isSetting_0 rfl ?_
  refine V_table (pc := 1) e_X8_isSetting_1 (by decide) (by decide) (by decide) (by omega) (fun h1 => ?_) (fun j o h1 ho => ?_)
  · refine V_iload_n (pc := 69) e_X8_isSetting_69 rfl ?_
    refine V_iconst (pc := 70) e_X8_isSetting_70 ?_
    refine V_icmp_ne (pc := 71) e_X8_isSetting_71 (by decide) (by omega) (by decide) (fun h71 => ?_) (fun h71 => ?_)
    · refine V_iconst (pc := 89) e_X8_isSetting_89 ?_
      refine V_ret (pc := 90) (v := some (zI _)) ⟨e_X8_isSetting_90, _, rfl, by decide⟩ ?_
      first | exact k1 (by omega) | exact k0 (by omega)
    · refine V_iload_n (pc := 74) e_X8_isSetting_74 rfl ?_
      refine V_iconst (pc := 75) e_X8_isSetting_75 ?_
      refine V_sipush (pc := 76) (by decide) e_X8_isSetting_76 ?_
      refine V_cS3 (pc := 79) ca_8_32 e_X8_isSetting_79 (by decide) (Nat.le_of_ble_eq_true rfl) (c_X8_in (by omega) (by omega) (by omega) (fun h_in => ?_) (fun h_in => ?_))
      · refine V_if_eq (pc := 82) e_X8_isSetting_82 (by decide) (by decide) (fun h => absurd h (by decide)) (fun _ => ?_)
        refine V_iconst (pc := 85) e_X8_isSetting_85 ?_
        refine V_goto (pc := 86) e_X8_isSetting_86 (by decide) ?_
        refine V_ret (pc := 90) (v := some (zI _)) ⟨e_X8_isSetting_90, _, rfl, by decide⟩ ?_
        first | exact k1 (by omega) | exact k0 (by omega)
      · refine V_if_eq (pc := 82) e_X8_isSetting_82 (by decide) (by decide) (fun _ => ?_) (fun h => absurd (by decide) h)
        refine V_iconst (pc := 89) e_X8_isSetting_89 ?_
        refine V_ret (pc := 90) (v := some (zI _)) ⟨e_X8_isSetting_90, _, rfl, by decide⟩ ?_
        first | exact k1 (by omega) | exact k0 (by omega)
  · match j, ho with
    | 0, ho =>
      obtain rfl := Option.some.inj ho
      refine V_iload_n (pc := 36) e_X8_isSetting_36 rfl ?_
      refine V_iconst (pc := 37) e_X8_isSetting_37 ?_
      refine V_bipush (pc := 38) (by decide) e_X8_isSetting_38 ?_
      refine V_cS3 (pc := 40) ca_8_32 e_X8_isSetting_40 (by decide) (Nat.le_of_ble_eq_true rfl) (c_X8_in (by omega) (by omega) (by omega) (fun h_in => ?_) (fun h_in => ?_))
      · refine V_ret (pc := 43) (v := some (zI _)) ⟨e_X8_isSetting_43, _, rfl, by decide⟩ ?_
        first | exact k1 (by omega) | exact k0 (by omega)
      · refine V_ret (pc := 43) (v := some (zI _)) ⟨e_X8_isSetting_43, _, rfl, by decide⟩ ?_
        first | exact k1 (by omega) | exact k0 (by omega)
    | 1, ho =>
      obtain rfl := Option.some.inj ho
      refine V_iload_n (pc := 44) e_X8_isSetting_44 rfl ?_
      refine V_iconst (pc := 45) e_X8_isSetting_45 ?_
      refine V_bipush (pc := 46) (by decide) e_X8_isSetting_46 ?_
      refine V_cS3 (pc := 48) ca_8_32 e_X8_isSetting_48 (by decide) (Nat.le_of_ble_eq_true rfl) (c_X8_in (by omega) (by omega) (by omega) (fun h_in => ?_) (fun h_in => ?_))
      · refine V_ret (pc := 51) (v := some (zI _)) ⟨e_X8_isSetting_51, _, rfl, by decide⟩ ?_
        first | exact k1 (by omega) | exact k0 (by omega)
      · refine V_ret (pc := 51) (v := some (zI _)) ⟨e_X8_isSetting_51, _, rfl, by decide⟩ ?_
        first | exact k1 (by omega) | exact k0 (by omega)
    | 2, ho =>
      obtain rfl := Option.some.inj ho
      refine V_iload_n (pc := 44) e_X8_isSetting_44 rfl ?_
      refine V_iconst (pc := 45) e_X8_isSetting_45 ?_
      refine V_bipush (pc := 46) (by decide) e_X8_isSetting_46 ?_
      refine V_cS3 (pc := 48) ca_8_32 e_X8_isSetting_48 (by decide) (Nat.le_of_ble_eq_true rfl) (c_X8_in (by omega) (by omega) (by omega) (fun h_in => ?_) (fun h_in => ?_))
      · refine V_ret (pc := 51) (v := some (zI _)) ⟨e_X8_isSetting_51, _, rfl, by decide⟩ ?_
        first | exact k1 (by omega) | exact k0 (by omega)
      · refine V_ret (pc := 51) (v := some (zI _)) ⟨e_X8_isSetting_51, _, rfl, by decide⟩ ?_
        first | exact k1 (by omega) | exact k0 (by omega)
    | 3, ho =>
      obtain rfl := Option.some.inj ho
      refine V_iload_n (pc := 52) e_X8_isSetting_52 rfl ?_
      refine V_iconst (pc := 53) e_X8_isSetting_53 ?_
      refine V_bipush (pc := 54) (by decide) e_X8_isSetting_54 ?_
      refine V_cS3 (pc := 56) ca_8_32 e_X8_isSetting_56 (by decide) (Nat.le_of_ble_eq_true rfl) (c_X8_in (by omega) (by omega) (by omega) (fun h_in => ?_) (fun h_in => ?_))
      · refine V_ret (pc := 59) (v := some (zI _)) ⟨e_X8_isSetting_59, _, rfl, by decide⟩ ?_
        first | exact k1 (by omega) | exact k0 (by omega)
      · refine V_ret (pc := 59) (v := some (zI _)) ⟨e_X8_isSetting_59, _, rfl, by decide⟩ ?_
        first | exact k1 (by omega) | exact k0 (by omega)
    | 4, ho =>
      obtain rfl := Option.some.inj ho
      refine V_iload_n (pc := 60) e_X8_isSetting_60 rfl ?_
      refine V_iconst (pc := 61) e_X8_isSetting_61 ?_
      refine V_sipush (pc := 62) (by decide) e_X8_isSetting_62 ?_
      refine V_cS3 (pc := 65) ca_8_32 e_X8_isSetting_65 (by decide) (Nat.le_of_ble_eq_true rfl) (c_X8_in (by omega) (by omega) (by omega) (fun h_in => ?_) (fun h_in => ?_))
      · refine V_ret (pc := 68) (v := some (zI _)) ⟨e_X8_isSetting_68, _, rfl, by decide⟩ ?_
        first | exact k1 (by omega) | exact k0 (by omega)
      · refine V_ret (pc := 68) (v := some (zI _)) ⟨e_X8_isSetting_68, _, rfl, by decide⟩ ?_
        first | exact k1 (by omega) | exact k0 (by omega)
    | j + 5, ho => exact absurd ho (by simp)
theorem c_X8_fill {σ : Sto} {now past aside : Int → Int} {sv rf : Int} {T : TT} {Q : Option Value → Sto → Prop} {t s : Int} (hs : 0 ≤ sv ∧ sv ≤ 4) (hR : RB now) (r_t : -2147483648 ≤ t ∧ t < 2147483648) (r_s : -2147483648 ≤ s ∧ s < 2147483648) (k1 : ¬ ((0 ≤ t ∧ t ≤ 3) ∧ 1 ≤ s ∧ s ≤ 500) → Q (some (zI (-1))) (mst σ now (past, aside, sv, rf) T)) (k2 : ((0 ≤ t ∧ t ≤ 3) ∧ 1 ≤ s ∧ s ≤ 500) → 500 < now (25 + 3 * t + 2) + s → Q (some (zI (-3))) (mst σ now (past, aside, sv, rf) T)) (k3 : ((0 ≤ t ∧ t ≤ 3) ∧ 1 ≤ s ∧ s ≤ 500) → ¬ 500 < now (25 + 3 * t + 2) + s → Q (some (zI (now (25 + 3 * t + 2) + s))) (mst σ (up1 now (25 + 3 * t + 2) (now (25 + 3 * t + 2) + s)) (recP now past sv, aside, recS sv, rf) T)) : Con M_X8_fill 150 150 (mst σ now (past, aside, sv, rf) T) [.ref 144, zI t, zI s] Q := by
  refine V_entry ok_X8_fill (Nat.le_refl _) (Nat.le_of_ble_eq_true rfl) (V_ls [(0, .ref 144), (1, zI t), (2, zI s)] ⟨rfl, rfl, rfl, trivial⟩ ?_)
  refine V_iload_n (pc := 0) e_X8_fill_0 rfl ?_
  refine V_cS1 (pc := 1) ca_8_36 e_X8_fill_1 (by decide) (Nat.le_of_ble_eq_true rfl) (c_X8_isTray (by omega) (fun h_isTray => ?_) (fun h_isTray => ?_))
  · refine V_if_eq (pc := 4) e_X8_fill_4 (by decide) (by decide) (fun h => absurd h (by decide)) (fun _ => ?_)
    refine V_iload_n (pc := 7) e_X8_fill_7 rfl ?_
    refine V_iconst (pc := 8) e_X8_fill_8 ?_
    refine V_sipush (pc := 9) (by decide) e_X8_fill_9 ?_
    refine V_cS3 (pc := 12) ca_8_32 e_X8_fill_12 (by decide) (Nat.le_of_ble_eq_true rfl) (c_X8_in (by omega) (by omega) (by omega) (fun h_in => ?_) (fun h_in => ?_))
    · refine V_if_ne (pc := 15) e_X8_fill_15 (by decide) (by decide) (fun _ => ?_) (fun h => absurd h (by decide))
      have g := hR (25 + 3 * t + 2) (by omega) (by omega) (by omega)
      refine V_bipush (pc := 20) (by decide) e_X8_fill_20 ?_
      refine V_iconst (pc := 22) e_X8_fill_22 ?_
      refine V_iload_n (pc := 23) e_X8_fill_23 rfl ?_
      refine V_imul (pc := 24) e_X8_fill_24 ?_
      refine V_iadd (pc := 25) e_X8_fill_25 ?_
      refine V_iconst (pc := 26) e_X8_fill_26 ?_
      refine V_iadd (pc := 27) e_X8_fill_27 ?_
      refine V_istore_n (pc := 28) e_X8_fill_28 (by decide) ?_
      refine V_aload_n (pc := 29) e_X8_fill_29 rfl (Or.inl ⟨_, rfl⟩) ?_
      refine V_getR (pc := 30) (q := 0) (j := 145) fx_8_7 e_X8_fill_30 rfl rfl (by decide) rfl rfl ?_
      refine V_iload_n (pc := 33) e_X8_fill_33 rfl ?_
      refine Vm_now (pc := 34) e_X8_fill_34 (by omega) ?_
      refine V_iload_n (pc := 35) e_X8_fill_35 rfl ?_
      refine V_iadd (pc := 36) e_X8_fill_36 ?_
      refine V_sipush (pc := 37) (by decide) e_X8_fill_37 ?_
      refine V_icmp_le (pc := 40) e_X8_fill_40 (by decide) (by omega) (by decide) (fun h40 => ?_) (fun h40 => ?_)
      · refine V_aload_n (pc := 46) e_X8_fill_46 rfl (Or.inl ⟨_, rfl⟩) ?_
        refine V_cV0 (pc := 47) ca_8_40 e_X8_fill_47 (by decide) (Nat.le_of_ble_eq_true rfl) (by decide) rfl (by decide) (c_X8_records (by omega) ?_)
        refine V_aload_n (pc := 50) e_X8_fill_50 rfl (Or.inl ⟨_, rfl⟩) ?_
        refine V_getR (pc := 51) (q := 0) (j := 145) fx_8_7 e_X8_fill_51 rfl rfl (by decide) rfl rfl ?_
        refine V_iload_n (pc := 54) e_X8_fill_54 rfl ?_
        refine V_dup2 (pc := 55) e_X8_fill_55 rfl rfl ?_
        refine Vm_now (pc := 56) e_X8_fill_56 (by omega) ?_
        refine V_iload_n (pc := 57) e_X8_fill_57 rfl ?_
        refine V_iadd (pc := 58) e_X8_fill_58 ?_
        refine Vm_nowS (pc := 59) e_X8_fill_59 (by omega) ?_
        refine V_aload_n (pc := 60) e_X8_fill_60 rfl (Or.inl ⟨_, rfl⟩) ?_
        refine V_getR (pc := 61) (q := 0) (j := 145) fx_8_7 e_X8_fill_61 rfl rfl (by decide) rfl rfl ?_
        refine V_iload_n (pc := 64) e_X8_fill_64 rfl ?_
        refine Vm_now (pc := 65) e_X8_fill_65 (by omega) ?_
        refine V_ret (pc := 66) (v := some (zI _)) ⟨e_X8_fill_66, _, rfl, rfl⟩ ?_
        exact Qv (k3 (by omega) (by omega)) up1_at.symm rfl
      · refine V_bipush (pc := 43) (by decide) e_X8_fill_43 ?_
        refine V_ret (pc := 45) (v := some (zI _)) ⟨e_X8_fill_45, _, rfl, rfl⟩ ?_
        exact k2 (by omega) (by omega)
    · refine V_if_ne (pc := 15) e_X8_fill_15 (by decide) (by decide) (fun h => absurd (by decide) h) (fun _ => ?_)
      refine V_iconst (pc := 18) e_X8_fill_18 ?_
      refine V_ret (pc := 19) (v := some (zI _)) ⟨e_X8_fill_19, _, rfl, rfl⟩ ?_
      exact k1 (by omega)
  · refine V_if_eq (pc := 4) e_X8_fill_4 (by decide) (by decide) (fun _ => ?_) (fun h => absurd (by decide) h)
    refine V_iconst (pc := 18) e_X8_fill_18 ?_
    refine V_ret (pc := 19) (v := some (zI _)) ⟨e_X8_fill_19, _, rfl, rfl⟩ ?_
    exact k1 (by omega)
theorem c_X8_load {σ : Sto} {now past aside : Int → Int} {sv rf : Int} {T : TT} {Q : Option Value → Sto → Prop} {t s q : Int} (hs : 0 ≤ sv ∧ sv ≤ 4) (r_t : -2147483648 ≤ t ∧ t < 2147483648) (r_s : -2147483648 ≤ s ∧ s < 2147483648) (r_q : -2147483648 ≤ q ∧ q < 2147483648) (k1 : ¬ ((0 ≤ t ∧ t ≤ 3) ∧ (0 ≤ s ∧ s ≤ 3) ∧ 0 ≤ q ∧ q ≤ 3) → Q (some (zI (-1))) (mst σ now (past, aside, sv, rf) T)) (k2 : ((0 ≤ t ∧ t ≤ 3) ∧ (0 ≤ s ∧ s ≤ 3) ∧ 0 ≤ q ∧ q ≤ 3) → Q (some (zI (now (25 + 3 * t + 2)))) (mst σ (up1 (up1 (up1 now (25 + 3 * t) s) (25 + 3 * t + 1) q) (25 + 3 * t + 2) 0) (recP now past sv, aside, recS sv, rf) T)) : Con M_X8_load 150 150 (mst σ now (past, aside, sv, rf) T) [.ref 144, zI t, zI s, zI q] Q := by
  refine V_entry ok_X8_load (Nat.le_refl _) (Nat.le_of_ble_eq_true rfl) (V_ls [(0, .ref 144), (1, zI t), (2, zI s), (3, zI q)] ⟨rfl, rfl, rfl, rfl, trivial⟩ ?_)
  refine V_iload_n (pc := 0) e_X8_load_0 rfl ?_
  refine V_cS1 (pc := 1) ca_8_36 e_X8_load_1 (by decide) (Nat.le_of_ble_eq_true rfl) (c_X8_isTray (by omega) (fun h_isTray => ?_) (fun h_isTray => ?_))
  · refine V_if_eq (pc := 4) e_X8_load_4 (by decide) (by decide) (fun h => absurd h (by decide)) (fun _ => ?_)
    refine V_iload_n (pc := 7) e_X8_load_7 rfl ?_
    refine V_iload_n (pc := 8) e_X8_load_8 rfl ?_
    refine V_cS2 (pc := 9) ca_8_43 e_X8_load_9 (by decide) (Nat.le_of_ble_eq_true rfl) (c_X8_isPaper (by omega) (by omega) (fun h_isPaper => ?_) (fun h_isPaper => ?_))
    · refine V_if_ne (pc := 12) e_X8_load_12 (by decide) (by decide) (fun _ => ?_) (fun h => absurd h (by decide))
      refine V_aload_n (pc := 17) e_X8_load_17 rfl (Or.inl ⟨_, rfl⟩) ?_
      refine V_cV0 (pc := 18) ca_8_40 e_X8_load_18 (by decide) (Nat.le_of_ble_eq_true rfl) (by decide) rfl (by decide) (c_X8_records (by omega) ?_)
      refine V_bipush (pc := 21) (by decide) e_X8_load_21 ?_
      refine V_iconst (pc := 23) e_X8_load_23 ?_
      refine V_iload_n (pc := 24) e_X8_load_24 rfl ?_
      refine V_imul (pc := 25) e_X8_load_25 ?_
      refine V_iadd (pc := 26) e_X8_load_26 ?_
      refine V_istore (pc := 27) e_X8_load_27 (by decide) ?_
      refine V_aload_n (pc := 29) e_X8_load_29 rfl (Or.inl ⟨_, rfl⟩) ?_
      refine V_getR (pc := 30) (q := 0) (j := 145) fx_8_7 e_X8_load_30 rfl rfl (by decide) rfl rfl ?_
      refine V_iload (pc := 33) e_X8_load_33 rfl ?_
      refine V_iconst (pc := 35) e_X8_load_35 ?_
      refine V_iadd (pc := 36) e_X8_load_36 ?_
      refine Vm_now (pc := 37) e_X8_load_37 (by omega) ?_
      refine V_istore (pc := 38) e_X8_load_38 (by decide) ?_
      refine V_aload_n (pc := 40) e_X8_load_40 rfl (Or.inl ⟨_, rfl⟩) ?_
      refine V_getR (pc := 41) (q := 0) (j := 145) fx_8_7 e_X8_load_41 rfl rfl (by decide) rfl rfl ?_
      refine V_iload (pc := 44) e_X8_load_44 rfl ?_
      refine V_iload_n (pc := 46) e_X8_load_46 rfl ?_
      refine Vm_nowS (pc := 47) e_X8_load_47 (by omega) ?_
      refine V_aload_n (pc := 48) e_X8_load_48 rfl (Or.inl ⟨_, rfl⟩) ?_
      refine V_getR (pc := 49) (q := 0) (j := 145) fx_8_7 e_X8_load_49 rfl rfl (by decide) rfl rfl ?_
      refine V_iload (pc := 52) e_X8_load_52 rfl ?_
      refine V_iconst (pc := 54) e_X8_load_54 ?_
      refine V_iadd (pc := 55) e_X8_load_55 ?_
      refine V_iload_n (pc := 56) e_X8_load_56 rfl ?_
      refine Vm_nowS (pc := 57) e_X8_load_57 (by omega) ?_
      refine V_aload_n (pc := 58) e_X8_load_58 rfl (Or.inl ⟨_, rfl⟩) ?_
      refine V_getR (pc := 59) (q := 0) (j := 145) fx_8_7 e_X8_load_59 rfl rfl (by decide) rfl rfl ?_
      refine V_iload (pc := 62) e_X8_load_62 rfl ?_
      refine V_iconst (pc := 64) e_X8_load_64 ?_
      refine V_iadd (pc := 65) e_X8_load_65 ?_
      refine V_iconst (pc := 66) e_X8_load_66 ?_
      refine Vm_nowS (pc := 67) e_X8_load_67 (by omega) ?_
      refine V_iload (pc := 68) e_X8_load_68 rfl ?_
      refine V_ret (pc := 70) (v := some (zI _)) ⟨e_X8_load_70, _, rfl, rfl⟩ ?_
      exact k2 (by omega)
    · refine V_if_ne (pc := 12) e_X8_load_12 (by decide) (by decide) (fun h => absurd (by decide) h) (fun _ => ?_)
      refine V_iconst (pc := 15) e_X8_load_15 ?_
      refine V_ret (pc := 16) (v := some (zI _)) ⟨e_X8_load_16, _, rfl, rfl⟩ ?_
      exact k1 (by omega)
  · refine V_if_eq (pc := 4) e_X8_load_4 (by decide) (by decide) (fun _ => ?_) (fun h => absurd (by decide) h)
    refine V_iconst (pc := 15) e_X8_load_15 ?_
    refine V_ret (pc := 16) (v := some (zI _)) ⟨e_X8_load_16, _, rfl, rfl⟩ ?_
    exact k1 (by omega)
theorem c_X8_tray {σ : Sto} {now : Int → Int} {P : PT} {T : TT} {Q : Option Value → Sto → Prop} {t w : Int} (hR : RR now) (r_t : -2147483648 ≤ t ∧ t < 2147483648) (r_w : -2147483648 ≤ w ∧ w < 2147483648) (k1 : ¬ ((0 ≤ t ∧ t ≤ 3) ∧ 0 ≤ w ∧ w ≤ 3) → Q (some (zI (-1))) (mst σ now P T)) (k2 : (0 ≤ t ∧ t ≤ 3) ∧ 0 ≤ w ∧ w ≤ 3 → Q (some (zI (if w < 3 then now (25 + 3 * t + w) else shA now (now (25 + 3 * t)) (now (25 + 3 * t + 1)) 4))) (mst σ now P T)) : Con M_X8_tray 150 150 (mst σ now P T) [.ref 144, zI t, zI w] Q := by
  refine V_entry ok_X8_tray (Nat.le_refl _) (Nat.le_of_ble_eq_true rfl) (V_ls [(0, .ref 144), (1, zI t), (2, zI w)] ⟨rfl, rfl, rfl, trivial⟩ ?_)
  refine V_iload_n (pc := 0) e_X8_tray_0 rfl ?_
  refine V_cS1 (pc := 1) ca_8_36 e_X8_tray_1 (by decide) (Nat.le_of_ble_eq_true rfl) (c_X8_isTray (by omega) (fun h_isTray => ?_) (fun h_isTray => ?_))
  · refine V_if_eq (pc := 4) e_X8_tray_4 (by decide) (by decide) (fun h => absurd h (by decide)) (fun _ => ?_)
    refine V_iload_n (pc := 7) e_X8_tray_7 rfl ?_
    refine V_iconst (pc := 8) e_X8_tray_8 ?_
    refine V_iconst (pc := 9) e_X8_tray_9 ?_
    refine V_cS3 (pc := 10) ca_8_32 e_X8_tray_10 (by decide) (Nat.le_of_ble_eq_true rfl) (c_X8_in (by omega) (by omega) (by omega) (fun h_in => ?_) (fun h_in => ?_))
    · refine V_if_ne (pc := 13) e_X8_tray_13 (by decide) (by decide) (fun _ => ?_) (fun h => absurd h (by decide))
      refine V_bipush (pc := 18) (by decide) e_X8_tray_18 ?_
      refine V_iconst (pc := 20) e_X8_tray_20 ?_
      refine V_iload_n (pc := 21) e_X8_tray_21 rfl ?_
      refine V_imul (pc := 22) e_X8_tray_22 ?_
      refine V_iadd (pc := 23) e_X8_tray_23 ?_
      refine V_istore_n (pc := 24) e_X8_tray_24 (by decide) ?_
      refine V_iload_n (pc := 25) e_X8_tray_25 rfl ?_
      refine V_iconst (pc := 26) e_X8_tray_26 ?_
      refine V_icmp_ge (pc := 27) e_X8_tray_27 (by decide) (by omega) (by decide) (fun h27 => ?_) (fun h27 => ?_)
      · have ga := hR.1 (25 + 3 * t) (by omega) (by omega) (by omega)
        have gb := hR.1 (25 + 3 * t + 1) (by omega) (by omega) (by omega)
        refine V_aload_n (pc := 41) e_X8_tray_41 rfl (Or.inl ⟨_, rfl⟩) ?_
        refine V_aload_n (pc := 42) e_X8_tray_42 rfl (Or.inl ⟨_, rfl⟩) ?_
        refine V_getR (pc := 43) (q := 0) (j := 145) fx_8_7 e_X8_tray_43 rfl rfl (by decide) rfl rfl ?_
        refine V_iload_n (pc := 46) e_X8_tray_46 rfl ?_
        refine Vm_now (pc := 47) e_X8_tray_47 (by omega) ?_
        refine V_aload_n (pc := 48) e_X8_tray_48 rfl (Or.inl ⟨_, rfl⟩) ?_
        refine V_getR (pc := 49) (q := 0) (j := 145) fx_8_7 e_X8_tray_49 rfl rfl (by decide) rfl rfl ?_
        refine V_iload_n (pc := 52) e_X8_tray_52 rfl ?_
        refine V_iconst (pc := 53) e_X8_tray_53 ?_
        refine V_iadd (pc := 54) e_X8_tray_54 ?_
        refine Vm_now (pc := 55) e_X8_tray_55 (by omega) ?_
        refine V_cV2 (pc := 56) ca_8_50 e_X8_tray_56 (by decide) (Nat.le_of_ble_eq_true rfl) (by decide) rfl (by decide) (c_X8_sheetsOf hR.1 (by omega) (by omega) ?_)
        refine V_ret (pc := 59) (v := some (zI _)) ⟨e_X8_tray_59, _, rfl, rfl⟩ ?_
        exact Qv (k2 (by omega)) (by split <;> first | rfl | (exfalso; omega)) rfl
      · refine V_aload_n (pc := 30) e_X8_tray_30 rfl (Or.inl ⟨_, rfl⟩) ?_
        refine V_getR (pc := 31) (q := 0) (j := 145) fx_8_7 e_X8_tray_31 rfl rfl (by decide) rfl rfl ?_
        refine V_iload_n (pc := 34) e_X8_tray_34 rfl ?_
        refine V_iload_n (pc := 35) e_X8_tray_35 rfl ?_
        refine V_iadd (pc := 36) e_X8_tray_36 ?_
        refine Vm_now (pc := 37) e_X8_tray_37 (by omega) ?_
        refine V_goto (pc := 38) e_X8_tray_38 (by decide) ?_
        refine V_ret (pc := 59) (v := some (zI _)) ⟨e_X8_tray_59, _, rfl, rfl⟩ ?_
        exact Qv (k2 (by omega)) (by split <;> first | rfl | (exfalso; omega)) rfl
    · refine V_if_ne (pc := 13) e_X8_tray_13 (by decide) (by decide) (fun h => absurd (by decide) h) (fun _ => ?_)
      refine V_iconst (pc := 16) e_X8_tray_16 ?_
      refine V_ret (pc := 17) (v := some (zI _)) ⟨e_X8_tray_17, _, rfl, rfl⟩ ?_
      exact k1 (by omega)
  · refine V_if_eq (pc := 4) e_X8_tray_4 (by decide) (by decide) (fun _ => ?_) (fun h => absurd (by decide) h)
    refine V_iconst (pc := 16) e_X8_tray_16 ?_
    refine V_ret (pc := 17) (v := some (zI _)) ⟨e_X8_tray_17, _, rfl, rfl⟩ ?_
    exact k1 (by omega)
theorem c_X8_staples {σ : Sto} {now past aside : Int → Int} {sv rf : Int} {T : TT} {Q : Option Value → Sto → Prop} {v : Int} (hs : 0 ≤ sv ∧ sv ≤ 4) (r_v : -2147483648 ≤ v ∧ v < 2147483648) (k1 : ¬ (0 ≤ v ∧ v ≤ 5000) → Q (some (zI (-1))) (mst σ now (past, aside, sv, rf) T)) (k2 : (0 ≤ v ∧ v ≤ 5000) → Q (some (zI (now (3)))) (mst σ (up1 now (3) v) (recP now past sv, aside, recS sv, rf) T)) : Con M_X8_staples 150 150 (mst σ now (past, aside, sv, rf) T) [.ref 144, zI v] Q := by
  refine V_entry ok_X8_staples (Nat.le_refl _) (Nat.le_of_ble_eq_true rfl) (V_ls [(0, .ref 144), (1, zI v)] ⟨rfl, rfl, trivial⟩ ?_)
  refine V_iload_n (pc := 0) e_X8_staples_0 rfl ?_
  refine V_iconst (pc := 1) e_X8_staples_1 ?_
  refine V_sipush (pc := 2) (by decide) e_X8_staples_2 ?_
  refine V_cS3 (pc := 5) ca_8_32 e_X8_staples_5 (by decide) (Nat.le_of_ble_eq_true rfl) (c_X8_in (by omega) (by omega) (by omega) (fun h_in => ?_) (fun h_in => ?_))
  · refine V_if_eq (pc := 8) e_X8_staples_8 (by decide) (by decide) (fun h => absurd h (by decide)) (fun _ => ?_)
    refine V_aload_n (pc := 11) e_X8_staples_11 rfl (Or.inl ⟨_, rfl⟩) ?_
    refine V_iconst (pc := 12) e_X8_staples_12 ?_
    refine V_iload_n (pc := 13) e_X8_staples_13 rfl ?_
    refine V_cV2 (pc := 14) ca_8_54 e_X8_staples_14 (by decide) (Nat.le_of_ble_eq_true rfl) (by decide) rfl (by decide) (c_X8_puts (by omega) (by omega) ?_)
    refine V_goto (pc := 17) e_X8_staples_17 (by decide) ?_
    refine V_ret (pc := 21) (v := some (zI _)) ⟨e_X8_staples_21, _, rfl, rfl⟩ ?_
    first | exact k1 (by omega) | exact k2 (by omega)
  · refine V_if_eq (pc := 8) e_X8_staples_8 (by decide) (by decide) (fun _ => ?_) (fun h => absurd (by decide) h)
    refine V_iconst (pc := 20) e_X8_staples_20 ?_
    refine V_ret (pc := 21) (v := some (zI _)) ⟨e_X8_staples_21, _, rfl, rfl⟩ ?_
    first | exact k1 (by omega) | exact k2 (by omega)
theorem c_X8_emptyBin {σ : Sto} {now past aside : Int → Int} {sv rf : Int} {T : TT} {Q : Option Value → Sto → Prop} (hs : 0 ≤ sv ∧ sv ≤ 4) (k : Q (some (zI (now 2))) (mst σ (up1 now 2 0) (recP now past sv, aside, recS sv, rf) T)) : Con M_X8_emptyBin 150 150 (mst σ now (past, aside, sv, rf) T) [.ref 144] Q := by
  refine V_entry ok_X8_emptyBin (Nat.le_refl _) (Nat.le_of_ble_eq_true rfl) (V_ls [(0, .ref 144)] ⟨rfl, trivial⟩ ?_)
  refine V_aload_n (pc := 0) e_X8_emptyBin_0 rfl (Or.inl ⟨_, rfl⟩) ?_
  refine V_iconst (pc := 1) e_X8_emptyBin_1 ?_
  refine V_iconst (pc := 2) e_X8_emptyBin_2 ?_
  refine V_cV2 (pc := 3) ca_8_54 e_X8_emptyBin_3 (by decide) (Nat.le_of_ble_eq_true rfl) (by decide) rfl (by decide) (c_X8_puts (by omega) (by omega) ?_)
  refine V_ret (pc := 6) (v := some (zI _)) ⟨e_X8_emptyBin_6, _, rfl, rfl⟩ ?_
  exact k
theorem c_X8_set {σ : Sto} {now past aside : Int → Int} {sv rf : Int} {T : TT} {Q : Option Value → Sto → Prop} {w v : Int} (hs : 0 ≤ sv ∧ sv ≤ 4) (r_w : -2147483648 ≤ w ∧ w < 2147483648) (r_v : -2147483648 ≤ v ∧ v < 2147483648) (k1 : ¬ ((w = 0 ∧ 1 ≤ v ∧ v ≤ 20) ∨ ((w = 1 ∨ w = 2) ∧ 0 ≤ v ∧ v ≤ 20) ∨ (w = 3 ∧ 2 ≤ v ∧ v ≤ 100) ∨ (w = 4 ∧ 0 ≤ v ∧ v ≤ 500) ∨ (w = 5 ∧ 1 ≤ v ∧ v ≤ 1000)) → Q (some (zI (-1))) (mst σ now (past, aside, sv, rf) T)) (k2 : ((w = 0 ∧ 1 ≤ v ∧ v ≤ 20) ∨ ((w = 1 ∨ w = 2) ∧ 0 ≤ v ∧ v ≤ 20) ∨ (w = 3 ∧ 2 ≤ v ∧ v ≤ 100) ∨ (w = 4 ∧ 0 ≤ v ∧ v ≤ 500) ∨ (w = 5 ∧ 1 ≤ v ∧ v ≤ 1000)) → Q (some (zI (now (10 + w)))) (mst σ (up1 now (10 + w) v) (recP now past sv, aside, recS sv, rf) T)) : Con M_X8_set 150 150 (mst σ now (past, aside, sv, rf) T) [.ref 144, zI w, zI v] Q := by
  refine V_entry ok_X8_set (Nat.le_refl _) (Nat.le_of_ble_eq_true rfl) (V_ls [(0, .ref 144), (1, zI w), (2, zI v)] ⟨rfl, rfl, rfl, trivial⟩ ?_)
  refine V_iload_n (pc := 0) e_X8_set_0 rfl ?_
  refine V_iload_n (pc := 1) e_X8_set_1 rfl ?_
  refine V_cS2 (pc := 2) ca_8_57 e_X8_set_2 (by decide) (Nat.le_of_ble_eq_true rfl) (c_X8_isSetting (by omega) (by omega) (fun h_isSetting => ?_) (fun h_isSetting => ?_))
  · refine V_if_eq (pc := 5) e_X8_set_5 (by decide) (by decide) (fun h => absurd h (by decide)) (fun _ => ?_)
    refine V_aload_n (pc := 8) e_X8_set_8 rfl (Or.inl ⟨_, rfl⟩) ?_
    refine V_bipush (pc := 9) (by decide) e_X8_set_9 ?_
    refine V_iload_n (pc := 11) e_X8_set_11 rfl ?_
    refine V_iadd (pc := 12) e_X8_set_12 ?_
    refine V_iload_n (pc := 13) e_X8_set_13 rfl ?_
    refine V_cV2 (pc := 14) ca_8_54 e_X8_set_14 (by decide) (Nat.le_of_ble_eq_true rfl) (by decide) rfl (by decide) (c_X8_puts (by omega) (by omega) ?_)
    refine V_goto (pc := 17) e_X8_set_17 (by decide) ?_
    refine V_ret (pc := 21) (v := some (zI _)) ⟨e_X8_set_21, _, rfl, rfl⟩ ?_
    first | exact k1 (by omega) | exact k2 (by omega)
  · refine V_if_eq (pc := 5) e_X8_set_5 (by decide) (by decide) (fun _ => ?_) (fun h => absurd (by decide) h)
    refine V_iconst (pc := 20) e_X8_set_20 ?_
    refine V_ret (pc := 21) (v := some (zI _)) ⟨e_X8_set_21, _, rfl, rfl⟩ ?_
    first | exact k1 (by omega) | exact k2 (by omega)
theorem c_X8_refusal {σ : Sto} {now past aside : Int → Int} {sv rf : Int} {T : TT} {Q : Option Value → Sto → Prop}  (k : Q (some (zI rf)) (mst σ now (past, aside, sv, rf) T)) : Con M_X8_refusal 150 150 (mst σ now (past, aside, sv, rf) T) [.ref 144] Q := by
  refine V_entry ok_X8_refusal (Nat.le_refl _) (Nat.le_of_ble_eq_true rfl) (V_ls [(0, .ref 144)] ⟨rfl, trivial⟩ ?_)
  refine V_aload_n (pc := 0) e_X8_refusal_0 rfl (Or.inl ⟨_, rfl⟩) ?_
  refine Vm_refused (pc := 1) fx_8_19 e_X8_refusal_1 ?_
  refine V_ret (pc := 4) (v := some (zI _)) ⟨e_X8_refusal_4, _, rfl, rfl⟩ ?_
  exact k
theorem c_X8_job {σ : Sto} {now past aside : Int → Int} {sv rf : Int} {T : TT} {Q : Option Value → Sto → Prop} {pg cp s q hw : Int} (hs : 0 ≤ sv ∧ sv ≤ 4) (hR : RR now) (h13 : 0 ≤ now 13 ∧ now 13 ≤ 1000) (r_pg : -2147483648 ≤ pg ∧ pg < 2147483648) (r_cp : -2147483648 ≤ cp ∧ cp < 2147483648) (r_s : -2147483648 ≤ s ∧ s < 2147483648) (r_q : -2147483648 ≤ q ∧ q < 2147483648) (r_hw : -2147483648 ≤ hw ∧ hw < 2147483648) (k1 : ¬ (((1 ≤ pg ∧ pg ≤ 200) ∧ 1 ≤ cp ∧ cp ≤ 50) ∧ ((0 ≤ s ∧ s ≤ 3) ∧ 0 ≤ q ∧ q ≤ 3) ∧ 0 ≤ hw ∧ hw ≤ 11) → Q (some (zI (-1))) (mst σ now (past, aside, sv, rf) T)) (k2 : (((1 ≤ pg ∧ pg ≤ 200) ∧ 1 ≤ cp ∧ cp ≤ 50) ∧ ((0 ≤ s ∧ s ≤ 3) ∧ 0 ≤ q ∧ q ≤ 3) ∧ 0 ≤ hw ∧ hw ≤ 11) → 0 < wny now pg q hw → Q (some (zI (-2))) (mst σ now (past, aside, sv, wny now pg q hw) T)) (k3 : (((1 ≤ pg ∧ pg ≤ 200) ∧ 1 ≤ cp ∧ cp ≤ 50) ∧ ((0 ≤ s ∧ s ≤ 3) ∧ 0 ≤ q ∧ q ≤ 3) ∧ 0 ≤ hw ∧ hw ≤ 11) → wny now pg q hw = 0 → now 0 = 10 → Q (some (zI (-3))) (mst σ now (past, aside, sv, rf) T)) (k4 : (((1 ≤ pg ∧ pg ≤ 200) ∧ 1 ≤ cp ∧ cp ≤ 50) ∧ ((0 ≤ s ∧ s ≤ 3) ∧ 0 ≤ q ∧ q ≤ 3) ∧ 0 ≤ hw ∧ hw ≤ 11) → wny now pg q hw = 0 → now 0 < 10 → Q (some (zI (comesF now pg cp s q hw 1 - 1))) (mst σ (comesF now pg cp s q hw) (recP now past sv, aside, recS sv, rf) T)) : Con M_X8_job 150 150 (mst σ now (past, aside, sv, rf) T) [.ref 144, zI pg, zI cp, zI s, zI q, zI hw] Q := by
  refine V_entry ok_X8_job (Nat.le_refl _) (Nat.le_of_ble_eq_true rfl) (V_ls [(0, .ref 144), (1, zI pg), (2, zI cp), (3, zI s), (4, zI q), (5, zI hw)] ⟨rfl, rfl, rfl, rfl, rfl, rfl, trivial⟩ ?_)
  have h0 := hR.2.1
  have wr : 0 ≤ wny now pg q hw ∧ wny now pg q hw ≤ 4 := by unfold wny; (repeat' split) <;> omega
  refine V_iload_n (pc := 0) e_X8_job_0 rfl ?_
  refine V_cS1 (pc := 1) ca_8_70 e_X8_job_1 (by decide) (Nat.le_of_ble_eq_true rfl) (c_X8_isPages (by omega) (fun h_isPages => ?_) (fun h_isPages => ?_))
  · refine V_if_eq (pc := 4) e_X8_job_4 (by decide) (by decide) (fun h => absurd h (by decide)) (fun _ => ?_)
    refine V_iload_n (pc := 7) e_X8_job_7 rfl ?_
    refine V_cS1 (pc := 8) ca_8_73 e_X8_job_8 (by decide) (Nat.le_of_ble_eq_true rfl) (c_X8_isCopies (by omega) (fun h_isCopies => ?_) (fun h_isCopies => ?_))
    · refine V_if_eq (pc := 11) e_X8_job_11 (by decide) (by decide) (fun h => absurd h (by decide)) (fun _ => ?_)
      refine V_iload_n (pc := 14) e_X8_job_14 rfl ?_
      refine V_iload (pc := 15) e_X8_job_15 rfl ?_
      refine V_cS2 (pc := 17) ca_8_43 e_X8_job_17 (by decide) (Nat.le_of_ble_eq_true rfl) (c_X8_isPaper (by omega) (by omega) (fun h_isPaper => ?_) (fun h_isPaper => ?_))
      · refine V_if_eq (pc := 20) e_X8_job_20 (by decide) (by decide) (fun h => absurd h (by decide)) (fun _ => ?_)
        refine V_iload (pc := 23) e_X8_job_23 rfl ?_
        refine V_iconst (pc := 25) e_X8_job_25 ?_
        refine V_bipush (pc := 26) (by decide) e_X8_job_26 ?_
        refine V_cS3 (pc := 28) ca_8_32 e_X8_job_28 (by decide) (Nat.le_of_ble_eq_true rfl) (c_X8_in (by omega) (by omega) (by omega) (fun h_in => ?_) (fun h_in => ?_))
        · refine V_if_ne (pc := 31) e_X8_job_31 (by decide) (by decide) (fun _ => ?_) (fun h => absurd h (by decide))
          refine V_aload_n (pc := 36) e_X8_job_36 rfl (Or.inl ⟨_, rfl⟩) ?_
          refine V_iload_n (pc := 37) e_X8_job_37 rfl ?_
          refine V_iload (pc := 38) e_X8_job_38 rfl ?_
          refine V_iload (pc := 40) e_X8_job_40 rfl ?_
          refine V_cV3 (pc := 42) ca_8_76 e_X8_job_42 (by decide) (Nat.le_of_ble_eq_true rfl) (by decide) rfl (by decide) (c_X8_whyNot (by omega) (by omega) (by omega) (by omega) ?_)
          refine V_istore (pc := 45) e_X8_job_45 (by decide) ?_
          refine V_iload (pc := 47) e_X8_job_47 rfl ?_
          refine V_if_le (pc := 49) e_X8_job_49 (by decide) (by omega) (fun h49 => ?_) (fun h49 => ?_)
          · refine V_aload_n (pc := 61) e_X8_job_61 rfl (Or.inl ⟨_, rfl⟩) ?_
            refine V_getR (pc := 62) (q := 0) (j := 145) fx_8_7 e_X8_job_62 rfl rfl (by decide) rfl rfl ?_
            refine V_iconst (pc := 65) e_X8_job_65 ?_
            refine Vm_now (pc := 66) e_X8_job_66 (by decide) ?_
            refine V_bipush (pc := 67) (by decide) e_X8_job_67 ?_
            refine V_icmp_ne (pc := 69) e_X8_job_69 (by decide) (by omega) (by decide) (fun h69 => ?_) (fun h69 => ?_)
            · refine V_aload_n (pc := 75) e_X8_job_75 rfl (Or.inl ⟨_, rfl⟩) ?_
              refine V_cV0 (pc := 76) ca_8_40 e_X8_job_76 (by decide) (Nat.le_of_ble_eq_true rfl) (by decide) rfl (by decide) (c_X8_records (by omega) ?_)
              refine V_aload_n (pc := 79) e_X8_job_79 rfl (Or.inl ⟨_, rfl⟩) ?_
              refine V_iload_n (pc := 80) e_X8_job_80 rfl ?_
              refine V_iload_n (pc := 81) e_X8_job_81 rfl ?_
              refine V_iload_n (pc := 82) e_X8_job_82 rfl ?_
              refine V_iload (pc := 83) e_X8_job_83 rfl ?_
              refine V_iload (pc := 85) e_X8_job_85 rfl ?_
              refine V_cV5 (pc := 87) ca_8_80 e_X8_job_87 (by decide) (Nat.le_of_ble_eq_true rfl) (by decide) rfl (by decide) (c_X8_comes (by omega) ?_)
              refine V_ret (pc := 90) (v := some (zI _)) ⟨e_X8_job_90, _, rfl, rfl⟩ ?_
              exact k4 (by omega) (by omega) (by omega)
            · refine V_bipush (pc := 72) (by decide) e_X8_job_72 ?_
              refine V_ret (pc := 74) (v := some (zI _)) ⟨e_X8_job_74, _, rfl, rfl⟩ ?_
              exact k3 (by omega) (by omega) (by omega)
          · refine V_aload_n (pc := 52) e_X8_job_52 rfl (Or.inl ⟨_, rfl⟩) ?_
            refine V_iload (pc := 53) e_X8_job_53 rfl ?_
            refine Vm_prefused (pc := 55) fx_8_19 e_X8_job_55 ?_
            refine V_bipush (pc := 58) (by decide) e_X8_job_58 ?_
            refine V_ret (pc := 60) (v := some (zI _)) ⟨e_X8_job_60, _, rfl, rfl⟩ ?_
            exact k2 (by omega) (by omega)
        · refine V_if_ne (pc := 31) e_X8_job_31 (by decide) (by decide) (fun h => absurd (by decide) h) (fun _ => ?_)
          refine V_iconst (pc := 34) e_X8_job_34 ?_
          refine V_ret (pc := 35) (v := some (zI _)) ⟨e_X8_job_35, _, rfl, rfl⟩ ?_
          exact k1 (by omega)
      · refine V_if_eq (pc := 20) e_X8_job_20 (by decide) (by decide) (fun _ => ?_) (fun h => absurd (by decide) h)
        refine V_iconst (pc := 34) e_X8_job_34 ?_
        refine V_ret (pc := 35) (v := some (zI _)) ⟨e_X8_job_35, _, rfl, rfl⟩ ?_
        exact k1 (by omega)
    · refine V_if_eq (pc := 11) e_X8_job_11 (by decide) (by decide) (fun _ => ?_) (fun h => absurd (by decide) h)
      refine V_iconst (pc := 34) e_X8_job_34 ?_
      refine V_ret (pc := 35) (v := some (zI _)) ⟨e_X8_job_35, _, rfl, rfl⟩ ?_
      exact k1 (by omega)
  · refine V_if_eq (pc := 4) e_X8_job_4 (by decide) (by decide) (fun _ => ?_) (fun h => absurd (by decide) h)
    refine V_iconst (pc := 34) e_X8_job_34 ?_
    refine V_ret (pc := 35) (v := some (zI _)) ⟨e_X8_job_35, _, rfl, rfl⟩ ?_
    exact k1 (by omega)
theorem c_X8_hold {σ : Sto} {now past aside : Int → Int} {sv rf : Int} {T : TT} {Q : Option Value → Sto → Prop} {j w : Int} (hs : 0 ≤ sv ∧ sv ≤ 4) (hR : RR now) (r_j : -2147483648 ≤ j ∧ j < 2147483648) (r_w : -2147483648 ≤ w ∧ w < 2147483648) (k1 : ¬ (0 ≤ j ∧ 0 ≤ w ∧ w ≤ 1) → Q (some (zI (-1))) (mst σ now (past, aside, sv, rf) T)) (k2 : (0 ≤ j ∧ 0 ≤ w ∧ w ≤ 1) → plc now j < 0 → Q (some (zI (-4))) (mst σ now (past, aside, sv, rf) T)) (k3 : (0 ≤ j ∧ 0 ≤ w ∧ w ≤ 1) → 0 ≤ plc now j → w = 1 → Q (some (zI (now (85 + 10 * plc now j + 7)))) (mst σ (givF (up1 now (85 + 10 * plc now j + 7) 1) j) (recP now past sv, aside, recS sv, rf) T)) (k4 : (0 ≤ j ∧ 0 ≤ w ∧ w ≤ 1) → 0 ≤ plc now j → w = 0 → Q (some (zI (now (85 + 10 * plc now j + 7)))) (mst σ (up1 now (85 + 10 * plc now j + 7) 0) (recP now past sv, aside, recS sv, rf) T)) : Con M_X8_hold 150 150 (mst σ now (past, aside, sv, rf) T) [.ref 144, zI j, zI w] Q := by
  refine V_entry ok_X8_hold (Nat.le_refl _) (Nat.le_of_ble_eq_true rfl) (V_ls [(0, .ref 144), (1, zI j), (2, zI w)] ⟨rfl, rfl, rfl, trivial⟩ ?_)
  have h0 := hR.2.1
  have g5 := hR.1 5 (by decide) (by decide) (by decide)
  have g6 := hR.1 6 (by decide) (by decide) (by decide)
  have g7 := hR.1 7 (by decide) (by decide) (by decide)
  have ps := plc_sp now j
  refine V_iload_n (pc := 0) e_X8_hold_0 rfl ?_
  refine V_if_lt (pc := 1) e_X8_hold_1 (by decide) (by omega) (fun h1 => ?_) (fun h1 => ?_)
  · refine V_iconst (pc := 13) e_X8_hold_13 ?_
    refine V_ret (pc := 14) (v := some (zI _)) ⟨e_X8_hold_14, _, rfl, rfl⟩ ?_
    exact k1 (by omega)
  · refine V_iload_n (pc := 4) e_X8_hold_4 rfl ?_
    refine V_iconst (pc := 5) e_X8_hold_5 ?_
    refine V_iconst (pc := 6) e_X8_hold_6 ?_
    refine V_cS3 (pc := 7) ca_8_32 e_X8_hold_7 (by decide) (Nat.le_of_ble_eq_true rfl) (c_X8_in (by omega) (by omega) (by omega) (fun h_in => ?_) (fun h_in => ?_))
    · refine V_if_ne (pc := 10) e_X8_hold_10 (by decide) (by decide) (fun _ => ?_) (fun h => absurd h (by decide))
      refine V_aload_n (pc := 15) e_X8_hold_15 rfl (Or.inl ⟨_, rfl⟩) ?_
      refine V_iload_n (pc := 16) e_X8_hold_16 rfl ?_
      refine V_cV1 (pc := 17) ca_8_87 e_X8_hold_17 (by decide) (Nat.le_of_ble_eq_true rfl) (by decide) rfl (by decide) (c_X8_placeOf (by omega) hR ?_)
      refine V_istore_n (pc := 20) e_X8_hold_20 (by decide) ?_
      refine V_iload_n (pc := 21) e_X8_hold_21 rfl ?_
      refine V_if_ge (pc := 22) e_X8_hold_22 (by decide) (by omega) (fun h22 => ?_) (fun h22 => ?_)
      · refine V_aload_n (pc := 28) e_X8_hold_28 rfl (Or.inl ⟨_, rfl⟩) ?_
        refine V_iload_n (pc := 29) e_X8_hold_29 rfl ?_
        refine V_cS1 (pc := 30) ca_8_60 e_X8_hold_30 (by decide) (Nat.le_of_ble_eq_true rfl) (c_X8_jobAt ?_)
        refine V_bipush (pc := 33) (by decide) e_X8_hold_33 ?_
        refine V_iadd (pc := 35) e_X8_hold_35 ?_
        refine V_iload_n (pc := 36) e_X8_hold_36 rfl ?_
        refine V_cV2 (pc := 37) ca_8_54 e_X8_hold_37 (by decide) (Nat.le_of_ble_eq_true rfl) (by decide) rfl (by decide) (c_X8_puts (by omega) (by omega) ?_)
        refine V_istore (pc := 40) e_X8_hold_40 (by decide) ?_
        refine V_iload_n (pc := 42) e_X8_hold_42 rfl ?_
        refine V_iconst (pc := 43) e_X8_hold_43 ?_
        refine V_icmp_ne (pc := 44) e_X8_hold_44 (by decide) (by omega) (by decide) (fun h44 => ?_) (fun h44 => ?_)
        · refine V_iload (pc := 52) e_X8_hold_52 rfl ?_
          refine V_ret (pc := 54) (v := some (zI _)) ⟨e_X8_hold_54, _, rfl, rfl⟩ ?_
          first
            | (obtain rfl : w = 1 := by omega
               exact k3 (by omega) (by omega) rfl)
            | (obtain rfl : w = 0 := by omega
               exact k4 (by omega) (by omega) rfl)
        · refine V_aload_n (pc := 47) e_X8_hold_47 rfl (Or.inl ⟨_, rfl⟩) ?_
          refine V_iload_n (pc := 48) e_X8_hold_48 rfl ?_
          refine V_cV1 (pc := 49) ca_8_90 e_X8_hold_49 (by decide) (Nat.le_of_ble_eq_true rfl) (by decide) rfl (by decide) (c_X8_givesUp (now := up1 now (85 + 10 * plc now j + 7) w) (by omega) (by rw [up1_ne (by omega)]; exact g5) (by rw [up1_ne (by omega)]; exact g6) (by rw [up1_ne (by omega)]; exact g7) ?_)
          refine V_iload (pc := 52) e_X8_hold_52 rfl ?_
          refine V_ret (pc := 54) (v := some (zI _)) ⟨e_X8_hold_54, _, rfl, rfl⟩ ?_
          first
            | (obtain rfl : w = 1 := by omega
               exact k3 (by omega) (by omega) rfl)
            | (obtain rfl : w = 0 := by omega
               exact k4 (by omega) (by omega) rfl)
      · refine V_bipush (pc := 25) (by decide) e_X8_hold_25 ?_
        refine V_ret (pc := 27) (v := some (zI _)) ⟨e_X8_hold_27, _, rfl, rfl⟩ ?_
        exact k2 (by omega) (by omega)
    · refine V_if_ne (pc := 10) e_X8_hold_10 (by decide) (by decide) (fun h => absurd (by decide) h) (fun _ => ?_)
      refine V_iconst (pc := 13) e_X8_hold_13 ?_
      refine V_ret (pc := 14) (v := some (zI _)) ⟨e_X8_hold_14, _, rfl, rfl⟩ ?_
      exact k1 (by omega)
theorem givF_0 {r : Int → Int} {j : Int} {k : Int} (h : k < 4 ∨ (7 < k ∧ k < 18) ∨ 18 < k) : givF r j k = r k := by
  unfold givF stayF
  rw [up1_ne (by omega)]
  split
  · rw [endsF_at (by omega)]
    exact up1_ne (by omega)
  · rfl
theorem c_X8_cancel {σ : Sto} {now past aside : Int → Int} {sv rf : Int} {T : TT} {Q : Option Value → Sto → Prop} {j : Int} (hs : 0 ≤ sv ∧ sv ≤ 4) (hR : RR now) (r_j : -2147483648 ≤ j ∧ j < 2147483648) (k1 : j < 0 → Q (some (zI (-1))) (mst σ now (past, aside, sv, rf) T)) (k2 : 0 ≤ j → plc now j < 0 → Q (some (zI (-4))) (mst σ now (past, aside, sv, rf) T)) (k3 : 0 ≤ j → 0 ≤ plc now j → Q (some (zI (jf now (plc now j) 8))) (mst σ (inc (goesF (givF now j) (plc now j)) 22) (recP now past sv, aside, recS sv, rf) T)) : Con M_X8_cancel 150 150 (mst σ now (past, aside, sv, rf) T) [.ref 144, zI j] Q := by
  refine V_entry ok_X8_cancel (Nat.le_refl _) (Nat.le_of_ble_eq_true rfl) (V_ls [(0, .ref 144), (1, zI j)] ⟨rfl, rfl, trivial⟩ ?_)
  have h0 := hR.2.1
  have g5 := hR.1 5 (by decide) (by decide) (by decide)
  have g6 := hR.1 6 (by decide) (by decide) (by decide)
  have g7 := hR.1 7 (by decide) (by decide) (by decide)
  have ps := plc_sp now j
  refine V_iload_n (pc := 0) e_X8_cancel_0 rfl ?_
  refine V_if_ge (pc := 1) e_X8_cancel_1 (by decide) (by omega) (fun h1 => ?_) (fun h1 => ?_)
  · refine V_aload_n (pc := 6) e_X8_cancel_6 rfl (Or.inl ⟨_, rfl⟩) ?_
    refine V_iload_n (pc := 7) e_X8_cancel_7 rfl ?_
    refine V_cV1 (pc := 8) ca_8_87 e_X8_cancel_8 (by decide) (Nat.le_of_ble_eq_true rfl) (by decide) rfl (by decide) (c_X8_placeOf (by omega) hR ?_)
    refine V_istore_n (pc := 11) e_X8_cancel_11 (by decide) ?_
    refine V_iload_n (pc := 12) e_X8_cancel_12 rfl ?_
    refine V_if_ge (pc := 13) e_X8_cancel_13 (by decide) (by omega) (fun h13 => ?_) (fun h13 => ?_)
    · refine V_aload_n (pc := 19) e_X8_cancel_19 rfl (Or.inl ⟨_, rfl⟩) ?_
      refine V_cV0 (pc := 20) ca_8_40 e_X8_cancel_20 (by decide) (Nat.le_of_ble_eq_true rfl) (by decide) rfl (by decide) (c_X8_records (by omega) ?_)
      refine V_aload_n (pc := 23) e_X8_cancel_23 rfl (Or.inl ⟨_, rfl⟩) ?_
      refine V_iload_n (pc := 24) e_X8_cancel_24 rfl ?_
      refine V_bipush (pc := 25) (by decide) e_X8_cancel_25 ?_
      refine V_cV2 (pc := 27) ca_8_64 e_X8_cancel_27 (by decide) (Nat.le_of_ble_eq_true rfl) (by decide) rfl (by decide) (c_X8_of (by omega) ?_)
      refine V_istore_n (pc := 30) e_X8_cancel_30 (by decide) ?_
      refine V_aload_n (pc := 31) e_X8_cancel_31 rfl (Or.inl ⟨_, rfl⟩) ?_
      refine V_iload_n (pc := 32) e_X8_cancel_32 rfl ?_
      refine V_cV1 (pc := 33) ca_8_90 e_X8_cancel_33 (by decide) (Nat.le_of_ble_eq_true rfl) (by decide) rfl (by decide) (c_X8_givesUp (by omega) g5 g6 g7 ?_)
      refine V_aload_n (pc := 36) e_X8_cancel_36 rfl (Or.inl ⟨_, rfl⟩) ?_
      refine V_iload_n (pc := 37) e_X8_cancel_37 rfl ?_
      refine V_cV1 (pc := 38) ca_8_94 e_X8_cancel_38 (by decide) (Nat.le_of_ble_eq_true rfl) (by decide) rfl (by decide) (c_X8_goesJob (now := givF now j) (by rw [givF_0 (by decide)]; omega) (by rw [givF_0 (by decide)]; omega) ?_)
      refine V_aload_n (pc := 41) e_X8_cancel_41 rfl (Or.inl ⟨_, rfl⟩) ?_
      refine V_getR (pc := 42) (q := 0) (j := 145) fx_8_7 e_X8_cancel_42 rfl rfl (by decide) rfl rfl ?_
      refine V_bipush (pc := 45) (by decide) e_X8_cancel_45 ?_
      refine V_dup2 (pc := 47) e_X8_cancel_47 rfl rfl ?_
      refine Vm_now (pc := 48) e_X8_cancel_48 (by decide) ?_
      refine V_iconst (pc := 49) e_X8_cancel_49 ?_
      refine V_iadd (pc := 50) e_X8_cancel_50 ?_
      refine Vm_nowS (pc := 51) e_X8_cancel_51 (by decide) ?_
      refine V_iload_n (pc := 52) e_X8_cancel_52 rfl ?_
      refine V_ret (pc := 53) (v := some (zI _)) ⟨e_X8_cancel_53, _, rfl, rfl⟩ ?_
      exact k3 (by omega) (by omega)
    · refine V_bipush (pc := 16) (by decide) e_X8_cancel_16 ?_
      refine V_ret (pc := 18) (v := some (zI _)) ⟨e_X8_cancel_18, _, rfl, rfl⟩ ?_
      exact k2 (by omega) (by omega)
  · refine V_iconst (pc := 4) e_X8_cancel_4 ?_
    refine V_ret (pc := 5) (v := some (zI _)) ⟨e_X8_cancel_5, _, rfl, rfl⟩ ?_
    exact k1 (by omega)
theorem c_X8_priority {σ : Sto} {now past aside : Int → Int} {sv rf : Int} {T : TT} {Q : Option Value → Sto → Prop} {j w : Int} (hs : 0 ≤ sv ∧ sv ≤ 4) (hR : RR now) (r_j : -2147483648 ≤ j ∧ j < 2147483648) (r_w : -2147483648 ≤ w ∧ w < 2147483648) (k1 : ¬ (0 ≤ j ∧ 0 ≤ w ∧ w ≤ 9) → Q (some (zI (-1))) (mst σ now (past, aside, sv, rf) T)) (k2 : (0 ≤ j ∧ 0 ≤ w ∧ w ≤ 9) → plc now j < 0 → Q (some (zI (-4))) (mst σ now (past, aside, sv, rf) T)) (k3 : (0 ≤ j ∧ 0 ≤ w ∧ w ≤ 9) → 0 ≤ plc now j → Q (some (zI (now (85 + 10 * plc now j + 6)))) (mst σ (up1 now (85 + 10 * plc now j + 6) w) (recP now past sv, aside, recS sv, rf) T)) : Con M_X8_priority 150 150 (mst σ now (past, aside, sv, rf) T) [.ref 144, zI j, zI w] Q := by
  refine V_entry ok_X8_priority (Nat.le_refl _) (Nat.le_of_ble_eq_true rfl) (V_ls [(0, .ref 144), (1, zI j), (2, zI w)] ⟨rfl, rfl, rfl, trivial⟩ ?_)
  have h0 := hR.2.1
  have ps := plc_sp now j
  refine V_iload_n (pc := 0) e_X8_priority_0 rfl ?_
  refine V_if_lt (pc := 1) e_X8_priority_1 (by decide) (by omega) (fun h1 => ?_) (fun h1 => ?_)
  · refine V_iconst (pc := 14) e_X8_priority_14 ?_
    refine V_ret (pc := 15) (v := some (zI _)) ⟨e_X8_priority_15, _, rfl, rfl⟩ ?_
    exact k1 (by omega)
  · refine V_iload_n (pc := 4) e_X8_priority_4 rfl ?_
    refine V_iconst (pc := 5) e_X8_priority_5 ?_
    refine V_bipush (pc := 6) (by decide) e_X8_priority_6 ?_
    refine V_cS3 (pc := 8) ca_8_32 e_X8_priority_8 (by decide) (Nat.le_of_ble_eq_true rfl) (c_X8_in (by omega) (by omega) (by omega) (fun h_in => ?_) (fun h_in => ?_))
    · refine V_if_ne (pc := 11) e_X8_priority_11 (by decide) (by decide) (fun _ => ?_) (fun h => absurd h (by decide))
      refine V_aload_n (pc := 16) e_X8_priority_16 rfl (Or.inl ⟨_, rfl⟩) ?_
      refine V_iload_n (pc := 17) e_X8_priority_17 rfl ?_
      refine V_cV1 (pc := 18) ca_8_87 e_X8_priority_18 (by decide) (Nat.le_of_ble_eq_true rfl) (by decide) rfl (by decide) (c_X8_placeOf (by omega) hR ?_)
      refine V_istore_n (pc := 21) e_X8_priority_21 (by decide) ?_
      refine V_iload_n (pc := 22) e_X8_priority_22 rfl ?_
      refine V_if_ge (pc := 23) e_X8_priority_23 (by decide) (by omega) (fun h23 => ?_) (fun h23 => ?_)
      · refine V_aload_n (pc := 31) e_X8_priority_31 rfl (Or.inl ⟨_, rfl⟩) ?_
        refine V_iload_n (pc := 32) e_X8_priority_32 rfl ?_
        refine V_cS1 (pc := 33) ca_8_60 e_X8_priority_33 (by decide) (Nat.le_of_ble_eq_true rfl) (c_X8_jobAt ?_)
        refine V_bipush (pc := 36) (by decide) e_X8_priority_36 ?_
        refine V_iadd (pc := 38) e_X8_priority_38 ?_
        refine V_iload_n (pc := 39) e_X8_priority_39 rfl ?_
        refine V_cV2 (pc := 40) ca_8_54 e_X8_priority_40 (by decide) (Nat.le_of_ble_eq_true rfl) (by decide) rfl (by decide) (c_X8_puts (by omega) (by omega) ?_)
        refine V_ret (pc := 43) (v := some (zI _)) ⟨e_X8_priority_43, _, rfl, rfl⟩ ?_
        first | exact k2 (by omega) (by omega) | exact k3 (by omega) (by omega)
      · refine V_bipush (pc := 26) (by decide) e_X8_priority_26 ?_
        refine V_goto (pc := 28) e_X8_priority_28 (by decide) ?_
        refine V_ret (pc := 43) (v := some (zI _)) ⟨e_X8_priority_43, _, rfl, rfl⟩ ?_
        first | exact k2 (by omega) (by omega) | exact k3 (by omega) (by omega)
    · refine V_if_ne (pc := 11) e_X8_priority_11 (by decide) (by decide) (fun h => absurd (by decide) h) (fun _ => ?_)
      refine V_iconst (pc := 14) e_X8_priority_14 ?_
      refine V_ret (pc := 15) (v := some (zI _)) ⟨e_X8_priority_15, _, rfl, rfl⟩ ?_
      exact k1 (by omega)
theorem c_X8_jobInfo {σ : Sto} {now : Int → Int} {P : PT} {T : TT} {Q : Option Value → Sto → Prop} {j w : Int} (hR : RR now) (r_j : -2147483648 ≤ j ∧ j < 2147483648) (r_w : -2147483648 ≤ w ∧ w < 2147483648) (k1 : ¬ (0 ≤ j ∧ 0 ≤ w ∧ w ≤ 12) → Q (some (zI (-1))) (mst σ now P T)) (k2 : (0 ≤ j ∧ 0 ≤ w ∧ w ≤ 12) → plc now j < 0 → Q (some (zI (-4))) (mst σ now P T)) (k3 : (0 ≤ j ∧ 0 ≤ w ∧ w ≤ 12) → 0 ≤ plc now j → Q (some (zI (telF now (plc now j) w))) (mst σ now P T)) : Con M_X8_jobInfo 150 150 (mst σ now P T) [.ref 144, zI j, zI w] Q := by
  refine V_entry ok_X8_jobInfo (Nat.le_refl _) (Nat.le_of_ble_eq_true rfl) (V_ls [(0, .ref 144), (1, zI j), (2, zI w)] ⟨rfl, rfl, rfl, trivial⟩ ?_)
  have h0 := hR.2.1
  have ps := plc_sp now j
  refine V_iload_n (pc := 0) e_X8_jobInfo_0 rfl ?_
  refine V_if_lt (pc := 1) e_X8_jobInfo_1 (by decide) (by omega) (fun h1 => ?_) (fun h1 => ?_)
  · refine V_iconst (pc := 14) e_X8_jobInfo_14 ?_
    refine V_ret (pc := 15) (v := some (zI _)) ⟨e_X8_jobInfo_15, _, rfl, rfl⟩ ?_
    exact k1 (by omega)
  · refine V_iload_n (pc := 4) e_X8_jobInfo_4 rfl ?_
    refine V_iconst (pc := 5) e_X8_jobInfo_5 ?_
    refine V_bipush (pc := 6) (by decide) e_X8_jobInfo_6 ?_
    refine V_cS3 (pc := 8) ca_8_32 e_X8_jobInfo_8 (by decide) (Nat.le_of_ble_eq_true rfl) (c_X8_in (by omega) (by omega) (by omega) (fun h_in => ?_) (fun h_in => ?_))
    · refine V_if_ne (pc := 11) e_X8_jobInfo_11 (by decide) (by decide) (fun _ => ?_) (fun h => absurd h (by decide))
      refine V_aload_n (pc := 16) e_X8_jobInfo_16 rfl (Or.inl ⟨_, rfl⟩) ?_
      refine V_iload_n (pc := 17) e_X8_jobInfo_17 rfl ?_
      refine V_cV1 (pc := 18) ca_8_87 e_X8_jobInfo_18 (by decide) (Nat.le_of_ble_eq_true rfl) (by decide) rfl (by decide) (c_X8_placeOf (by omega) hR ?_)
      refine V_istore_n (pc := 21) e_X8_jobInfo_21 (by decide) ?_
      refine V_iload_n (pc := 22) e_X8_jobInfo_22 rfl ?_
      refine V_if_ge (pc := 23) e_X8_jobInfo_23 (by decide) (by omega) (fun h23 => ?_) (fun h23 => ?_)
      · have hJ := hR.2.2.2 _ (show 0 ≤ plc now j by omega) (by omega)
        refine V_aload_n (pc := 31) e_X8_jobInfo_31 rfl (Or.inl ⟨_, rfl⟩) ?_
        refine V_iload_n (pc := 32) e_X8_jobInfo_32 rfl ?_
        refine V_iload_n (pc := 33) e_X8_jobInfo_33 rfl ?_
        refine V_cV2 (pc := 34) ca_8_112 e_X8_jobInfo_34 (by decide) (Nat.le_of_ble_eq_true rfl) (by decide) rfl (by decide) (c_X8_tellJob (by assumption) (by omega) ?_)
        refine V_ret (pc := 37) (v := some (zI _)) ⟨e_X8_jobInfo_37, _, rfl, rfl⟩ ?_
        first | exact k2 (by omega) (by omega) | exact k3 (by omega) (by omega)
      · refine V_bipush (pc := 26) (by decide) e_X8_jobInfo_26 ?_
        refine V_goto (pc := 28) e_X8_jobInfo_28 (by decide) ?_
        refine V_ret (pc := 37) (v := some (zI _)) ⟨e_X8_jobInfo_37, _, rfl, rfl⟩ ?_
        first | exact k2 (by omega) (by omega) | exact k3 (by omega) (by omega)
    · refine V_if_ne (pc := 11) e_X8_jobInfo_11 (by decide) (by decide) (fun h => absurd (by decide) h) (fun _ => ?_)
      refine V_iconst (pc := 14) e_X8_jobInfo_14 ?_
      refine V_ret (pc := 15) (v := some (zI _)) ⟨e_X8_jobInfo_15, _, rfl, rfl⟩ ?_
      exact k1 (by omega)
theorem c_X8_account {σ : Sto} {now : Int → Int} {P : PT} {T : TT} {Q : Option Value → Sto → Prop} {w : Int} (r_w : -2147483648 ≤ w ∧ w < 2147483648) (k1 : ¬ (0 ≤ w ∧ w ≤ 8) → Q (some (zI (-1))) (mst σ now P T)) (k2 : 0 ≤ w ∧ w ≤ 8 → Q (some (zI (now (16 + w)))) (mst σ now P T)) : Con M_X8_account 150 150 (mst σ now P T) [.ref 144, zI w] Q := by
  refine V_entry ok_X8_account (Nat.le_refl _) (Nat.le_of_ble_eq_true rfl) (V_ls [(0, .ref 144), (1, zI w)] ⟨rfl, rfl, trivial⟩ ?_)
  refine V_iload_n (pc := 0) e_X8_account_0 rfl ?_
  refine V_iconst (pc := 1) e_X8_account_1 ?_
  refine V_bipush (pc := 2) (by decide) e_X8_account_2 ?_
  refine V_cS3 (pc := 4) ca_8_32 e_X8_account_4 (by decide) (Nat.le_of_ble_eq_true rfl) (c_X8_in (by omega) (by omega) (by omega) (fun h_in => ?_) (fun h_in => ?_))
  · refine V_if_eq (pc := 7) e_X8_account_7 (by decide) (by decide) (fun h => absurd h (by decide)) (fun _ => ?_)
    refine V_aload_n (pc := 10) e_X8_account_10 rfl (Or.inl ⟨_, rfl⟩) ?_
    refine V_getR (pc := 11) (q := 0) (j := 145) fx_8_7 e_X8_account_11 rfl rfl (by decide) rfl rfl ?_
    refine V_bipush (pc := 14) (by decide) e_X8_account_14 ?_
    refine V_iload_n (pc := 16) e_X8_account_16 rfl ?_
    refine V_iadd (pc := 17) e_X8_account_17 ?_
    refine Vm_now (pc := 18) e_X8_account_18 (by omega) ?_
    refine V_goto (pc := 19) e_X8_account_19 (by decide) ?_
    refine V_ret (pc := 23) (v := some (zI _)) ⟨e_X8_account_23, _, rfl, rfl⟩ ?_
    first | exact k1 (by omega) | exact k2 (by omega)
  · refine V_if_eq (pc := 7) e_X8_account_7 (by decide) (by decide) (fun _ => ?_) (fun h => absurd (by decide) h)
    refine V_iconst (pc := 22) e_X8_account_22 ?_
    refine V_ret (pc := 23) (v := some (zI _)) ⟨e_X8_account_23, _, rfl, rfl⟩ ?_
    first | exact k1 (by omega) | exact k2 (by omega)
theorem c_X8_paper {σ : Sto} {now : Int → Int} {P : PT} {T : TT} {Q : Option Value → Sto → Prop} {j w : Int} (h9 : 0 ≤ now 9 ∧ now 9 ≤ 16) (r_j : -2147483648 ≤ j ∧ j < 2147483648) (r_w : -2147483648 ≤ w ∧ w < 2147483648) (k1 : ¬ (0 ≤ j ∧ 0 ≤ w ∧ w ≤ 2) → Q (some (zI (-1))) (mst σ now P T)) (k2 : (0 ≤ j ∧ 0 ≤ w ∧ w ≤ 2) → now 9 ≤ j → Q (some (zI (-4))) (mst σ now P T)) (k3 : (0 ≤ j ∧ 0 ≤ w ∧ w ≤ 2) → j < now 9 → Q (some (zI (now (37 + 3 * j + w)))) (mst σ now P T)) : Con M_X8_paper 150 150 (mst σ now P T) [.ref 144, zI j, zI w] Q := by
  refine V_entry ok_X8_paper (Nat.le_refl _) (Nat.le_of_ble_eq_true rfl) (V_ls [(0, .ref 144), (1, zI j), (2, zI w)] ⟨rfl, rfl, rfl, trivial⟩ ?_)
  refine V_iload_n (pc := 0) e_X8_paper_0 rfl ?_
  refine V_if_lt (pc := 1) e_X8_paper_1 (by decide) (by omega) (fun h1 => ?_) (fun h1 => ?_)
  · refine V_iconst (pc := 13) e_X8_paper_13 ?_
    refine V_ret (pc := 14) (v := some (zI _)) ⟨e_X8_paper_14, _, rfl, rfl⟩ ?_
    exact k1 (by omega)
  · refine V_iload_n (pc := 4) e_X8_paper_4 rfl ?_
    refine V_iconst (pc := 5) e_X8_paper_5 ?_
    refine V_iconst (pc := 6) e_X8_paper_6 ?_
    refine V_cS3 (pc := 7) ca_8_32 e_X8_paper_7 (by decide) (Nat.le_of_ble_eq_true rfl) (c_X8_in (by omega) (by omega) (by omega) (fun h_in => ?_) (fun h_in => ?_))
    · refine V_if_ne (pc := 10) e_X8_paper_10 (by decide) (by decide) (fun _ => ?_) (fun h => absurd h (by decide))
      refine V_iload_n (pc := 15) e_X8_paper_15 rfl ?_
      refine V_aload_n (pc := 16) e_X8_paper_16 rfl (Or.inl ⟨_, rfl⟩) ?_
      refine V_getR (pc := 17) (q := 0) (j := 145) fx_8_7 e_X8_paper_17 rfl rfl (by decide) rfl rfl ?_
      refine V_bipush (pc := 20) (by decide) e_X8_paper_20 ?_
      refine Vm_now (pc := 22) e_X8_paper_22 (by decide) ?_
      refine V_icmp_lt (pc := 23) e_X8_paper_23 (by decide) (by omega) (by omega) (fun h23 => ?_) (fun h23 => ?_)
      · refine V_aload_n (pc := 31) e_X8_paper_31 rfl (Or.inl ⟨_, rfl⟩) ?_
        refine V_getR (pc := 32) (q := 0) (j := 145) fx_8_7 e_X8_paper_32 rfl rfl (by decide) rfl rfl ?_
        refine V_bipush (pc := 35) (by decide) e_X8_paper_35 ?_
        refine V_iconst (pc := 37) e_X8_paper_37 ?_
        refine V_iload_n (pc := 38) e_X8_paper_38 rfl ?_
        refine V_imul (pc := 39) e_X8_paper_39 ?_
        refine V_iadd (pc := 40) e_X8_paper_40 ?_
        refine V_iload_n (pc := 41) e_X8_paper_41 rfl ?_
        refine V_iadd (pc := 42) e_X8_paper_42 ?_
        refine Vm_now (pc := 43) e_X8_paper_43 (by omega) ?_
        refine V_ret (pc := 44) (v := some (zI _)) ⟨e_X8_paper_44, _, rfl, rfl⟩ ?_
        first | exact k2 (by omega) (by omega) | exact k3 (by omega) (by omega)
      · refine V_bipush (pc := 26) (by decide) e_X8_paper_26 ?_
        refine V_goto (pc := 28) e_X8_paper_28 (by decide) ?_
        refine V_ret (pc := 44) (v := some (zI _)) ⟨e_X8_paper_44, _, rfl, rfl⟩ ?_
        first | exact k2 (by omega) (by omega) | exact k3 (by omega) (by omega)
    · refine V_if_ne (pc := 10) e_X8_paper_10 (by decide) (by decide) (fun h => absurd (by decide) h) (fun _ => ?_)
      refine V_iconst (pc := 13) e_X8_paper_13 ?_
      refine V_ret (pc := 14) (v := some (zI _)) ⟨e_X8_paper_14, _, rfl, rfl⟩ ?_
      exact k1 (by omega)
def cntF (r : Int → Int) (sv ln w : Int) : Int := if w = 0 then r 0 else if w = 1 then hdN r (r 0).toNat else if w = 2 then r 1 else if w = 3 then r 2 else if w = 4 then r 3 else if w = 5 then r 4 else if w = 6 then r 5 else if w = 7 then r 6 else if w = 14 then r 9 else if w = 15 then sv else if w = 16 then ln else if 8 ≤ w ∧ w ≤ 13 then r (10 + w - 8) else -1
theorem c_X8_count {σ : Sto} {now past aside text read : Int → Int} {sv rf len spot fat fwy many : Int} {Q : Option Value → Sto → Prop} {w : Int} (hR : RR now) (r_w : -2147483648 ≤ w ∧ w < 2147483648) (k : Q (some (zI (cntF now sv len w))) (mst σ now (past, aside, sv, rf) (text, read, len, spot, fat, fwy, many))) : Con M_X8_count 150 150 (mst σ now (past, aside, sv, rf) (text, read, len, spot, fat, fwy, many)) [.ref 144, zI w] Q := by
  refine V_entry ok_X8_count (Nat.le_refl _) (Nat.le_of_ble_eq_true rfl) (V_ls [(0, .ref 144), (1, zI w)] ⟨rfl, rfl, trivial⟩ ?_)
  refine V_iload_n (pc := 0) e_X8_count_0 rfl ?_
  refine V_table (pc := 1) e_X8_count_1 (by decide) (by decide) (by decide) (by omega) (fun h1 => ?_) (fun j o h1 ho => ?_)
  · refine V_iload_n (pc := 157) e_X8_count_157 rfl ?_
    refine V_bipush (pc := 158) (by decide) e_X8_count_158 ?_
    refine V_bipush (pc := 160) (by decide) e_X8_count_160 ?_
    refine V_cS3 (pc := 162) ca_8_32 e_X8_count_162 (by decide) (Nat.le_of_ble_eq_true rfl) (c_X8_in (by omega) (by omega) (by omega) (fun h_in => ?_) (fun h_in => ?_))
    · refine V_if_eq (pc := 165) e_X8_count_165 (by decide) (by decide) (fun h => absurd h (by decide)) (fun _ => ?_)
      refine V_aload_n (pc := 168) e_X8_count_168 rfl (Or.inl ⟨_, rfl⟩) ?_
      refine V_getR (pc := 169) (q := 0) (j := 145) fx_8_7 e_X8_count_169 rfl rfl (by decide) rfl rfl ?_
      refine V_bipush (pc := 172) (by decide) e_X8_count_172 ?_
      refine V_iload_n (pc := 174) e_X8_count_174 rfl ?_
      refine V_iadd (pc := 175) e_X8_count_175 ?_
      refine V_bipush (pc := 176) (by decide) e_X8_count_176 ?_
      refine V_isub (pc := 178) e_X8_count_178 ?_
      refine Vm_now (pc := 179) e_X8_count_179 (by omega) ?_
      refine V_goto (pc := 180) e_X8_count_180 (by decide) ?_
      refine V_ret (pc := 184) (v := some (zI _)) ⟨e_X8_count_184, _, rfl, rfl⟩ ?_
      first | (exfalso; omega) | exact Qv k (by unfold cntF; rw [if_neg (by omega), if_neg (by omega), if_neg (by omega), if_neg (by omega), if_neg (by omega), if_neg (by omega), if_neg (by omega), if_neg (by omega), if_neg (by omega), if_neg (by omega), if_neg (by omega)]; first | rw [if_pos (by omega)] | rw [if_neg (by omega)]) rfl
    · refine V_if_eq (pc := 165) e_X8_count_165 (by decide) (by decide) (fun _ => ?_) (fun h => absurd (by decide) h)
      refine V_iconst (pc := 183) e_X8_count_183 ?_
      refine V_ret (pc := 184) (v := some (zI _)) ⟨e_X8_count_184, _, rfl, rfl⟩ ?_
      first | (exfalso; omega) | exact Qv k (by unfold cntF; rw [if_neg (by omega), if_neg (by omega), if_neg (by omega), if_neg (by omega), if_neg (by omega), if_neg (by omega), if_neg (by omega), if_neg (by omega), if_neg (by omega), if_neg (by omega), if_neg (by omega)]; first | rw [if_pos (by omega)] | rw [if_neg (by omega)]) rfl
  · match j, ho with
    | 0, ho =>
      obtain rfl := Option.some.inj ho
      refine V_aload_n (pc := 84) e_X8_count_84 rfl (Or.inl ⟨_, rfl⟩) ?_
      refine V_getR (pc := 85) (q := 0) (j := 145) fx_8_7 e_X8_count_85 rfl rfl (by decide) rfl rfl ?_
      refine V_iconst (pc := 88) e_X8_count_88 ?_
      refine Vm_now (pc := 89) e_X8_count_89 (by decide) ?_
      refine V_ret (pc := 90) (v := some (zI _)) ⟨e_X8_count_90, _, rfl, rfl⟩ ?_
      obtain rfl : w = 0 := by omega
      exact Qv k rfl rfl
    | 1, ho =>
      obtain rfl := Option.some.inj ho
      refine V_aload_n (pc := 91) e_X8_count_91 rfl (Or.inl ⟨_, rfl⟩) ?_
      refine V_cV0 (pc := 92) ca_8_163 e_X8_count_92 (by decide) (Nat.le_of_ble_eq_true rfl) (by decide) rfl (by decide) (c_X8_heldOnes hR ?_)
      refine V_ret (pc := 95) (v := some (zI _)) ⟨e_X8_count_95, _, rfl, rfl⟩ ?_
      obtain rfl : w = 1 := by omega
      exact Qv k rfl rfl
    | 2, ho =>
      obtain rfl := Option.some.inj ho
      refine V_aload_n (pc := 96) e_X8_count_96 rfl (Or.inl ⟨_, rfl⟩) ?_
      refine V_getR (pc := 97) (q := 0) (j := 145) fx_8_7 e_X8_count_97 rfl rfl (by decide) rfl rfl ?_
      refine V_iconst (pc := 100) e_X8_count_100 ?_
      refine Vm_now (pc := 101) e_X8_count_101 (by decide) ?_
      refine V_ret (pc := 102) (v := some (zI _)) ⟨e_X8_count_102, _, rfl, rfl⟩ ?_
      obtain rfl : w = 2 := by omega
      exact Qv k rfl rfl
    | 3, ho =>
      obtain rfl := Option.some.inj ho
      refine V_aload_n (pc := 103) e_X8_count_103 rfl (Or.inl ⟨_, rfl⟩) ?_
      refine V_getR (pc := 104) (q := 0) (j := 145) fx_8_7 e_X8_count_104 rfl rfl (by decide) rfl rfl ?_
      refine V_iconst (pc := 107) e_X8_count_107 ?_
      refine Vm_now (pc := 108) e_X8_count_108 (by decide) ?_
      refine V_ret (pc := 109) (v := some (zI _)) ⟨e_X8_count_109, _, rfl, rfl⟩ ?_
      obtain rfl : w = 3 := by omega
      exact Qv k rfl rfl
    | 4, ho =>
      obtain rfl := Option.some.inj ho
      refine V_aload_n (pc := 110) e_X8_count_110 rfl (Or.inl ⟨_, rfl⟩) ?_
      refine V_getR (pc := 111) (q := 0) (j := 145) fx_8_7 e_X8_count_111 rfl rfl (by decide) rfl rfl ?_
      refine V_iconst (pc := 114) e_X8_count_114 ?_
      refine Vm_now (pc := 115) e_X8_count_115 (by decide) ?_
      refine V_ret (pc := 116) (v := some (zI _)) ⟨e_X8_count_116, _, rfl, rfl⟩ ?_
      obtain rfl : w = 4 := by omega
      exact Qv k rfl rfl
    | 5, ho =>
      obtain rfl := Option.some.inj ho
      refine V_aload_n (pc := 117) e_X8_count_117 rfl (Or.inl ⟨_, rfl⟩) ?_
      refine V_getR (pc := 118) (q := 0) (j := 145) fx_8_7 e_X8_count_118 rfl rfl (by decide) rfl rfl ?_
      refine V_iconst (pc := 121) e_X8_count_121 ?_
      refine Vm_now (pc := 122) e_X8_count_122 (by decide) ?_
      refine V_ret (pc := 123) (v := some (zI _)) ⟨e_X8_count_123, _, rfl, rfl⟩ ?_
      obtain rfl : w = 5 := by omega
      exact Qv k rfl rfl
    | 6, ho =>
      obtain rfl := Option.some.inj ho
      refine V_aload_n (pc := 124) e_X8_count_124 rfl (Or.inl ⟨_, rfl⟩) ?_
      refine V_getR (pc := 125) (q := 0) (j := 145) fx_8_7 e_X8_count_125 rfl rfl (by decide) rfl rfl ?_
      refine V_iconst (pc := 128) e_X8_count_128 ?_
      refine Vm_now (pc := 129) e_X8_count_129 (by decide) ?_
      refine V_ret (pc := 130) (v := some (zI _)) ⟨e_X8_count_130, _, rfl, rfl⟩ ?_
      obtain rfl : w = 6 := by omega
      exact Qv k rfl rfl
    | 7, ho =>
      obtain rfl := Option.some.inj ho
      refine V_aload_n (pc := 131) e_X8_count_131 rfl (Or.inl ⟨_, rfl⟩) ?_
      refine V_getR (pc := 132) (q := 0) (j := 145) fx_8_7 e_X8_count_132 rfl rfl (by decide) rfl rfl ?_
      refine V_bipush (pc := 135) (by decide) e_X8_count_135 ?_
      refine Vm_now (pc := 137) e_X8_count_137 (by decide) ?_
      refine V_ret (pc := 138) (v := some (zI _)) ⟨e_X8_count_138, _, rfl, rfl⟩ ?_
      obtain rfl : w = 7 := by omega
      exact Qv k rfl rfl
    | 8, ho =>
      obtain rfl := Option.some.inj ho
      refine V_iload_n (pc := 157) e_X8_count_157 rfl ?_
      refine V_bipush (pc := 158) (by decide) e_X8_count_158 ?_
      refine V_bipush (pc := 160) (by decide) e_X8_count_160 ?_
      refine V_cS3 (pc := 162) ca_8_32 e_X8_count_162 (by decide) (Nat.le_of_ble_eq_true rfl) (c_X8_in (by omega) (by omega) (by omega) (fun h_in => ?_) (fun h_in => ?_))
      · refine V_if_eq (pc := 165) e_X8_count_165 (by decide) (by decide) (fun h => absurd h (by decide)) (fun _ => ?_)
        refine V_aload_n (pc := 168) e_X8_count_168 rfl (Or.inl ⟨_, rfl⟩) ?_
        refine V_getR (pc := 169) (q := 0) (j := 145) fx_8_7 e_X8_count_169 rfl rfl (by decide) rfl rfl ?_
        refine V_bipush (pc := 172) (by decide) e_X8_count_172 ?_
        refine V_iload_n (pc := 174) e_X8_count_174 rfl ?_
        refine V_iadd (pc := 175) e_X8_count_175 ?_
        refine V_bipush (pc := 176) (by decide) e_X8_count_176 ?_
        refine V_isub (pc := 178) e_X8_count_178 ?_
        refine Vm_now (pc := 179) e_X8_count_179 (by omega) ?_
        refine V_goto (pc := 180) e_X8_count_180 (by decide) ?_
        refine V_ret (pc := 184) (v := some (zI _)) ⟨e_X8_count_184, _, rfl, rfl⟩ ?_
        first | (exfalso; omega) | exact Qv k (by unfold cntF; rw [if_neg (by omega), if_neg (by omega), if_neg (by omega), if_neg (by omega), if_neg (by omega), if_neg (by omega), if_neg (by omega), if_neg (by omega), if_neg (by omega), if_neg (by omega), if_neg (by omega)]; first | rw [if_pos (by omega)] | rw [if_neg (by omega)]) rfl
      · refine V_if_eq (pc := 165) e_X8_count_165 (by decide) (by decide) (fun _ => ?_) (fun h => absurd (by decide) h)
        refine V_iconst (pc := 183) e_X8_count_183 ?_
        refine V_ret (pc := 184) (v := some (zI _)) ⟨e_X8_count_184, _, rfl, rfl⟩ ?_
        first | (exfalso; omega) | exact Qv k (by unfold cntF; rw [if_neg (by omega), if_neg (by omega), if_neg (by omega), if_neg (by omega), if_neg (by omega), if_neg (by omega), if_neg (by omega), if_neg (by omega), if_neg (by omega), if_neg (by omega), if_neg (by omega)]; first | rw [if_pos (by omega)] | rw [if_neg (by omega)]) rfl
    | 9, ho =>
      obtain rfl := Option.some.inj ho
      refine V_iload_n (pc := 157) e_X8_count_157 rfl ?_
      refine V_bipush (pc := 158) (by decide) e_X8_count_158 ?_
      refine V_bipush (pc := 160) (by decide) e_X8_count_160 ?_
      refine V_cS3 (pc := 162) ca_8_32 e_X8_count_162 (by decide) (Nat.le_of_ble_eq_true rfl) (c_X8_in (by omega) (by omega) (by omega) (fun h_in => ?_) (fun h_in => ?_))
      · refine V_if_eq (pc := 165) e_X8_count_165 (by decide) (by decide) (fun h => absurd h (by decide)) (fun _ => ?_)
        refine V_aload_n (pc := 168) e_X8_count_168 rfl (Or.inl ⟨_, rfl⟩) ?_
        refine V_getR (pc := 169) (q := 0) (j := 145) fx_8_7 e_X8_count_169 rfl rfl (by decide) rfl rfl ?_
        refine V_bipush (pc := 172) (by decide) e_X8_count_172 ?_
        refine V_iload_n (pc := 174) e_X8_count_174 rfl ?_
        refine V_iadd (pc := 175) e_X8_count_175 ?_
        refine V_bipush (pc := 176) (by decide) e_X8_count_176 ?_
        refine V_isub (pc := 178) e_X8_count_178 ?_
        refine Vm_now (pc := 179) e_X8_count_179 (by omega) ?_
        refine V_goto (pc := 180) e_X8_count_180 (by decide) ?_
        refine V_ret (pc := 184) (v := some (zI _)) ⟨e_X8_count_184, _, rfl, rfl⟩ ?_
        first | (exfalso; omega) | exact Qv k (by unfold cntF; rw [if_neg (by omega), if_neg (by omega), if_neg (by omega), if_neg (by omega), if_neg (by omega), if_neg (by omega), if_neg (by omega), if_neg (by omega), if_neg (by omega), if_neg (by omega), if_neg (by omega)]; first | rw [if_pos (by omega)] | rw [if_neg (by omega)]) rfl
      · refine V_if_eq (pc := 165) e_X8_count_165 (by decide) (by decide) (fun _ => ?_) (fun h => absurd (by decide) h)
        refine V_iconst (pc := 183) e_X8_count_183 ?_
        refine V_ret (pc := 184) (v := some (zI _)) ⟨e_X8_count_184, _, rfl, rfl⟩ ?_
        first | (exfalso; omega) | exact Qv k (by unfold cntF; rw [if_neg (by omega), if_neg (by omega), if_neg (by omega), if_neg (by omega), if_neg (by omega), if_neg (by omega), if_neg (by omega), if_neg (by omega), if_neg (by omega), if_neg (by omega), if_neg (by omega)]; first | rw [if_pos (by omega)] | rw [if_neg (by omega)]) rfl
    | 10, ho =>
      obtain rfl := Option.some.inj ho
      refine V_iload_n (pc := 157) e_X8_count_157 rfl ?_
      refine V_bipush (pc := 158) (by decide) e_X8_count_158 ?_
      refine V_bipush (pc := 160) (by decide) e_X8_count_160 ?_
      refine V_cS3 (pc := 162) ca_8_32 e_X8_count_162 (by decide) (Nat.le_of_ble_eq_true rfl) (c_X8_in (by omega) (by omega) (by omega) (fun h_in => ?_) (fun h_in => ?_))
      · refine V_if_eq (pc := 165) e_X8_count_165 (by decide) (by decide) (fun h => absurd h (by decide)) (fun _ => ?_)
        refine V_aload_n (pc := 168) e_X8_count_168 rfl (Or.inl ⟨_, rfl⟩) ?_
        refine V_getR (pc := 169) (q := 0) (j := 145) fx_8_7 e_X8_count_169 rfl rfl (by decide) rfl rfl ?_
        refine V_bipush (pc := 172) (by decide) e_X8_count_172 ?_
        refine V_iload_n (pc := 174) e_X8_count_174 rfl ?_
        refine V_iadd (pc := 175) e_X8_count_175 ?_
        refine V_bipush (pc := 176) (by decide) e_X8_count_176 ?_
        refine V_isub (pc := 178) e_X8_count_178 ?_
        refine Vm_now (pc := 179) e_X8_count_179 (by omega) ?_
        refine V_goto (pc := 180) e_X8_count_180 (by decide) ?_
        refine V_ret (pc := 184) (v := some (zI _)) ⟨e_X8_count_184, _, rfl, rfl⟩ ?_
        first | (exfalso; omega) | exact Qv k (by unfold cntF; rw [if_neg (by omega), if_neg (by omega), if_neg (by omega), if_neg (by omega), if_neg (by omega), if_neg (by omega), if_neg (by omega), if_neg (by omega), if_neg (by omega), if_neg (by omega), if_neg (by omega)]; first | rw [if_pos (by omega)] | rw [if_neg (by omega)]) rfl
      · refine V_if_eq (pc := 165) e_X8_count_165 (by decide) (by decide) (fun _ => ?_) (fun h => absurd (by decide) h)
        refine V_iconst (pc := 183) e_X8_count_183 ?_
        refine V_ret (pc := 184) (v := some (zI _)) ⟨e_X8_count_184, _, rfl, rfl⟩ ?_
        first | (exfalso; omega) | exact Qv k (by unfold cntF; rw [if_neg (by omega), if_neg (by omega), if_neg (by omega), if_neg (by omega), if_neg (by omega), if_neg (by omega), if_neg (by omega), if_neg (by omega), if_neg (by omega), if_neg (by omega), if_neg (by omega)]; first | rw [if_pos (by omega)] | rw [if_neg (by omega)]) rfl
    | 11, ho =>
      obtain rfl := Option.some.inj ho
      refine V_iload_n (pc := 157) e_X8_count_157 rfl ?_
      refine V_bipush (pc := 158) (by decide) e_X8_count_158 ?_
      refine V_bipush (pc := 160) (by decide) e_X8_count_160 ?_
      refine V_cS3 (pc := 162) ca_8_32 e_X8_count_162 (by decide) (Nat.le_of_ble_eq_true rfl) (c_X8_in (by omega) (by omega) (by omega) (fun h_in => ?_) (fun h_in => ?_))
      · refine V_if_eq (pc := 165) e_X8_count_165 (by decide) (by decide) (fun h => absurd h (by decide)) (fun _ => ?_)
        refine V_aload_n (pc := 168) e_X8_count_168 rfl (Or.inl ⟨_, rfl⟩) ?_
        refine V_getR (pc := 169) (q := 0) (j := 145) fx_8_7 e_X8_count_169 rfl rfl (by decide) rfl rfl ?_
        refine V_bipush (pc := 172) (by decide) e_X8_count_172 ?_
        refine V_iload_n (pc := 174) e_X8_count_174 rfl ?_
        refine V_iadd (pc := 175) e_X8_count_175 ?_
        refine V_bipush (pc := 176) (by decide) e_X8_count_176 ?_
        refine V_isub (pc := 178) e_X8_count_178 ?_
        refine Vm_now (pc := 179) e_X8_count_179 (by omega) ?_
        refine V_goto (pc := 180) e_X8_count_180 (by decide) ?_
        refine V_ret (pc := 184) (v := some (zI _)) ⟨e_X8_count_184, _, rfl, rfl⟩ ?_
        first | (exfalso; omega) | exact Qv k (by unfold cntF; rw [if_neg (by omega), if_neg (by omega), if_neg (by omega), if_neg (by omega), if_neg (by omega), if_neg (by omega), if_neg (by omega), if_neg (by omega), if_neg (by omega), if_neg (by omega), if_neg (by omega)]; first | rw [if_pos (by omega)] | rw [if_neg (by omega)]) rfl
      · refine V_if_eq (pc := 165) e_X8_count_165 (by decide) (by decide) (fun _ => ?_) (fun h => absurd (by decide) h)
        refine V_iconst (pc := 183) e_X8_count_183 ?_
        refine V_ret (pc := 184) (v := some (zI _)) ⟨e_X8_count_184, _, rfl, rfl⟩ ?_
        first | (exfalso; omega) | exact Qv k (by unfold cntF; rw [if_neg (by omega), if_neg (by omega), if_neg (by omega), if_neg (by omega), if_neg (by omega), if_neg (by omega), if_neg (by omega), if_neg (by omega), if_neg (by omega), if_neg (by omega), if_neg (by omega)]; first | rw [if_pos (by omega)] | rw [if_neg (by omega)]) rfl
    | 12, ho =>
      obtain rfl := Option.some.inj ho
      refine V_iload_n (pc := 157) e_X8_count_157 rfl ?_
      refine V_bipush (pc := 158) (by decide) e_X8_count_158 ?_
      refine V_bipush (pc := 160) (by decide) e_X8_count_160 ?_
      refine V_cS3 (pc := 162) ca_8_32 e_X8_count_162 (by decide) (Nat.le_of_ble_eq_true rfl) (c_X8_in (by omega) (by omega) (by omega) (fun h_in => ?_) (fun h_in => ?_))
      · refine V_if_eq (pc := 165) e_X8_count_165 (by decide) (by decide) (fun h => absurd h (by decide)) (fun _ => ?_)
        refine V_aload_n (pc := 168) e_X8_count_168 rfl (Or.inl ⟨_, rfl⟩) ?_
        refine V_getR (pc := 169) (q := 0) (j := 145) fx_8_7 e_X8_count_169 rfl rfl (by decide) rfl rfl ?_
        refine V_bipush (pc := 172) (by decide) e_X8_count_172 ?_
        refine V_iload_n (pc := 174) e_X8_count_174 rfl ?_
        refine V_iadd (pc := 175) e_X8_count_175 ?_
        refine V_bipush (pc := 176) (by decide) e_X8_count_176 ?_
        refine V_isub (pc := 178) e_X8_count_178 ?_
        refine Vm_now (pc := 179) e_X8_count_179 (by omega) ?_
        refine V_goto (pc := 180) e_X8_count_180 (by decide) ?_
        refine V_ret (pc := 184) (v := some (zI _)) ⟨e_X8_count_184, _, rfl, rfl⟩ ?_
        first | (exfalso; omega) | exact Qv k (by unfold cntF; rw [if_neg (by omega), if_neg (by omega), if_neg (by omega), if_neg (by omega), if_neg (by omega), if_neg (by omega), if_neg (by omega), if_neg (by omega), if_neg (by omega), if_neg (by omega), if_neg (by omega)]; first | rw [if_pos (by omega)] | rw [if_neg (by omega)]) rfl
      · refine V_if_eq (pc := 165) e_X8_count_165 (by decide) (by decide) (fun _ => ?_) (fun h => absurd (by decide) h)
        refine V_iconst (pc := 183) e_X8_count_183 ?_
        refine V_ret (pc := 184) (v := some (zI _)) ⟨e_X8_count_184, _, rfl, rfl⟩ ?_
        first | (exfalso; omega) | exact Qv k (by unfold cntF; rw [if_neg (by omega), if_neg (by omega), if_neg (by omega), if_neg (by omega), if_neg (by omega), if_neg (by omega), if_neg (by omega), if_neg (by omega), if_neg (by omega), if_neg (by omega), if_neg (by omega)]; first | rw [if_pos (by omega)] | rw [if_neg (by omega)]) rfl
    | 13, ho =>
      obtain rfl := Option.some.inj ho
      refine V_iload_n (pc := 157) e_X8_count_157 rfl ?_
      refine V_bipush (pc := 158) (by decide) e_X8_count_158 ?_
      refine V_bipush (pc := 160) (by decide) e_X8_count_160 ?_
      refine V_cS3 (pc := 162) ca_8_32 e_X8_count_162 (by decide) (Nat.le_of_ble_eq_true rfl) (c_X8_in (by omega) (by omega) (by omega) (fun h_in => ?_) (fun h_in => ?_))
      · refine V_if_eq (pc := 165) e_X8_count_165 (by decide) (by decide) (fun h => absurd h (by decide)) (fun _ => ?_)
        refine V_aload_n (pc := 168) e_X8_count_168 rfl (Or.inl ⟨_, rfl⟩) ?_
        refine V_getR (pc := 169) (q := 0) (j := 145) fx_8_7 e_X8_count_169 rfl rfl (by decide) rfl rfl ?_
        refine V_bipush (pc := 172) (by decide) e_X8_count_172 ?_
        refine V_iload_n (pc := 174) e_X8_count_174 rfl ?_
        refine V_iadd (pc := 175) e_X8_count_175 ?_
        refine V_bipush (pc := 176) (by decide) e_X8_count_176 ?_
        refine V_isub (pc := 178) e_X8_count_178 ?_
        refine Vm_now (pc := 179) e_X8_count_179 (by omega) ?_
        refine V_goto (pc := 180) e_X8_count_180 (by decide) ?_
        refine V_ret (pc := 184) (v := some (zI _)) ⟨e_X8_count_184, _, rfl, rfl⟩ ?_
        first | (exfalso; omega) | exact Qv k (by unfold cntF; rw [if_neg (by omega), if_neg (by omega), if_neg (by omega), if_neg (by omega), if_neg (by omega), if_neg (by omega), if_neg (by omega), if_neg (by omega), if_neg (by omega), if_neg (by omega), if_neg (by omega)]; first | rw [if_pos (by omega)] | rw [if_neg (by omega)]) rfl
      · refine V_if_eq (pc := 165) e_X8_count_165 (by decide) (by decide) (fun _ => ?_) (fun h => absurd (by decide) h)
        refine V_iconst (pc := 183) e_X8_count_183 ?_
        refine V_ret (pc := 184) (v := some (zI _)) ⟨e_X8_count_184, _, rfl, rfl⟩ ?_
        first | (exfalso; omega) | exact Qv k (by unfold cntF; rw [if_neg (by omega), if_neg (by omega), if_neg (by omega), if_neg (by omega), if_neg (by omega), if_neg (by omega), if_neg (by omega), if_neg (by omega), if_neg (by omega), if_neg (by omega), if_neg (by omega)]; first | rw [if_pos (by omega)] | rw [if_neg (by omega)]) rfl
    | 14, ho =>
      obtain rfl := Option.some.inj ho
      refine V_aload_n (pc := 139) e_X8_count_139 rfl (Or.inl ⟨_, rfl⟩) ?_
      refine V_getR (pc := 140) (q := 0) (j := 145) fx_8_7 e_X8_count_140 rfl rfl (by decide) rfl rfl ?_
      refine V_bipush (pc := 143) (by decide) e_X8_count_143 ?_
      refine Vm_now (pc := 145) e_X8_count_145 (by decide) ?_
      refine V_ret (pc := 146) (v := some (zI _)) ⟨e_X8_count_146, _, rfl, rfl⟩ ?_
      obtain rfl : w = 14 := by omega
      exact Qv k rfl rfl
    | 15, ho =>
      obtain rfl := Option.some.inj ho
      refine V_aload_n (pc := 147) e_X8_count_147 rfl (Or.inl ⟨_, rfl⟩) ?_
      refine Vm_saved (pc := 148) fx_8_29 e_X8_count_148 ?_
      refine V_ret (pc := 151) (v := some (zI _)) ⟨e_X8_count_151, _, rfl, rfl⟩ ?_
      obtain rfl : w = 15 := by omega
      exact Qv k rfl rfl
    | 16, ho =>
      obtain rfl := Option.some.inj ho
      refine V_aload_n (pc := 152) e_X8_count_152 rfl (Or.inl ⟨_, rfl⟩) ?_
      refine Vm_length (pc := 153) fx_8_166 e_X8_count_153 ?_
      refine V_ret (pc := 156) (v := some (zI _)) ⟨e_X8_count_156, _, rfl, rfl⟩ ?_
      obtain rfl : w = 16 := by omega
      exact Qv k rfl rfl
    | j + 17, ho => exact absurd ho (by simp)
noncomputable def bgF (r : Int → Int) : Int × (Int → Int) := if r 5 = 0 then begF 600 r else (0, r)
noncomputable def stpT (r : Int → Int) (m : Int) : Int := gbT (bgF r).2 (bgF r).1 m
noncomputable def stpF (r : Int → Int) (m : Int) : Int → Int := gbF (bgF r).2 (bgF r).1 m
noncomputable def runF : Nat → (Int → Int) → Int → (Int → Int)
  | 0, r, _ => r
  | n + 1, r, m => if 0 < m then runF n (stpF r m) (m - stpT r m) else r
noncomputable def rOK : Nat → (Int → Int) → Int → Prop
  | 0, r, m => RB r ∧ -3000000 ≤ m ∧ m ≤ 0
  | n + 1, r, m => RB r ∧ (-3000000 ≤ m ∧ m ≤ 20000) ∧ (0 < m → (r 5 = 0 → bOK 600 r) ∧ gO (bgF r).2 (bgF r).1 m ∧ rOK n (stpF r m) (m - stpT r m))
noncomputable def ttF : Nat → (Int → Int) → Int → Int → Int × (Int → Int)
  | 0, r, _, t => (t, r)
  | n + 1, r, j, t => if t < 20000 ∧ 0 ≤ plc r j then (if plc (bgF r).2 j < 0 then ttF n (bgF r).2 j (t + 1) else ttF n (stpF r (20000 - t)) j (t + stpT r (20000 - t))) else (t, r)
noncomputable def tOK : Nat → (Int → Int) → Int → Int → Prop
  | 0, r, j, t => RR r ∧ (0 ≤ t ∧ t ≤ 30000) ∧ ¬ (t < 20000 ∧ 0 ≤ plc r j)
  | n + 1, r, j, t => RR r ∧ (0 ≤ t ∧ t ≤ 30000) ∧ (t < 20000 ∧ 0 ≤ plc r j → (r 5 = 0 → bOK 600 r) ∧ RR (bgF r).2 ∧ (if plc (bgF r).2 j < 0 then tOK n (bgF r).2 j (t + 1) else (gO (bgF r).2 (bgF r).1 (20000 - t) ∧ tOK n (stpF r (20000 - t)) j (t + stpT r (20000 - t)))))
theorem bgF_0 {r : Int → Int} (h : r 5 = 0) : bgF r = begF 600 r := if_pos h
theorem bgF_1 {r : Int → Int} (h : ¬ r 5 = 0) : bgF r = (0, r) := if_neg h
theorem L_X8_run {σ : Sto} {P : PT} {T : TT} {Q : Option Value → Sto → Prop} {q u : Int} : ∀ (n : Nat) (now : Int → Int) (m : Int), rOK n now m → (Q (some (zI (runF n now m 17 - u))) (mst σ (runF n now m) P T)) → V M_X8_run 150 44 [(0, .ref 144), (1, zI q), (2, zI u), (3, zI m)] [] 150 (mst σ now P T) Q := by
  intro n
  induction n with
  | zero =>
    intro now m hO k
    obtain ⟨hR, hm1, hm2⟩ := hO
    refine V_iload_n (pc := 44) e_X8_run_44 rfl ?_
    refine V_if_le (pc := 45) e_X8_run_45 (by decide) (by omega) (fun h45 => ?_) (fun h45 => ?_)
    · refine V_aload_n (pc := 76) e_X8_run_76 rfl (Or.inl ⟨_, rfl⟩) ?_
      refine V_getR (pc := 77) (q := 0) (j := 145) fx_8_7 e_X8_run_77 rfl rfl (by decide) rfl rfl ?_
      refine V_bipush (pc := 80) (by decide) e_X8_run_80 ?_
      refine Vm_now (pc := 82) e_X8_run_82 (by decide) ?_
      refine V_iload_n (pc := 83) e_X8_run_83 rfl ?_
      refine V_isub (pc := 84) e_X8_run_84 ?_
      refine V_ret (pc := 85) (v := some (zI _)) ⟨e_X8_run_85, _, rfl, rfl⟩ ?_
      exact k
    · exact absurd h45 (by omega)
  | succ n ih =>
    intro now m hO k
    obtain ⟨hR, hm, hS⟩ := hO
    have g5 := hR 5 (by decide) (by decide) (by decide)
    refine V_iload_n (pc := 44) e_X8_run_44 rfl ?_
    refine V_if_le (pc := 45) e_X8_run_45 (by decide) (by omega) (fun h45 => ?_) (fun h45 => ?_)
    · refine V_aload_n (pc := 76) e_X8_run_76 rfl (Or.inl ⟨_, rfl⟩) ?_
      refine V_getR (pc := 77) (q := 0) (j := 145) fx_8_7 e_X8_run_77 rfl rfl (by decide) rfl rfl ?_
      refine V_bipush (pc := 80) (by decide) e_X8_run_80 ?_
      refine Vm_now (pc := 82) e_X8_run_82 (by decide) ?_
      refine V_iload_n (pc := 83) e_X8_run_83 rfl ?_
      refine V_isub (pc := 84) e_X8_run_84 ?_
      refine V_ret (pc := 85) (v := some (zI _)) ⟨e_X8_run_85, _, rfl, rfl⟩ ?_
      unfold runF at k
      rw [if_neg (by omega)] at k
      exact k
    · obtain ⟨hB, hG, hN⟩ := hS (by omega)
      unfold runF at k
      rw [if_pos (by omega)] at k
      refine V_iload_n (pc := 48) e_X8_run_48 rfl ?_
      refine V_aload_n (pc := 49) e_X8_run_49 rfl (Or.inl ⟨_, rfl⟩) ?_
      refine V_aload_n (pc := 50) e_X8_run_50 rfl (Or.inl ⟨_, rfl⟩) ?_
      refine V_getR (pc := 51) (q := 0) (j := 145) fx_8_7 e_X8_run_51 rfl rfl (by decide) rfl rfl ?_
      refine V_iconst (pc := 54) e_X8_run_54 ?_
      refine Vm_now (pc := 55) e_X8_run_55 (by decide) ?_
      refine V_if_ne (pc := 56) e_X8_run_56 (by decide) (by omega) (fun h56 => ?_) (fun h56 => ?_)
      · unfold stpF stpT at hN k
        rw [bgF_1 h56] at hG hN k
        refine V_iconst (pc := 66) e_X8_run_66 ?_
        refine V_iload_n (pc := 67) e_X8_run_67 rfl ?_
        refine V_cV2 (pc := 68) ca_8_154 e_X8_run_68 (by decide) (Nat.le_of_ble_eq_true rfl) (by decide) rfl (by decide) (c_X8_goesBy (by assumption) ?_)
        refine V_isub (pc := 71) e_X8_run_71 ?_
        refine V_istore_n (pc := 72) e_X8_run_72 (by decide) ?_
        refine V_goto (pc := 73) e_X8_run_73 (by decide) ?_
        exact V_lq [(0, .ref 144), (1, zI q), (2, zI u), (3, zI _)] ⟨⟨_, rfl, rfl⟩, ⟨_, rfl, rfl⟩, ⟨_, rfl, rfl⟩, ⟨_, rfl, rfl⟩, trivial⟩ (ih _ _ hN k)
      · have hB0 := hB h56
        unfold stpF stpT at hN k
        rw [bgF_0 h56] at hG hN k
        refine V_aload_n (pc := 59) e_X8_run_59 rfl (Or.inl ⟨_, rfl⟩) ?_
        refine V_cV0 (pc := 60) ca_8_151 e_X8_run_60 (by decide) (Nat.le_of_ble_eq_true rfl) (by decide) rfl (by decide) (c_X8_begins (by assumption) ?_)
        refine V_goto (pc := 63) e_X8_run_63 (by decide) ?_
        refine V_iload_n (pc := 67) e_X8_run_67 rfl ?_
        refine V_cV2 (pc := 68) ca_8_154 e_X8_run_68 (by decide) (Nat.le_of_ble_eq_true rfl) (by decide) rfl (by decide) (c_X8_goesBy (by assumption) ?_)
        refine V_isub (pc := 71) e_X8_run_71 ?_
        refine V_istore_n (pc := 72) e_X8_run_72 (by decide) ?_
        refine V_goto (pc := 73) e_X8_run_73 (by decide) ?_
        exact V_lq [(0, .ref 144), (1, zI q), (2, zI u), (3, zI _)] ⟨⟨_, rfl, rfl⟩, ⟨_, rfl, rfl⟩, ⟨_, rfl, rfl⟩, ⟨_, rfl, rfl⟩, trivial⟩ (ih _ _ hN k)
theorem c_X8_run {σ : Sto} {now past aside : Int → Int} {sv rf : Int} {T : TT} {Q : Option Value → Sto → Prop} {m : Int} (hs : 0 ≤ sv ∧ sv ≤ 4) (hR : RB now) (h24 : 0 ≤ now 24 ∧ now 24 ≤ 2000000) (hO : 1 ≤ m ∧ m ≤ 5000 → ¬ 1000000 < now 24 + m → rOK 5000 now m) (r_m : -2147483648 ≤ m ∧ m < 2147483648) (k1 : ¬ (1 ≤ m ∧ m ≤ 5000) → Q (some (zI (-1))) (mst σ now (past, aside, sv, rf) T)) (k2 : 1 ≤ m ∧ m ≤ 5000 → 1000000 < now 24 + m → Q (some (zI (-3))) (mst σ now (past, aside, sv, rf) T)) (k3 : 1 ≤ m ∧ m ≤ 5000 → ¬ 1000000 < now 24 + m → Q (some (zI (runF 5000 now m 17 - now 17))) (mst σ (runF 5000 now m) (recP now past sv, aside, recS sv, rf) T)) : Con M_X8_run 150 150 (mst σ now (past, aside, sv, rf) T) [.ref 144, zI m] Q := by
  refine V_entry ok_X8_run (Nat.le_refl _) (Nat.le_of_ble_eq_true rfl) (V_ls [(0, .ref 144), (1, zI m)] ⟨rfl, rfl, trivial⟩ ?_)
  refine V_iload_n (pc := 0) e_X8_run_0 rfl ?_
  refine V_iconst (pc := 1) e_X8_run_1 ?_
  refine V_sipush (pc := 2) (by decide) e_X8_run_2 ?_
  refine V_cS3 (pc := 5) ca_8_32 e_X8_run_5 (by decide) (Nat.le_of_ble_eq_true rfl) (c_X8_in (by omega) (by omega) (by omega) (fun h_in => ?_) (fun h_in => ?_))
  · refine V_if_ne (pc := 8) e_X8_run_8 (by decide) (by decide) (fun _ => ?_) (fun h => absurd h (by decide))
    refine V_aload_n (pc := 13) e_X8_run_13 rfl (Or.inl ⟨_, rfl⟩) ?_
    refine V_getR (pc := 14) (q := 0) (j := 145) fx_8_7 e_X8_run_14 rfl rfl (by decide) rfl rfl ?_
    refine V_bipush (pc := 17) (by decide) e_X8_run_17 ?_
    refine Vm_now (pc := 19) e_X8_run_19 (by decide) ?_
    refine V_iload_n (pc := 20) e_X8_run_20 rfl ?_
    refine V_iadd (pc := 21) e_X8_run_21 ?_
    refine V_ldc (pc := 22) (e := 1000000) (by decide) rfl e_X8_run_22 ?_
    refine V_icmp_le (pc := 24) e_X8_run_24 (by decide) (by omega) (by decide) (fun h24 => ?_) (fun h24 => ?_)
    · refine V_aload_n (pc := 30) e_X8_run_30 rfl (Or.inl ⟨_, rfl⟩) ?_
      refine V_cV0 (pc := 31) ca_8_40 e_X8_run_31 (by decide) (Nat.le_of_ble_eq_true rfl) (by decide) rfl (by decide) (c_X8_records (by omega) ?_)
      refine V_aload_n (pc := 34) e_X8_run_34 rfl (Or.inl ⟨_, rfl⟩) ?_
      refine V_getR (pc := 35) (q := 0) (j := 145) fx_8_7 e_X8_run_35 rfl rfl (by decide) rfl rfl ?_
      refine V_bipush (pc := 38) (by decide) e_X8_run_38 ?_
      refine Vm_now (pc := 40) e_X8_run_40 (by decide) ?_
      refine V_istore_n (pc := 41) e_X8_run_41 (by decide) ?_
      refine V_iload_n (pc := 42) e_X8_run_42 rfl ?_
      refine V_istore_n (pc := 43) e_X8_run_43 (by decide) ?_
      exact V_lq [(0, .ref 144), (1, zI m), (2, zI (now 17)), (3, zI m)] ⟨⟨_, rfl, rfl⟩, ⟨_, rfl, rfl⟩, ⟨_, rfl, rfl⟩, ⟨_, rfl, rfl⟩, trivial⟩ (L_X8_run 5000 now m (hO (by omega) (by omega)) (k3 (by omega) (by omega)))
    · refine V_bipush (pc := 27) (by decide) e_X8_run_27 ?_
      refine V_ret (pc := 29) (v := some (zI _)) ⟨e_X8_run_29, _, rfl, rfl⟩ ?_
      exact k2 (by omega) (by omega)
  · refine V_if_ne (pc := 8) e_X8_run_8 (by decide) (by decide) (fun h => absurd (by decide) h) (fun _ => ?_)
    refine V_iconst (pc := 11) e_X8_run_11 ?_
    refine V_ret (pc := 12) (v := some (zI _)) ⟨e_X8_run_12, _, rfl, rfl⟩ ?_
    exact k1 (by omega)
theorem c_X8_stop {σ : Sto} {now past aside : Int → Int} {sv rf : Int} {T : TT} {Q : Option Value → Sto → Prop} (h5 : 0 ≤ now 5 ∧ now 5 ≤ 2) (hO : now 5 = 0 → bOK 600 now) (k1 : 0 < now 5 → Q (some (zI 0)) (mst σ now (past, aside, sv, rf) T)) (k2 : now 5 = 0 → Q (some (zI (begF 600 now).1)) (mst σ (cpr (cpr now aside 0 185) (begF 600 now).2 0 185) (past, cpr now aside 0 185, sv, rf) T)) : Con M_X8_stop 150 150 (mst σ now (past, aside, sv, rf) T) [.ref 144] Q := by
  refine V_entry ok_X8_stop (Nat.le_refl _) (Nat.le_of_ble_eq_true rfl) (V_ls [(0, .ref 144)] ⟨rfl, trivial⟩ ?_)
  refine V_aload_n (pc := 0) e_X8_stop_0 rfl (Or.inl ⟨_, rfl⟩) ?_
  refine V_getR (pc := 1) (q := 0) (j := 145) fx_8_7 e_X8_stop_1 rfl rfl (by decide) rfl rfl ?_
  refine V_iconst (pc := 4) e_X8_stop_4 ?_
  refine Vm_now (pc := 5) e_X8_stop_5 (by decide) ?_
  refine V_if_le (pc := 6) e_X8_stop_6 (by decide) (by omega) (fun h6 => ?_) (fun h6 => ?_)
  · refine V_aload_n (pc := 11) e_X8_stop_11 rfl (Or.inl ⟨_, rfl⟩) ?_
    refine V_cV0 (pc := 12) ca_8_157 e_X8_stop_12 (by decide) (Nat.le_of_ble_eq_true rfl) (by decide) rfl (by decide) (c_X8_keeps ?_)
    refine V_aload_n (pc := 15) e_X8_stop_15 rfl (Or.inl ⟨_, rfl⟩) ?_
    refine V_cV0 (pc := 16) ca_8_151 e_X8_stop_16 (by decide) (Nat.le_of_ble_eq_true rfl) (by decide) rfl (by decide) (c_X8_begins (hO (by omega)) ?_)
    refine V_istore_n (pc := 19) e_X8_stop_19 (by decide) ?_
    refine V_aload_n (pc := 20) e_X8_stop_20 rfl (Or.inl ⟨_, rfl⟩) ?_
    refine V_cV0 (pc := 21) ca_8_160 e_X8_stop_21 (by decide) (Nat.le_of_ble_eq_true rfl) (by decide) rfl (by decide) (c_X8_takesBack ?_)
    refine V_iload_n (pc := 24) e_X8_stop_24 rfl ?_
    refine V_ret (pc := 25) (v := some (zI _)) ⟨e_X8_stop_25, _, rfl, rfl⟩ ?_
    exact k2 (by omega)
  · refine V_iconst (pc := 9) e_X8_stop_9 ?_
    refine V_ret (pc := 10) (v := some (zI _)) ⟨e_X8_stop_10, _, rfl, rfl⟩ ?_
    exact k1 (by omega)
theorem L_X8_ticksTo {σ : Sto} {P : PT} {T : TT} {Q : Option Value → Sto → Prop} {j : Int} (r_j : -2147483648 ≤ j ∧ j < 2147483648) : ∀ (n : Nat) (now : Int → Int) (t : Int), tOK n now j t → (∀ v r, v = (ttF n now j t).1 → r = (ttF n now j t).2 → RR r → (0 ≤ v ∧ v ≤ 30000) → V M_X8_ticksTo 150 84 [(0, .ref 144), (1, zI j), (2, zI v)] [] 150 (mst σ r P T) Q) → V M_X8_ticksTo 150 23 [(0, .ref 144), (1, zI j), (2, zI t)] [] 150 (mst σ now P T) Q := by
  intro n
  induction n with
  | zero =>
    intro now t hO k
    obtain ⟨hR, ht, hS⟩ := hO
    have h0 := hR.2.1
    have ps := plc_sp now j
    refine V_iload_n (pc := 23) e_X8_ticksTo_23 rfl ?_
    refine V_sipush (pc := 24) (by decide) e_X8_ticksTo_24 ?_
    refine V_icmp_ge (pc := 27) e_X8_ticksTo_27 (by decide) (by omega) (by decide) (fun h27 => ?_) (fun h27 => ?_)
    · exact V_lq [(0, .ref 144), (1, zI j), (2, zI t)] ⟨⟨_, rfl, rfl⟩, ⟨_, rfl, rfl⟩, ⟨_, rfl, rfl⟩, trivial⟩ (k t now rfl rfl hR ht)
    · refine V_aload_n (pc := 30) e_X8_ticksTo_30 rfl (Or.inl ⟨_, rfl⟩) ?_
      refine V_iload_n (pc := 31) e_X8_ticksTo_31 rfl ?_
      refine V_cV1 (pc := 32) ca_8_87 e_X8_ticksTo_32 (by decide) (Nat.le_of_ble_eq_true rfl) (by decide) rfl (by decide) (c_X8_placeOf (by omega) hR ?_)
      refine V_if_lt (pc := 35) e_X8_ticksTo_35 (by decide) (by omega) (fun h35 => ?_) (fun h35 => ?_)
      · exact V_lq [(0, .ref 144), (1, zI j), (2, zI t)] ⟨⟨_, rfl, rfl⟩, ⟨_, rfl, rfl⟩, ⟨_, rfl, rfl⟩, trivial⟩ (k t now rfl rfl hR ht)
      · exact absurd (And.intro (show t < 20000 by omega) (by omega)) hS
  | succ n ih =>
    intro now t hO k
    obtain ⟨hR, ht, hS⟩ := hO
    have h0 := hR.2.1
    have g5 := hR.1 5 (by decide) (by decide) (by decide)
    have ps := plc_sp now j
    refine V_iload_n (pc := 23) e_X8_ticksTo_23 rfl ?_
    refine V_sipush (pc := 24) (by decide) e_X8_ticksTo_24 ?_
    refine V_icmp_ge (pc := 27) e_X8_ticksTo_27 (by decide) (by omega) (by decide) (fun h27 => ?_) (fun h27 => ?_)
    · exact V_lq [(0, .ref 144), (1, zI j), (2, zI t)] ⟨⟨_, rfl, rfl⟩, ⟨_, rfl, rfl⟩, ⟨_, rfl, rfl⟩, trivial⟩ (k t now (by unfold ttF; rw [if_neg (by omega)]) (by unfold ttF; rw [if_neg (by omega)]) hR ht)
    · refine V_aload_n (pc := 30) e_X8_ticksTo_30 rfl (Or.inl ⟨_, rfl⟩) ?_
      refine V_iload_n (pc := 31) e_X8_ticksTo_31 rfl ?_
      refine V_cV1 (pc := 32) ca_8_87 e_X8_ticksTo_32 (by decide) (Nat.le_of_ble_eq_true rfl) (by decide) rfl (by decide) (c_X8_placeOf (by omega) hR ?_)
      refine V_if_lt (pc := 35) e_X8_ticksTo_35 (by decide) (by omega) (fun h35 => ?_) (fun h35 => ?_)
      · exact V_lq [(0, .ref 144), (1, zI j), (2, zI t)] ⟨⟨_, rfl, rfl⟩, ⟨_, rfl, rfl⟩, ⟨_, rfl, rfl⟩, trivial⟩ (k t now (by unfold ttF; rw [if_neg (by omega)]) (by unfold ttF; rw [if_neg (by omega)]) hR ht)
      · obtain ⟨hB, hG, hN⟩ := hS ⟨by omega, by omega⟩
        unfold ttF at k
        rw [if_pos (And.intro (by omega) (by omega))] at k
        have pq := plc_sp (bgF now).2 j
        have q0 := hG.2.1
        refine V_aload_n (pc := 38) e_X8_ticksTo_38 rfl (Or.inl ⟨_, rfl⟩) ?_
        refine V_getR (pc := 39) (q := 0) (j := 145) fx_8_7 e_X8_ticksTo_39 rfl rfl (by decide) rfl rfl ?_
        refine V_iconst (pc := 42) e_X8_ticksTo_42 ?_
        refine Vm_now (pc := 43) e_X8_ticksTo_43 (by decide) ?_
        refine V_if_ne (pc := 44) e_X8_ticksTo_44 (by decide) (by omega) (fun h44 => ?_) (fun h44 => ?_)
        · unfold stpF stpT at hN k
          rw [bgF_1 h44] at hG hN k pq q0
          refine V_iconst (pc := 54) e_X8_ticksTo_54 ?_
          refine V_istore_n (pc := 55) e_X8_ticksTo_55 (by decide) ?_
          refine V_iload_n (pc := 56) e_X8_ticksTo_56 rfl ?_
          refine V_aload_n (pc := 57) e_X8_ticksTo_57 rfl (Or.inl ⟨_, rfl⟩) ?_
          refine V_iload_n (pc := 58) e_X8_ticksTo_58 rfl ?_
          refine V_cV1 (pc := 59) ca_8_87 e_X8_ticksTo_59 (by decide) (Nat.le_of_ble_eq_true rfl) (by decide) rfl (by decide) (c_X8_placeOf (by omega) hG ?_)
          refine V_if_ge (pc := 62) e_X8_ticksTo_62 (by decide) (by omega) (fun h62 => ?_) (fun h62 => ?_)
          · rw [if_neg (by omega)] at hN k
            obtain ⟨hN1, hN2⟩ := hN
            refine V_aload_n (pc := 69) e_X8_ticksTo_69 rfl (Or.inl ⟨_, rfl⟩) ?_
            refine V_iload_n (pc := 70) e_X8_ticksTo_70 rfl ?_
            refine V_sipush (pc := 71) (by decide) e_X8_ticksTo_71 ?_
            refine V_iload_n (pc := 74) e_X8_ticksTo_74 rfl ?_
            refine V_isub (pc := 75) e_X8_ticksTo_75 ?_
            refine V_cV2 (pc := 76) ca_8_154 e_X8_ticksTo_76 (by decide) (Nat.le_of_ble_eq_true rfl) (by decide) rfl (by decide) (c_X8_goesBy (by assumption) ?_)
            refine V_iadd (pc := 79) e_X8_ticksTo_79 ?_
            refine V_istore_n (pc := 80) e_X8_ticksTo_80 (by decide) ?_
            refine V_goto (pc := 81) e_X8_ticksTo_81 (by decide) ?_
            first
              | exact V_lq [(0, .ref 144), (1, zI j), (2, zI _)] ⟨⟨_, rfl, rfl⟩, ⟨_, rfl, rfl⟩, ⟨_, rfl, rfl⟩, trivial⟩ (ih _ _ hN k)
              | exact V_lq [(0, .ref 144), (1, zI j), (2, zI _)] ⟨⟨_, rfl, rfl⟩, ⟨_, rfl, rfl⟩, ⟨_, rfl, rfl⟩, trivial⟩ (ih _ _ hN2 k)
          · rw [if_pos (by omega)] at hN k
            refine V_iconst (pc := 65) e_X8_ticksTo_65 ?_
            refine V_goto (pc := 66) e_X8_ticksTo_66 (by decide) ?_
            refine V_iadd (pc := 79) e_X8_ticksTo_79 ?_
            refine V_istore_n (pc := 80) e_X8_ticksTo_80 (by decide) ?_
            refine V_goto (pc := 81) e_X8_ticksTo_81 (by decide) ?_
            first
              | exact V_lq [(0, .ref 144), (1, zI j), (2, zI _)] ⟨⟨_, rfl, rfl⟩, ⟨_, rfl, rfl⟩, ⟨_, rfl, rfl⟩, trivial⟩ (ih _ _ hN k)
              | exact V_lq [(0, .ref 144), (1, zI j), (2, zI _)] ⟨⟨_, rfl, rfl⟩, ⟨_, rfl, rfl⟩, ⟨_, rfl, rfl⟩, trivial⟩ (ih _ _ hN2 k)
        · have hB0 := hB h44
          unfold stpF stpT at hN k
          rw [bgF_0 h44] at hG hN k pq q0
          refine V_aload_n (pc := 47) e_X8_ticksTo_47 rfl (Or.inl ⟨_, rfl⟩) ?_
          refine V_cV0 (pc := 48) ca_8_151 e_X8_ticksTo_48 (by decide) (Nat.le_of_ble_eq_true rfl) (by decide) rfl (by decide) (c_X8_begins (by assumption) ?_)
          refine V_goto (pc := 51) e_X8_ticksTo_51 (by decide) ?_
          refine V_istore_n (pc := 55) e_X8_ticksTo_55 (by decide) ?_
          refine V_iload_n (pc := 56) e_X8_ticksTo_56 rfl ?_
          refine V_aload_n (pc := 57) e_X8_ticksTo_57 rfl (Or.inl ⟨_, rfl⟩) ?_
          refine V_iload_n (pc := 58) e_X8_ticksTo_58 rfl ?_
          refine V_cV1 (pc := 59) ca_8_87 e_X8_ticksTo_59 (by decide) (Nat.le_of_ble_eq_true rfl) (by decide) rfl (by decide) (c_X8_placeOf (by omega) hG ?_)
          refine V_if_ge (pc := 62) e_X8_ticksTo_62 (by decide) (by omega) (fun h62 => ?_) (fun h62 => ?_)
          · rw [if_neg (by omega)] at hN k
            obtain ⟨hN1, hN2⟩ := hN
            refine V_aload_n (pc := 69) e_X8_ticksTo_69 rfl (Or.inl ⟨_, rfl⟩) ?_
            refine V_iload_n (pc := 70) e_X8_ticksTo_70 rfl ?_
            refine V_sipush (pc := 71) (by decide) e_X8_ticksTo_71 ?_
            refine V_iload_n (pc := 74) e_X8_ticksTo_74 rfl ?_
            refine V_isub (pc := 75) e_X8_ticksTo_75 ?_
            refine V_cV2 (pc := 76) ca_8_154 e_X8_ticksTo_76 (by decide) (Nat.le_of_ble_eq_true rfl) (by decide) rfl (by decide) (c_X8_goesBy (by assumption) ?_)
            refine V_iadd (pc := 79) e_X8_ticksTo_79 ?_
            refine V_istore_n (pc := 80) e_X8_ticksTo_80 (by decide) ?_
            refine V_goto (pc := 81) e_X8_ticksTo_81 (by decide) ?_
            first
              | exact V_lq [(0, .ref 144), (1, zI j), (2, zI _)] ⟨⟨_, rfl, rfl⟩, ⟨_, rfl, rfl⟩, ⟨_, rfl, rfl⟩, trivial⟩ (ih _ _ hN k)
              | exact V_lq [(0, .ref 144), (1, zI j), (2, zI _)] ⟨⟨_, rfl, rfl⟩, ⟨_, rfl, rfl⟩, ⟨_, rfl, rfl⟩, trivial⟩ (ih _ _ hN2 k)
          · rw [if_pos (by omega)] at hN k
            refine V_iconst (pc := 65) e_X8_ticksTo_65 ?_
            refine V_goto (pc := 66) e_X8_ticksTo_66 (by decide) ?_
            refine V_iadd (pc := 79) e_X8_ticksTo_79 ?_
            refine V_istore_n (pc := 80) e_X8_ticksTo_80 (by decide) ?_
            refine V_goto (pc := 81) e_X8_ticksTo_81 (by decide) ?_
            first
              | exact V_lq [(0, .ref 144), (1, zI j), (2, zI _)] ⟨⟨_, rfl, rfl⟩, ⟨_, rfl, rfl⟩, ⟨_, rfl, rfl⟩, trivial⟩ (ih _ _ hN k)
              | exact V_lq [(0, .ref 144), (1, zI j), (2, zI _)] ⟨⟨_, rfl, rfl⟩, ⟨_, rfl, rfl⟩, ⟨_, rfl, rfl⟩, trivial⟩ (ih _ _ hN2 k)
theorem T_X8_ticksTo {σ : Sto} {now past aside : Int → Int} {sv rf : Int} {T : TT} {Q : Option Value → Sto → Prop} {j t : Int} (hR : RR now) (r_j : -2147483648 ≤ j ∧ j < 2147483648) (k : Q (some (zI (if plc now j < 0 then t else -4))) (mst σ (cpr aside now 0 185) (past, aside, sv, rf) T)) : V M_X8_ticksTo 150 84 [(0, .ref 144), (1, zI j), (2, zI t)] [] 150 (mst σ now (past, aside, sv, rf) T) Q := by
  have h0 := hR.2.1
  have ps := plc_sp now j
  refine V_aload_n (pc := 84) e_X8_ticksTo_84 rfl (Or.inl ⟨_, rfl⟩) ?_
  refine V_iload_n (pc := 85) e_X8_ticksTo_85 rfl ?_
  refine V_cV1 (pc := 86) ca_8_87 e_X8_ticksTo_86 (by decide) (Nat.le_of_ble_eq_true rfl) (by decide) rfl (by decide) (c_X8_placeOf (by omega) hR ?_)
  refine V_if_ge (pc := 89) e_X8_ticksTo_89 (by decide) (by omega) (fun h89 => ?_) (fun h89 => ?_)
  · refine V_iconst (pc := 96) e_X8_ticksTo_96 ?_
    refine V_istore_n (pc := 97) e_X8_ticksTo_97 (by decide) ?_
    refine V_aload_n (pc := 98) e_X8_ticksTo_98 rfl (Or.inl ⟨_, rfl⟩) ?_
    refine V_cV0 (pc := 99) ca_8_160 e_X8_ticksTo_99 (by decide) (Nat.le_of_ble_eq_true rfl) (by decide) rfl (by decide) (c_X8_takesBack ?_)
    refine V_iload_n (pc := 102) e_X8_ticksTo_102 rfl ?_
    refine V_if_eq (pc := 103) e_X8_ticksTo_103 (by decide) (by decide) (fun _ => ?_) (fun h => absurd (by decide) h)
    refine V_bipush (pc := 110) (by decide) e_X8_ticksTo_110 ?_
    refine V_ret (pc := 112) (v := some (zI _)) ⟨e_X8_ticksTo_112, _, rfl, rfl⟩ ?_
    exact Qv k (by split <;> first | rfl | (exfalso; omega)) rfl
  · refine V_iconst (pc := 92) e_X8_ticksTo_92 ?_
    refine V_goto (pc := 93) e_X8_ticksTo_93 (by decide) ?_
    refine V_istore_n (pc := 97) e_X8_ticksTo_97 (by decide) ?_
    refine V_aload_n (pc := 98) e_X8_ticksTo_98 rfl (Or.inl ⟨_, rfl⟩) ?_
    refine V_cV0 (pc := 99) ca_8_160 e_X8_ticksTo_99 (by decide) (Nat.le_of_ble_eq_true rfl) (by decide) rfl (by decide) (c_X8_takesBack ?_)
    refine V_iload_n (pc := 102) e_X8_ticksTo_102 rfl ?_
    refine V_if_eq (pc := 103) e_X8_ticksTo_103 (by decide) (by decide) (fun h => absurd h (by decide)) (fun _ => ?_)
    refine V_iload_n (pc := 106) e_X8_ticksTo_106 rfl ?_
    refine V_goto (pc := 107) e_X8_ticksTo_107 (by decide) ?_
    refine V_ret (pc := 112) (v := some (zI _)) ⟨e_X8_ticksTo_112, _, rfl, rfl⟩ ?_
    exact Qv k (by split <;> first | rfl | (exfalso; omega)) rfl
theorem c_X8_ticksTo {σ : Sto} {now past aside : Int → Int} {sv rf : Int} {T : TT} {Q : Option Value → Sto → Prop} {j : Int} (hR : RR now) (hO : 0 ≤ plc now j → tOK 20000 now j 0) (r_j : -2147483648 ≤ j ∧ j < 2147483648) (k1 : j < 0 → Q (some (zI (-1))) (mst σ now (past, aside, sv, rf) T)) (k2 : 0 ≤ j → plc now j < 0 → Q (some (zI (-4))) (mst σ now (past, aside, sv, rf) T)) (k3 : 0 ≤ j → 0 ≤ plc now j → Q (some (zI (if plc (ttF 20000 now j 0).2 j < 0 then (ttF 20000 now j 0).1 else -4))) (mst σ (cpr (cpr now aside 0 185) (ttF 20000 now j 0).2 0 185) (past, cpr now aside 0 185, sv, rf) T)) : Con M_X8_ticksTo 150 150 (mst σ now (past, aside, sv, rf) T) [.ref 144, zI j] Q := by
  refine V_entry ok_X8_ticksTo (Nat.le_refl _) (Nat.le_of_ble_eq_true rfl) (V_ls [(0, .ref 144), (1, zI j)] ⟨rfl, rfl, trivial⟩ ?_)
  have h0 := hR.2.1
  have ps := plc_sp now j
  refine V_iload_n (pc := 0) e_X8_ticksTo_0 rfl ?_
  refine V_if_ge (pc := 1) e_X8_ticksTo_1 (by decide) (by omega) (fun h1 => ?_) (fun h1 => ?_)
  · refine V_aload_n (pc := 6) e_X8_ticksTo_6 rfl (Or.inl ⟨_, rfl⟩) ?_
    refine V_iload_n (pc := 7) e_X8_ticksTo_7 rfl ?_
    refine V_cV1 (pc := 8) ca_8_87 e_X8_ticksTo_8 (by decide) (Nat.le_of_ble_eq_true rfl) (by decide) rfl (by decide) (c_X8_placeOf (by omega) hR ?_)
    refine V_if_ge (pc := 11) e_X8_ticksTo_11 (by decide) (by omega) (fun h11 => ?_) (fun h11 => ?_)
    · refine V_aload_n (pc := 17) e_X8_ticksTo_17 rfl (Or.inl ⟨_, rfl⟩) ?_
      refine V_cV0 (pc := 18) ca_8_157 e_X8_ticksTo_18 (by decide) (Nat.le_of_ble_eq_true rfl) (by decide) rfl (by decide) (c_X8_keeps ?_)
      refine V_iconst (pc := 21) e_X8_ticksTo_21 ?_
      refine V_istore_n (pc := 22) e_X8_ticksTo_22 (by decide) ?_
      exact V_lq [(0, .ref 144), (1, zI j), (2, zI 0)] ⟨⟨_, rfl, rfl⟩, ⟨_, rfl, rfl⟩, ⟨_, rfl, rfl⟩, trivial⟩ (L_X8_ticksTo r_j 20000 now 0 (hO (by omega)) (fun v r e1 e2 hr hv => by
        subst e1
        subst e2
        exact T_X8_ticksTo hr r_j (k3 (by omega) (by omega))))
    · refine V_bipush (pc := 14) (by decide) e_X8_ticksTo_14 ?_
      refine V_ret (pc := 16) (v := some (zI _)) ⟨e_X8_ticksTo_16, _, rfl, rfl⟩ ?_
      exact k2 (by omega) (by omega)
  · refine V_iconst (pc := 4) e_X8_ticksTo_4 ?_
    refine V_ret (pc := 5) (v := some (zI _)) ⟨e_X8_ticksTo_5, _, rfl, rfl⟩ ?_
    exact k1 (by omega)
