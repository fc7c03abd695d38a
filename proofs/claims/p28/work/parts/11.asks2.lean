/-! the model's questions, the rest -/
theorem shA_rg {r : Int → Int} (hR : RB r) (s q : Int) : ∀ n : Nat, n ≤ 4 → -3000000 * (n : Int) ≤ shA r s q n ∧ shA r s q n ≤ 3000000 * (n : Int)
  | 0, _ => ⟨by unfold shA; omega, by unfold shA; omega⟩
  | n + 1, h => by
    have i := shA_rg hR s q n (by omega)
    have e := hR (25 + 3 * (n : Int) + 2) (by omega) (by omega) (by omega)
    unfold shA
    split <;> omega
theorem c_X8_sides {σ : Sto} {now : Int → Int} {P : PT} {T : TT} {Q : Option Value → Sto → Prop} {p : Int} (hJ : JB now p) (k : Q (some (zI (sid now p))) (mst σ now P T)) : Con M_X8_sides 150 150 (mst σ now P T) [.ref 144, zI p] Q := by
  refine V_entry ok_X8_sides (Nat.le_refl _) (Nat.le_of_ble_eq_true rfl) (V_ls [(0, .ref 144), (1, zI p)] ⟨rfl, rfl, trivial⟩ ?_)
  have jj := hJ
  unfold JB at jj
  have s := sst_rg hJ
  have b1 := ba_1 (jf now p 5) (by omega) (by omega)
  have ns := nsh_rg hJ
  refine V_aload_n (pc := 0) e_X8_sides_0 rfl (Or.inl ⟨_, rfl⟩) ?_
  refine V_iload_n (pc := 1) e_X8_sides_1 rfl ?_
  refine V_iconst (pc := 2) e_X8_sides_2 ?_
  refine V_cV2 (pc := 3) ca_8_64 e_X8_sides_3 (by decide) (Nat.le_of_ble_eq_true rfl) (by decide) rfl (by decide) (c_X8_of (by omega) ?_)
  refine V_iconst (pc := 6) e_X8_sides_6 ?_
  refine V_iand (pc := 7) e_X8_sides_7 ?_
  refine V_iconst (pc := 8) e_X8_sides_8 ?_
  refine V_icmp_ne (pc := 9) e_X8_sides_9 (by decide) (by omega) (by decide) (fun h9 => ?_) (fun h9 => ?_)
  · refine V_iconst (pc := 42) e_X8_sides_42 ?_
    refine V_istore_n (pc := 43) e_X8_sides_43 (by decide) ?_
    refine V_iload_n (pc := 44) e_X8_sides_44 rfl ?_
    refine V_if_eq (pc := 45) e_X8_sides_45 (by decide) (by decide) (fun _ => ?_) (fun h => absurd (by decide) h)
    refine V_iconst (pc := 52) e_X8_sides_52 ?_
    refine V_ret (pc := 53) (v := some (zI _)) ⟨e_X8_sides_53, _, rfl, rfl⟩ ?_
    exact Qv k (by unfold sid; split <;> omega) rfl
  · refine V_aload_n (pc := 12) e_X8_sides_12 rfl (Or.inl ⟨_, rfl⟩) ?_
    refine V_iload_n (pc := 13) e_X8_sides_13 rfl ?_
    refine V_cV1 (pc := 14) ca_8_106 e_X8_sides_14 (by decide) (Nat.le_of_ble_eq_true rfl) (by decide) rfl (by decide) (c_X8_nextSheet (by assumption) ?_)
    refine V_aload_n (pc := 17) e_X8_sides_17 rfl (Or.inl ⟨_, rfl⟩) ?_
    refine V_iload_n (pc := 18) e_X8_sides_18 rfl ?_
    refine V_cV1 (pc := 19) ca_8_97 e_X8_sides_19 (by decide) (Nat.le_of_ble_eq_true rfl) (by decide) rfl (by decide) (c_X8_setSheets (by assumption) ?_)
    refine V_iconst (pc := 22) e_X8_sides_22 ?_
    refine V_isub (pc := 23) e_X8_sides_23 ?_
    refine V_icmp_lt (pc := 24) e_X8_sides_24 (by decide) (by omega) (by omega) (fun h24 => ?_) (fun h24 => ?_)
    · refine V_iconst (pc := 38) e_X8_sides_38 ?_
      refine V_goto (pc := 39) e_X8_sides_39 (by decide) ?_
      refine V_istore_n (pc := 43) e_X8_sides_43 (by decide) ?_
      refine V_iload_n (pc := 44) e_X8_sides_44 rfl ?_
      refine V_if_eq (pc := 45) e_X8_sides_45 (by decide) (by decide) (fun h => absurd h (by decide)) (fun _ => ?_)
      refine V_iconst (pc := 48) e_X8_sides_48 ?_
      refine V_goto (pc := 49) e_X8_sides_49 (by decide) ?_
      refine V_ret (pc := 53) (v := some (zI _)) ⟨e_X8_sides_53, _, rfl, rfl⟩ ?_
      exact Qv k (by unfold sid; split <;> omega) rfl
    · refine V_aload_n (pc := 27) e_X8_sides_27 rfl (Or.inl ⟨_, rfl⟩) ?_
      refine V_iload_n (pc := 28) e_X8_sides_28 rfl ?_
      refine V_iconst (pc := 29) e_X8_sides_29 ?_
      refine V_cV2 (pc := 30) ca_8_64 e_X8_sides_30 (by decide) (Nat.le_of_ble_eq_true rfl) (by decide) rfl (by decide) (c_X8_of (by omega) ?_)
      refine V_iconst (pc := 33) e_X8_sides_33 ?_
      refine V_irem (pc := 34) e_X8_sides_34 (by omega) (by decide) ?_
      refine V_if_ne (pc := 35) e_X8_sides_35 (by decide) (by omega) (fun h35 => ?_) (fun h35 => ?_)
      · refine V_iconst (pc := 42) e_X8_sides_42 ?_
        refine V_istore_n (pc := 43) e_X8_sides_43 (by decide) ?_
        refine V_iload_n (pc := 44) e_X8_sides_44 rfl ?_
        refine V_if_eq (pc := 45) e_X8_sides_45 (by decide) (by decide) (fun _ => ?_) (fun h => absurd (by decide) h)
        refine V_iconst (pc := 52) e_X8_sides_52 ?_
        refine V_ret (pc := 53) (v := some (zI _)) ⟨e_X8_sides_53, _, rfl, rfl⟩ ?_
        exact Qv k (by unfold sid; split <;> omega) rfl
      · refine V_iconst (pc := 38) e_X8_sides_38 ?_
        refine V_goto (pc := 39) e_X8_sides_39 (by decide) ?_
        refine V_istore_n (pc := 43) e_X8_sides_43 (by decide) ?_
        refine V_iload_n (pc := 44) e_X8_sides_44 rfl ?_
        refine V_if_eq (pc := 45) e_X8_sides_45 (by decide) (by decide) (fun h => absurd h (by decide)) (fun _ => ?_)
        refine V_iconst (pc := 48) e_X8_sides_48 ?_
        refine V_goto (pc := 49) e_X8_sides_49 (by decide) ?_
        refine V_ret (pc := 53) (v := some (zI _)) ⟨e_X8_sides_53, _, rfl, rfl⟩ ?_
        exact Qv k (by unfold sid; split <;> omega) rfl
theorem c_X8_whyStop {σ : Sto} {now : Int → Int} {P : PT} {T : TT} {Q : Option Value → Sto → Prop} {p : Int} (hR : RR now) (hp : p < 0 ∨ JB now p) (r_p : -2147483648 ≤ p ∧ p < 2147483648) (k : Q (some (zI (wst now p))) (mst σ now P T)) : Con M_X8_whyStop 150 150 (mst σ now P T) [.ref 144, zI p] Q := by
  refine V_entry ok_X8_whyStop (Nat.le_refl _) (Nat.le_of_ble_eq_true rfl) (V_ls [(0, .ref 144), (1, zI p)] ⟨rfl, rfl, trivial⟩ ?_)
  have g2 := hR.1 2 (by decide) (by decide) (by decide)
  have g3 := hR.1 3 (by decide) (by decide) (by decide)
  have g15 := hR.1 15 (by decide) (by decide) (by decide)
  have sh := shA_rg hR.1 (jf now p 3) (jf now p 4) 4 (by omega)
  refine V_iload_n (pc := 0) e_X8_whyStop_0 rfl ?_
  refine V_if_ge (pc := 1) e_X8_whyStop_1 (by decide) (by omega) (fun h1 => ?_) (fun h1 => ?_)
  · have hJ : JB now p := hp.resolve_left (by omega)
    have jj := hJ
    unfold JB at jj
    refine V_aload_n (pc := 6) e_X8_whyStop_6 rfl (Or.inl ⟨_, rfl⟩) ?_
    refine V_iload_n (pc := 7) e_X8_whyStop_7 rfl ?_
    refine V_cV1 (pc := 8) ca_8_121 e_X8_whyStop_8 (by decide) (Nat.le_of_ble_eq_true rfl) (by decide) rfl (by decide) (c_X8_hasSet (by assumption) (fun h_hs => ?_) (fun h_hs => ?_))
    · refine V_if_eq (pc := 11) e_X8_whyStop_11 (by decide) (by decide) (fun h => absurd h (by decide)) (fun _ => ?_)
      refine V_aload_n (pc := 14) e_X8_whyStop_14 rfl (Or.inl ⟨_, rfl⟩) ?_
      refine V_getR (pc := 15) (q := 0) (j := 145) fx_8_7 e_X8_whyStop_15 rfl rfl (by decide) rfl rfl ?_
      refine V_iconst (pc := 18) e_X8_whyStop_18 ?_
      refine Vm_now (pc := 19) e_X8_whyStop_19 (by decide) ?_
      refine V_aload_n (pc := 20) e_X8_whyStop_20 rfl (Or.inl ⟨_, rfl⟩) ?_
      refine V_iload_n (pc := 21) e_X8_whyStop_21 rfl ?_
      refine V_cV1 (pc := 22) ca_8_118 e_X8_whyStop_22 (by decide) (Nat.le_of_ble_eq_true rfl) (by decide) rfl (by decide) (c_X8_staplesOf (by assumption) ?_)
      refine V_icmp_ge (pc := 25) e_X8_whyStop_25 (by decide) (by omega) (by omega) (fun h25 => ?_) (fun h25 => ?_)
      · refine V_iconst (pc := 32) e_X8_whyStop_32 ?_
        refine V_ret (pc := 33) (v := some (zI _)) ⟨e_X8_whyStop_33, _, rfl, rfl⟩ ?_
        exact Qv k (by unfold wst; (repeat' split) <;> omega) rfl
      · refine V_iconst (pc := 28) e_X8_whyStop_28 ?_
        refine V_goto (pc := 29) e_X8_whyStop_29 (by decide) ?_
        refine V_ret (pc := 33) (v := some (zI _)) ⟨e_X8_whyStop_33, _, rfl, rfl⟩ ?_
        exact Qv k (by unfold wst; (repeat' split) <;> omega) rfl
    · refine V_if_eq (pc := 11) e_X8_whyStop_11 (by decide) (by decide) (fun _ => ?_) (fun h => absurd (by decide) h)
      refine V_aload_n (pc := 34) e_X8_whyStop_34 rfl (Or.inl ⟨_, rfl⟩) ?_
      refine V_aload_n (pc := 35) e_X8_whyStop_35 rfl (Or.inl ⟨_, rfl⟩) ?_
      refine V_iload_n (pc := 36) e_X8_whyStop_36 rfl ?_
      refine V_iconst (pc := 37) e_X8_whyStop_37 ?_
      refine V_cV2 (pc := 38) ca_8_64 e_X8_whyStop_38 (by decide) (Nat.le_of_ble_eq_true rfl) (by decide) rfl (by decide) (c_X8_of (by omega) ?_)
      refine V_aload_n (pc := 41) e_X8_whyStop_41 rfl (Or.inl ⟨_, rfl⟩) ?_
      refine V_iload_n (pc := 42) e_X8_whyStop_42 rfl ?_
      refine V_iconst (pc := 43) e_X8_whyStop_43 ?_
      refine V_cV2 (pc := 44) ca_8_64 e_X8_whyStop_44 (by decide) (Nat.le_of_ble_eq_true rfl) (by decide) rfl (by decide) (c_X8_of (by omega) ?_)
      refine V_cV2 (pc := 47) ca_8_50 e_X8_whyStop_47 (by decide) (Nat.le_of_ble_eq_true rfl) (by decide) rfl (by decide) (c_X8_sheetsOf hR.1 (by omega) (by omega) ?_)
      refine V_if_ne (pc := 50) e_X8_whyStop_50 (by decide) (by omega) (fun h50 => ?_) (fun h50 => ?_)
      · refine V_aload_n (pc := 57) e_X8_whyStop_57 rfl (Or.inl ⟨_, rfl⟩) ?_
        refine V_getR (pc := 58) (q := 0) (j := 145) fx_8_7 e_X8_whyStop_58 rfl rfl (by decide) rfl rfl ?_
        refine V_iconst (pc := 61) e_X8_whyStop_61 ?_
        refine Vm_now (pc := 62) e_X8_whyStop_62 (by decide) ?_
        refine V_aload_n (pc := 63) e_X8_whyStop_63 rfl (Or.inl ⟨_, rfl⟩) ?_
        refine V_getR (pc := 64) (q := 0) (j := 145) fx_8_7 e_X8_whyStop_64 rfl rfl (by decide) rfl rfl ?_
        refine V_bipush (pc := 67) (by decide) e_X8_whyStop_67 ?_
        refine Vm_now (pc := 69) e_X8_whyStop_69 (by decide) ?_
        refine V_icmp_lt (pc := 70) e_X8_whyStop_70 (by decide) (by omega) (by omega) (fun h70 => ?_) (fun h70 => ?_)
        · refine V_iconst (pc := 77) e_X8_whyStop_77 ?_
          refine V_ret (pc := 78) (v := some (zI _)) ⟨e_X8_whyStop_78, _, rfl, rfl⟩ ?_
          exact Qv k (by unfold wst; (repeat' split) <;> omega) rfl
        · refine V_iconst (pc := 73) e_X8_whyStop_73 ?_
          refine V_goto (pc := 74) e_X8_whyStop_74 (by decide) ?_
          refine V_ret (pc := 78) (v := some (zI _)) ⟨e_X8_whyStop_78, _, rfl, rfl⟩ ?_
          exact Qv k (by unfold wst; (repeat' split) <;> omega) rfl
      · refine V_iconst (pc := 53) e_X8_whyStop_53 ?_
        refine V_goto (pc := 54) e_X8_whyStop_54 (by decide) ?_
        refine V_ret (pc := 78) (v := some (zI _)) ⟨e_X8_whyStop_78, _, rfl, rfl⟩ ?_
        exact Qv k (by unfold wst; (repeat' split) <;> omega) rfl
  · refine V_iconst (pc := 4) e_X8_whyStop_4 ?_
    refine V_ret (pc := 5) (v := some (zI _)) ⟨e_X8_whyStop_5, _, rfl, rfl⟩ ?_
    exact Qv k (by unfold wst; (repeat' split) <;> omega) rfl
theorem c_X8_isAhead {σ : Sto} {now : Int → Int} {P : PT} {T : TT} {Q : Option Value → Sto → Prop} {p q : Int} (h7 : -3000000 ≤ now 7 ∧ now 7 ≤ 3000000) (hJ : JB now p) (hK : JB now q) (k1 : ahd now p q → Q (some (zI 1)) (mst σ now P T)) (k0 : ¬ (ahd now p q) → Q (some (zI 0)) (mst σ now P T)) : Con M_X8_isAhead 150 150 (mst σ now P T) [.ref 144, zI p, zI q] Q := by
  refine V_entry ok_X8_isAhead (Nat.le_refl _) (Nat.le_of_ble_eq_true rfl) (V_ls [(0, .ref 144), (1, zI p), (2, zI q)] ⟨rfl, rfl, rfl, trivial⟩ ?_)
  have jj := hJ
  unfold JB at jj
  have k := hK
  unfold JB at k
  refine V_aload_n (pc := 0) e_X8_isAhead_0 rfl (Or.inl ⟨_, rfl⟩) ?_
  refine V_iload_n (pc := 1) e_X8_isAhead_1 rfl ?_
  refine V_bipush (pc := 2) (by decide) e_X8_isAhead_2 ?_
  refine V_cV2 (pc := 4) ca_8_64 e_X8_isAhead_4 (by decide) (Nat.le_of_ble_eq_true rfl) (by decide) rfl (by decide) (c_X8_of (by omega) ?_)
  refine V_aload_n (pc := 7) e_X8_isAhead_7 rfl (Or.inl ⟨_, rfl⟩) ?_
  refine V_iload_n (pc := 8) e_X8_isAhead_8 rfl ?_
  refine V_bipush (pc := 9) (by decide) e_X8_isAhead_9 ?_
  refine V_cV2 (pc := 11) ca_8_64 e_X8_isAhead_11 (by decide) (Nat.le_of_ble_eq_true rfl) (by decide) rfl (by decide) (c_X8_of (by omega) ?_)
  refine V_icmp_eq (pc := 14) e_X8_isAhead_14 (by decide) (by omega) (by omega) (fun h14 => ?_) (fun h14 => ?_)
  · refine V_aload_n (pc := 33) e_X8_isAhead_33 rfl (Or.inl ⟨_, rfl⟩) ?_
    refine V_iload_n (pc := 34) e_X8_isAhead_34 rfl ?_
    refine V_iconst (pc := 35) e_X8_isAhead_35 ?_
    refine V_cV2 (pc := 36) ca_8_64 e_X8_isAhead_36 (by decide) (Nat.le_of_ble_eq_true rfl) (by decide) rfl (by decide) (c_X8_of (by omega) ?_)
    refine V_aload_n (pc := 39) e_X8_isAhead_39 rfl (Or.inl ⟨_, rfl⟩) ?_
    refine V_getR (pc := 40) (q := 0) (j := 145) fx_8_7 e_X8_isAhead_40 rfl rfl (by decide) rfl rfl ?_
    refine V_bipush (pc := 43) (by decide) e_X8_isAhead_43 ?_
    refine Vm_now (pc := 45) e_X8_isAhead_45 (by decide) ?_
    refine V_icmp_eq (pc := 46) e_X8_isAhead_46 (by decide) (by omega) (by omega) (fun h46 => ?_) (fun h46 => ?_)
    · refine V_aload_n (pc := 65) e_X8_isAhead_65 rfl (Or.inl ⟨_, rfl⟩) ?_
      refine V_iload_n (pc := 66) e_X8_isAhead_66 rfl ?_
      refine V_iconst (pc := 67) e_X8_isAhead_67 ?_
      refine V_cV2 (pc := 68) ca_8_64 e_X8_isAhead_68 (by decide) (Nat.le_of_ble_eq_true rfl) (by decide) rfl (by decide) (c_X8_of (by omega) ?_)
      refine V_aload_n (pc := 71) e_X8_isAhead_71 rfl (Or.inl ⟨_, rfl⟩) ?_
      refine V_getR (pc := 72) (q := 0) (j := 145) fx_8_7 e_X8_isAhead_72 rfl rfl (by decide) rfl rfl ?_
      refine V_bipush (pc := 75) (by decide) e_X8_isAhead_75 ?_
      refine Vm_now (pc := 77) e_X8_isAhead_77 (by decide) ?_
      refine V_icmp_ne (pc := 78) e_X8_isAhead_78 (by decide) (by omega) (by omega) (fun h78 => ?_) (fun h78 => ?_)
      · refine V_iconst (pc := 85) e_X8_isAhead_85 ?_
        refine V_ret (pc := 86) (v := some (zI _)) ⟨e_X8_isAhead_86, _, rfl, by decide⟩ ?_
        first | exact k1 (by omega) | exact k0 (by omega)
      · refine V_iconst (pc := 81) e_X8_isAhead_81 ?_
        refine V_goto (pc := 82) e_X8_isAhead_82 (by decide) ?_
        refine V_ret (pc := 86) (v := some (zI _)) ⟨e_X8_isAhead_86, _, rfl, by decide⟩ ?_
        first | exact k1 (by omega) | exact k0 (by omega)
    · refine V_aload_n (pc := 49) e_X8_isAhead_49 rfl (Or.inl ⟨_, rfl⟩) ?_
      refine V_iload_n (pc := 50) e_X8_isAhead_50 rfl ?_
      refine V_iconst (pc := 51) e_X8_isAhead_51 ?_
      refine V_cV2 (pc := 52) ca_8_64 e_X8_isAhead_52 (by decide) (Nat.le_of_ble_eq_true rfl) (by decide) rfl (by decide) (c_X8_of (by omega) ?_)
      refine V_aload_n (pc := 55) e_X8_isAhead_55 rfl (Or.inl ⟨_, rfl⟩) ?_
      refine V_getR (pc := 56) (q := 0) (j := 145) fx_8_7 e_X8_isAhead_56 rfl rfl (by decide) rfl rfl ?_
      refine V_bipush (pc := 59) (by decide) e_X8_isAhead_59 ?_
      refine Vm_now (pc := 61) e_X8_isAhead_61 (by decide) ?_
      refine V_icmp_ne (pc := 62) e_X8_isAhead_62 (by decide) (by omega) (by omega) (fun h62 => ?_) (fun h62 => ?_)
      · refine V_aload_n (pc := 87) e_X8_isAhead_87 rfl (Or.inl ⟨_, rfl⟩) ?_
        refine V_iload_n (pc := 88) e_X8_isAhead_88 rfl ?_
        refine V_bipush (pc := 89) (by decide) e_X8_isAhead_89 ?_
        refine V_cV2 (pc := 91) ca_8_64 e_X8_isAhead_91 (by decide) (Nat.le_of_ble_eq_true rfl) (by decide) rfl (by decide) (c_X8_of (by omega) ?_)
        refine V_aload_n (pc := 94) e_X8_isAhead_94 rfl (Or.inl ⟨_, rfl⟩) ?_
        refine V_iload_n (pc := 95) e_X8_isAhead_95 rfl ?_
        refine V_bipush (pc := 96) (by decide) e_X8_isAhead_96 ?_
        refine V_cV2 (pc := 98) ca_8_64 e_X8_isAhead_98 (by decide) (Nat.le_of_ble_eq_true rfl) (by decide) rfl (by decide) (c_X8_of (by omega) ?_)
        refine V_icmp_eq (pc := 101) e_X8_isAhead_101 (by decide) (by omega) (by omega) (fun h101 => ?_) (fun h101 => ?_)
        · refine V_iload_n (pc := 129) e_X8_isAhead_129 rfl ?_
          refine V_iload_n (pc := 130) e_X8_isAhead_130 rfl ?_
          refine V_icmp_ge (pc := 131) e_X8_isAhead_131 (by decide) (by omega) (by omega) (fun h131 => ?_) (fun h131 => ?_)
          · refine V_iconst (pc := 138) e_X8_isAhead_138 ?_
            refine V_ret (pc := 139) (v := some (zI _)) ⟨e_X8_isAhead_139, _, rfl, by decide⟩ ?_
            first | exact k1 (by omega) | exact k0 (by omega)
          · refine V_iconst (pc := 134) e_X8_isAhead_134 ?_
            refine V_goto (pc := 135) e_X8_isAhead_135 (by decide) ?_
            refine V_ret (pc := 139) (v := some (zI _)) ⟨e_X8_isAhead_139, _, rfl, by decide⟩ ?_
            first | exact k1 (by omega) | exact k0 (by omega)
        · refine V_aload_n (pc := 104) e_X8_isAhead_104 rfl (Or.inl ⟨_, rfl⟩) ?_
          refine V_iload_n (pc := 105) e_X8_isAhead_105 rfl ?_
          refine V_bipush (pc := 106) (by decide) e_X8_isAhead_106 ?_
          refine V_cV2 (pc := 108) ca_8_64 e_X8_isAhead_108 (by decide) (Nat.le_of_ble_eq_true rfl) (by decide) rfl (by decide) (c_X8_of (by omega) ?_)
          refine V_aload_n (pc := 111) e_X8_isAhead_111 rfl (Or.inl ⟨_, rfl⟩) ?_
          refine V_iload_n (pc := 112) e_X8_isAhead_112 rfl ?_
          refine V_bipush (pc := 113) (by decide) e_X8_isAhead_113 ?_
          refine V_cV2 (pc := 115) ca_8_64 e_X8_isAhead_115 (by decide) (Nat.le_of_ble_eq_true rfl) (by decide) rfl (by decide) (c_X8_of (by omega) ?_)
          refine V_icmp_le (pc := 118) e_X8_isAhead_118 (by decide) (by omega) (by omega) (fun h118 => ?_) (fun h118 => ?_)
          · refine V_iconst (pc := 125) e_X8_isAhead_125 ?_
            refine V_goto (pc := 126) e_X8_isAhead_126 (by decide) ?_
            refine V_ret (pc := 139) (v := some (zI _)) ⟨e_X8_isAhead_139, _, rfl, by decide⟩ ?_
            first | exact k1 (by omega) | exact k0 (by omega)
          · refine V_iconst (pc := 121) e_X8_isAhead_121 ?_
            refine V_goto (pc := 122) e_X8_isAhead_122 (by decide) ?_
            refine V_ret (pc := 139) (v := some (zI _)) ⟨e_X8_isAhead_139, _, rfl, by decide⟩ ?_
            first | exact k1 (by omega) | exact k0 (by omega)
      · refine V_aload_n (pc := 65) e_X8_isAhead_65 rfl (Or.inl ⟨_, rfl⟩) ?_
        refine V_iload_n (pc := 66) e_X8_isAhead_66 rfl ?_
        refine V_iconst (pc := 67) e_X8_isAhead_67 ?_
        refine V_cV2 (pc := 68) ca_8_64 e_X8_isAhead_68 (by decide) (Nat.le_of_ble_eq_true rfl) (by decide) rfl (by decide) (c_X8_of (by omega) ?_)
        refine V_aload_n (pc := 71) e_X8_isAhead_71 rfl (Or.inl ⟨_, rfl⟩) ?_
        refine V_getR (pc := 72) (q := 0) (j := 145) fx_8_7 e_X8_isAhead_72 rfl rfl (by decide) rfl rfl ?_
        refine V_bipush (pc := 75) (by decide) e_X8_isAhead_75 ?_
        refine Vm_now (pc := 77) e_X8_isAhead_77 (by decide) ?_
        refine V_icmp_ne (pc := 78) e_X8_isAhead_78 (by decide) (by omega) (by omega) (fun h78 => ?_) (fun h78 => ?_)
        · refine V_iconst (pc := 85) e_X8_isAhead_85 ?_
          refine V_ret (pc := 86) (v := some (zI _)) ⟨e_X8_isAhead_86, _, rfl, by decide⟩ ?_
          first | exact k1 (by omega) | exact k0 (by omega)
        · refine V_iconst (pc := 81) e_X8_isAhead_81 ?_
          refine V_goto (pc := 82) e_X8_isAhead_82 (by decide) ?_
          refine V_ret (pc := 86) (v := some (zI _)) ⟨e_X8_isAhead_86, _, rfl, by decide⟩ ?_
          first | exact k1 (by omega) | exact k0 (by omega)
  · refine V_aload_n (pc := 17) e_X8_isAhead_17 rfl (Or.inl ⟨_, rfl⟩) ?_
    refine V_iload_n (pc := 18) e_X8_isAhead_18 rfl ?_
    refine V_bipush (pc := 19) (by decide) e_X8_isAhead_19 ?_
    refine V_cV2 (pc := 21) ca_8_64 e_X8_isAhead_21 (by decide) (Nat.le_of_ble_eq_true rfl) (by decide) rfl (by decide) (c_X8_of (by omega) ?_)
    refine V_if_ne (pc := 24) e_X8_isAhead_24 (by decide) (by omega) (fun h24 => ?_) (fun h24 => ?_)
    · refine V_iconst (pc := 31) e_X8_isAhead_31 ?_
      refine V_ret (pc := 32) (v := some (zI _)) ⟨e_X8_isAhead_32, _, rfl, by decide⟩ ?_
      first | exact k1 (by omega) | exact k0 (by omega)
    · refine V_iconst (pc := 27) e_X8_isAhead_27 ?_
      refine V_goto (pc := 28) e_X8_isAhead_28 (by decide) ?_
      refine V_ret (pc := 32) (v := some (zI _)) ⟨e_X8_isAhead_32, _, rfl, by decide⟩ ?_
      first | exact k1 (by omega) | exact k0 (by omega)
theorem c_X8_tellJob {σ : Sto} {now : Int → Int} {P : PT} {T : TT} {Q : Option Value → Sto → Prop} {p w : Int} (hJ : JB now p) (hw : 0 ≤ w ∧ w ≤ 12) (k : Q (some (zI (telF now p w))) (mst σ now P T)) : Con M_X8_tellJob 150 150 (mst σ now P T) [.ref 144, zI p, zI w] Q := by
  refine V_entry ok_X8_tellJob (Nat.le_refl _) (Nat.le_of_ble_eq_true rfl) (V_ls [(0, .ref 144), (1, zI p), (2, zI w)] ⟨rfl, rfl, rfl, trivial⟩ ?_)
  have jj := hJ
  unfold JB at jj
  have a := als_rg hJ
  refine V_aload_n (pc := 0) e_X8_tellJob_0 rfl (Or.inl ⟨_, rfl⟩) ?_
  refine V_iload_n (pc := 1) e_X8_tellJob_1 rfl ?_
  refine V_bipush (pc := 2) (by decide) e_X8_tellJob_2 ?_
  refine V_cV2 (pc := 4) ca_8_64 e_X8_tellJob_4 (by decide) (Nat.le_of_ble_eq_true rfl) (by decide) rfl (by decide) (c_X8_of (by omega) ?_)
  refine V_aload_n (pc := 7) e_X8_tellJob_7 rfl (Or.inl ⟨_, rfl⟩) ?_
  refine V_iload_n (pc := 8) e_X8_tellJob_8 rfl ?_
  refine V_cV1 (pc := 9) ca_8_103 e_X8_tellJob_9 (by decide) (Nat.le_of_ble_eq_true rfl) (by decide) rfl (by decide) (c_X8_allSheets (by assumption) ?_)
  refine V_icmp_ne (pc := 12) e_X8_tellJob_12 (by decide) (by omega) (by omega) (fun h12 => ?_) (fun h12 => ?_)
  · refine V_iconst (pc := 19) e_X8_tellJob_19 ?_
    refine V_istore_n (pc := 20) e_X8_tellJob_20 (by decide) ?_
    refine V_iload_n (pc := 21) e_X8_tellJob_21 rfl ?_
    refine V_table (pc := 22) e_X8_tellJob_22 (by decide) (by decide) (by decide) (by omega) (fun h22 => ?_) (fun j o h22 ho => ?_)
    · refine V_aload_n (pc := 118) e_X8_tellJob_118 rfl (Or.inl ⟨_, rfl⟩) ?_
      refine V_iload_n (pc := 119) e_X8_tellJob_119 rfl ?_
      refine V_iconst (pc := 120) e_X8_tellJob_120 ?_
      refine V_iload_n (pc := 121) e_X8_tellJob_121 rfl ?_
      refine V_iadd (pc := 122) e_X8_tellJob_122 ?_
      refine V_cV2 (pc := 123) ca_8_64 e_X8_tellJob_123 (by decide) (Nat.le_of_ble_eq_true rfl) (by decide) rfl (by decide) (c_X8_of (by omega) ?_)
      refine V_ret (pc := 126) (v := some (zI _)) ⟨e_X8_tellJob_126, _, rfl, rfl⟩ ?_
      exact Qv k (by unfold telF; (repeat' split) <;> first | rfl | omega) rfl
    · match j, ho with
      | 0, ho =>
        obtain rfl := Option.some.inj ho
        refine V_aload_n (pc := 60) e_X8_tellJob_60 rfl (Or.inl ⟨_, rfl⟩) ?_
        refine V_iload_n (pc := 61) e_X8_tellJob_61 rfl ?_
        refine V_cV1 (pc := 62) ca_8_97 e_X8_tellJob_62 (by decide) (Nat.le_of_ble_eq_true rfl) (by decide) rfl (by decide) (c_X8_setSheets (by assumption) ?_)
        refine V_ret (pc := 65) (v := some (zI _)) ⟨e_X8_tellJob_65, _, rfl, rfl⟩ ?_
        exact Qv k (by unfold telF; (repeat' split) <;> first | rfl | omega) rfl
      | 1, ho =>
        obtain rfl := Option.some.inj ho
        refine V_aload_n (pc := 66) e_X8_tellJob_66 rfl (Or.inl ⟨_, rfl⟩) ?_
        refine V_iload_n (pc := 67) e_X8_tellJob_67 rfl ?_
        refine V_cV1 (pc := 68) ca_8_103 e_X8_tellJob_68 (by decide) (Nat.le_of_ble_eq_true rfl) (by decide) rfl (by decide) (c_X8_allSheets (by assumption) ?_)
        refine V_ret (pc := 71) (v := some (zI _)) ⟨e_X8_tellJob_71, _, rfl, rfl⟩ ?_
        exact Qv k (by unfold telF; (repeat' split) <;> first | rfl | omega) rfl
      | 2, ho =>
        obtain rfl := Option.some.inj ho
        refine V_aload_n (pc := 72) e_X8_tellJob_72 rfl (Or.inl ⟨_, rfl⟩) ?_
        refine V_iload_n (pc := 73) e_X8_tellJob_73 rfl ?_
        refine V_bipush (pc := 74) (by decide) e_X8_tellJob_74 ?_
        refine V_cV2 (pc := 76) ca_8_64 e_X8_tellJob_76 (by decide) (Nat.le_of_ble_eq_true rfl) (by decide) rfl (by decide) (c_X8_of (by omega) ?_)
        refine V_ret (pc := 79) (v := some (zI _)) ⟨e_X8_tellJob_79, _, rfl, rfl⟩ ?_
        exact Qv k (by unfold telF; (repeat' split) <;> first | rfl | omega) rfl
      | 3, ho =>
        obtain rfl := Option.some.inj ho
        refine V_aload_n (pc := 80) e_X8_tellJob_80 rfl (Or.inl ⟨_, rfl⟩) ?_
        refine V_iload_n (pc := 81) e_X8_tellJob_81 rfl ?_
        refine V_bipush (pc := 82) (by decide) e_X8_tellJob_82 ?_
        refine V_cV2 (pc := 84) ca_8_64 e_X8_tellJob_84 (by decide) (Nat.le_of_ble_eq_true rfl) (by decide) rfl (by decide) (c_X8_of (by omega) ?_)
        refine V_ret (pc := 87) (v := some (zI _)) ⟨e_X8_tellJob_87, _, rfl, rfl⟩ ?_
        exact Qv k (by unfold telF; (repeat' split) <;> first | rfl | omega) rfl
      | 4, ho =>
        obtain rfl := Option.some.inj ho
        refine V_iload_n (pc := 88) e_X8_tellJob_88 rfl ?_
        refine V_if_eq (pc := 89) e_X8_tellJob_89 (by decide) (by decide) (fun _ => ?_) (fun h => absurd (by decide) h)
        refine V_aload_n (pc := 97) e_X8_tellJob_97 rfl (Or.inl ⟨_, rfl⟩) ?_
        refine V_iload_n (pc := 98) e_X8_tellJob_98 rfl ?_
        refine V_cV1 (pc := 99) ca_8_106 e_X8_tellJob_99 (by decide) (Nat.le_of_ble_eq_true rfl) (by decide) rfl (by decide) (c_X8_nextSheet (by assumption) ?_)
        refine V_ret (pc := 102) (v := some (zI _)) ⟨e_X8_tellJob_102, _, rfl, rfl⟩ ?_
        exact Qv k (by unfold telF; (repeat' split) <;> first | rfl | omega) rfl
      | 5, ho =>
        obtain rfl := Option.some.inj ho
        refine V_iload_n (pc := 103) e_X8_tellJob_103 rfl ?_
        refine V_if_eq (pc := 104) e_X8_tellJob_104 (by decide) (by decide) (fun _ => ?_) (fun h => absurd (by decide) h)
        refine V_aload_n (pc := 112) e_X8_tellJob_112 rfl (Or.inl ⟨_, rfl⟩) ?_
        refine V_iload_n (pc := 113) e_X8_tellJob_113 rfl ?_
        refine V_cV1 (pc := 114) ca_8_109 e_X8_tellJob_114 (by decide) (Nat.le_of_ble_eq_true rfl) (by decide) rfl (by decide) (c_X8_nextCopy (by assumption) ?_)
        refine V_ret (pc := 117) (v := some (zI _)) ⟨e_X8_tellJob_117, _, rfl, rfl⟩ ?_
        exact Qv k (by unfold telF; (repeat' split) <;> first | rfl | omega) rfl
      | j + 6, ho => exact absurd ho (by simp)
  · refine V_iconst (pc := 15) e_X8_tellJob_15 ?_
    refine V_goto (pc := 16) e_X8_tellJob_16 (by decide) ?_
    refine V_istore_n (pc := 20) e_X8_tellJob_20 (by decide) ?_
    refine V_iload_n (pc := 21) e_X8_tellJob_21 rfl ?_
    refine V_table (pc := 22) e_X8_tellJob_22 (by decide) (by decide) (by decide) (by omega) (fun h22 => ?_) (fun j o h22 ho => ?_)
    · refine V_aload_n (pc := 118) e_X8_tellJob_118 rfl (Or.inl ⟨_, rfl⟩) ?_
      refine V_iload_n (pc := 119) e_X8_tellJob_119 rfl ?_
      refine V_iconst (pc := 120) e_X8_tellJob_120 ?_
      refine V_iload_n (pc := 121) e_X8_tellJob_121 rfl ?_
      refine V_iadd (pc := 122) e_X8_tellJob_122 ?_
      refine V_cV2 (pc := 123) ca_8_64 e_X8_tellJob_123 (by decide) (Nat.le_of_ble_eq_true rfl) (by decide) rfl (by decide) (c_X8_of (by omega) ?_)
      refine V_ret (pc := 126) (v := some (zI _)) ⟨e_X8_tellJob_126, _, rfl, rfl⟩ ?_
      exact Qv k (by unfold telF; (repeat' split) <;> first | rfl | omega) rfl
    · match j, ho with
      | 0, ho =>
        obtain rfl := Option.some.inj ho
        refine V_aload_n (pc := 60) e_X8_tellJob_60 rfl (Or.inl ⟨_, rfl⟩) ?_
        refine V_iload_n (pc := 61) e_X8_tellJob_61 rfl ?_
        refine V_cV1 (pc := 62) ca_8_97 e_X8_tellJob_62 (by decide) (Nat.le_of_ble_eq_true rfl) (by decide) rfl (by decide) (c_X8_setSheets (by assumption) ?_)
        refine V_ret (pc := 65) (v := some (zI _)) ⟨e_X8_tellJob_65, _, rfl, rfl⟩ ?_
        exact Qv k (by unfold telF; (repeat' split) <;> first | rfl | omega) rfl
      | 1, ho =>
        obtain rfl := Option.some.inj ho
        refine V_aload_n (pc := 66) e_X8_tellJob_66 rfl (Or.inl ⟨_, rfl⟩) ?_
        refine V_iload_n (pc := 67) e_X8_tellJob_67 rfl ?_
        refine V_cV1 (pc := 68) ca_8_103 e_X8_tellJob_68 (by decide) (Nat.le_of_ble_eq_true rfl) (by decide) rfl (by decide) (c_X8_allSheets (by assumption) ?_)
        refine V_ret (pc := 71) (v := some (zI _)) ⟨e_X8_tellJob_71, _, rfl, rfl⟩ ?_
        exact Qv k (by unfold telF; (repeat' split) <;> first | rfl | omega) rfl
      | 2, ho =>
        obtain rfl := Option.some.inj ho
        refine V_aload_n (pc := 72) e_X8_tellJob_72 rfl (Or.inl ⟨_, rfl⟩) ?_
        refine V_iload_n (pc := 73) e_X8_tellJob_73 rfl ?_
        refine V_bipush (pc := 74) (by decide) e_X8_tellJob_74 ?_
        refine V_cV2 (pc := 76) ca_8_64 e_X8_tellJob_76 (by decide) (Nat.le_of_ble_eq_true rfl) (by decide) rfl (by decide) (c_X8_of (by omega) ?_)
        refine V_ret (pc := 79) (v := some (zI _)) ⟨e_X8_tellJob_79, _, rfl, rfl⟩ ?_
        exact Qv k (by unfold telF; (repeat' split) <;> first | rfl | omega) rfl
      | 3, ho =>
        obtain rfl := Option.some.inj ho
        refine V_aload_n (pc := 80) e_X8_tellJob_80 rfl (Or.inl ⟨_, rfl⟩) ?_
        refine V_iload_n (pc := 81) e_X8_tellJob_81 rfl ?_
        refine V_bipush (pc := 82) (by decide) e_X8_tellJob_82 ?_
        refine V_cV2 (pc := 84) ca_8_64 e_X8_tellJob_84 (by decide) (Nat.le_of_ble_eq_true rfl) (by decide) rfl (by decide) (c_X8_of (by omega) ?_)
        refine V_ret (pc := 87) (v := some (zI _)) ⟨e_X8_tellJob_87, _, rfl, rfl⟩ ?_
        exact Qv k (by unfold telF; (repeat' split) <;> first | rfl | omega) rfl
      | 4, ho =>
        obtain rfl := Option.some.inj ho
        refine V_iload_n (pc := 88) e_X8_tellJob_88 rfl ?_
        refine V_if_eq (pc := 89) e_X8_tellJob_89 (by decide) (by decide) (fun h => absurd h (by decide)) (fun _ => ?_)
        refine V_bipush (pc := 92) (by decide) e_X8_tellJob_92 ?_
        refine V_goto (pc := 94) e_X8_tellJob_94 (by decide) ?_
        refine V_ret (pc := 102) (v := some (zI _)) ⟨e_X8_tellJob_102, _, rfl, rfl⟩ ?_
        exact Qv k (by unfold telF; (repeat' split) <;> first | rfl | omega) rfl
      | 5, ho =>
        obtain rfl := Option.some.inj ho
        refine V_iload_n (pc := 103) e_X8_tellJob_103 rfl ?_
        refine V_if_eq (pc := 104) e_X8_tellJob_104 (by decide) (by decide) (fun h => absurd h (by decide)) (fun _ => ?_)
        refine V_bipush (pc := 107) (by decide) e_X8_tellJob_107 ?_
        refine V_goto (pc := 109) e_X8_tellJob_109 (by decide) ?_
        refine V_ret (pc := 117) (v := some (zI _)) ⟨e_X8_tellJob_117, _, rfl, rfl⟩ ?_
        exact Qv k (by unfold telF; (repeat' split) <;> first | rfl | omega) rfl
      | j + 6, ho => exact absurd ho (by simp)
theorem sof_w {pg hw : Int} (h : 0 ≤ pg ∧ pg ≤ 999) : 0 ≤ sof pg hw ∧ sof pg hw ≤ 1000 := by
  unfold sof
  split <;> omega
theorem c_X8_whyNot {σ : Sto} {now : Int → Int} {P : PT} {T : TT} {Q : Option Value → Sto → Prop} {pg kd hw : Int} (h13 : 0 ≤ now 13 ∧ now 13 ≤ 1000) (hp : 0 ≤ pg ∧ pg ≤ 999) (hk : 0 ≤ kd ∧ kd ≤ 3) (hh : 0 ≤ hw ∧ hw < 16) (k : Q (some (zI (wny now pg kd hw))) (mst σ now P T)) : Con M_X8_whyNot 150 150 (mst σ now P T) [.ref 144, zI pg, zI kd, zI hw] Q := by
  refine V_entry ok_X8_whyNot (Nat.le_refl _) (Nat.le_of_ble_eq_true rfl) (V_ls [(0, .ref 144), (1, zI pg), (2, zI kd), (3, zI hw)] ⟨rfl, rfl, rfl, rfl, trivial⟩ ?_)
  have b2 := ba_2 hw (by omega) (by omega)
  have so := sof_w (hw := hw) hp
  refine V_iload_n (pc := 0) e_X8_whyNot_0 rfl ?_
  refine V_iconst (pc := 1) e_X8_whyNot_1 ?_
  refine V_icmp_ge (pc := 2) e_X8_whyNot_2 (by decide) (by omega) (by decide) (fun h2 => ?_) (fun h2 => ?_)
  · refine V_iload_n (pc := 7) e_X8_whyNot_7 rfl ?_
    refine V_iload_n (pc := 8) e_X8_whyNot_8 rfl ?_
    refine V_cS2 (pc := 9) ca_8_67 e_X8_whyNot_9 (by decide) (Nat.le_of_ble_eq_true rfl) (c_X8_setOf (by omega) (by omega) ?_)
    refine V_istore (pc := 12) e_X8_whyNot_12 (by decide) ?_
    refine V_iload_n (pc := 14) e_X8_whyNot_14 rfl ?_
    refine V_iconst (pc := 15) e_X8_whyNot_15 ?_
    refine V_icmp_ne (pc := 16) e_X8_whyNot_16 (by decide) (by omega) (by decide) (fun h16 => ?_) (fun h16 => ?_)
    · refine V_aload_n (pc := 31) e_X8_whyNot_31 rfl (Or.inl ⟨_, rfl⟩) ?_
      refine V_getR (pc := 32) (q := 0) (j := 145) fx_8_7 e_X8_whyNot_32 rfl rfl (by decide) rfl rfl ?_
      refine V_bipush (pc := 35) (by decide) e_X8_whyNot_35 ?_
      refine Vm_now (pc := 37) e_X8_whyNot_37 (by decide) ?_
      refine V_istore (pc := 38) e_X8_whyNot_38 (by decide) ?_
      refine V_iload_n (pc := 40) e_X8_whyNot_40 rfl ?_
      refine V_iconst (pc := 41) e_X8_whyNot_41 ?_
      refine V_iand (pc := 42) e_X8_whyNot_42 ?_
      refine V_if_ne (pc := 43) e_X8_whyNot_43 (by decide) (by omega) (fun h43 => ?_) (fun h43 => ?_)
      · refine V_iload_n (pc := 50) e_X8_whyNot_50 rfl ?_
        refine V_iconst (pc := 51) e_X8_whyNot_51 ?_
        refine V_icmp_ne (pc := 52) e_X8_whyNot_52 (by decide) (by omega) (by decide) (fun h52 => ?_) (fun h52 => ?_)
        · refine V_iload (pc := 59) e_X8_whyNot_59 rfl ?_
          refine V_iconst (pc := 61) e_X8_whyNot_61 ?_
          refine V_icmp_ne (pc := 62) e_X8_whyNot_62 (by decide) (by omega) (by decide) (fun h62 => ?_) (fun h62 => ?_)
          · refine V_iload (pc := 69) e_X8_whyNot_69 rfl ?_
            refine V_iload (pc := 71) e_X8_whyNot_71 rfl ?_
            refine V_icmp_le (pc := 73) e_X8_whyNot_73 (by decide) (by omega) (by omega) (fun h73 => ?_) (fun h73 => ?_)
            · refine V_iconst (pc := 80) e_X8_whyNot_80 ?_
              refine V_ret (pc := 81) (v := some (zI _)) ⟨e_X8_whyNot_81, _, rfl, rfl⟩ ?_
              exact Qv k (by unfold wny; (repeat' split) <;> omega) rfl
            · refine V_iconst (pc := 76) e_X8_whyNot_76 ?_
              refine V_goto (pc := 77) e_X8_whyNot_77 (by decide) ?_
              refine V_ret (pc := 81) (v := some (zI _)) ⟨e_X8_whyNot_81, _, rfl, rfl⟩ ?_
              exact Qv k (by unfold wny; (repeat' split) <;> omega) rfl
          · refine V_iconst (pc := 65) e_X8_whyNot_65 ?_
            refine V_goto (pc := 66) e_X8_whyNot_66 (by decide) ?_
            refine V_ret (pc := 81) (v := some (zI _)) ⟨e_X8_whyNot_81, _, rfl, rfl⟩ ?_
            exact Qv k (by unfold wny; (repeat' split) <;> omega) rfl
        · refine V_iconst (pc := 55) e_X8_whyNot_55 ?_
          refine V_goto (pc := 56) e_X8_whyNot_56 (by decide) ?_
          refine V_ret (pc := 81) (v := some (zI _)) ⟨e_X8_whyNot_81, _, rfl, rfl⟩ ?_
          exact Qv k (by unfold wny; (repeat' split) <;> omega) rfl
      · refine V_iconst (pc := 46) e_X8_whyNot_46 ?_
        refine V_goto (pc := 47) e_X8_whyNot_47 (by decide) ?_
        refine V_ret (pc := 81) (v := some (zI _)) ⟨e_X8_whyNot_81, _, rfl, rfl⟩ ?_
        exact Qv k (by unfold wny; (repeat' split) <;> omega) rfl
    · refine V_aload_n (pc := 19) e_X8_whyNot_19 rfl (Or.inl ⟨_, rfl⟩) ?_
      refine V_getR (pc := 20) (q := 0) (j := 145) fx_8_7 e_X8_whyNot_20 rfl rfl (by decide) rfl rfl ?_
      refine V_bipush (pc := 23) (by decide) e_X8_whyNot_23 ?_
      refine Vm_now (pc := 25) e_X8_whyNot_25 (by decide) ?_
      refine V_iconst (pc := 26) e_X8_whyNot_26 ?_
      refine V_idiv (pc := 27) e_X8_whyNot_27 (by omega) (by decide) ?_
      refine V_goto (pc := 28) e_X8_whyNot_28 (by decide) ?_
      refine V_istore (pc := 38) e_X8_whyNot_38 (by decide) ?_
      refine V_iload_n (pc := 40) e_X8_whyNot_40 rfl ?_
      refine V_iconst (pc := 41) e_X8_whyNot_41 ?_
      refine V_iand (pc := 42) e_X8_whyNot_42 ?_
      refine V_if_ne (pc := 43) e_X8_whyNot_43 (by decide) (by omega) (fun h43 => ?_) (fun h43 => ?_)
      · refine V_iload_n (pc := 50) e_X8_whyNot_50 rfl ?_
        refine V_iconst (pc := 51) e_X8_whyNot_51 ?_
        refine V_icmp_ne (pc := 52) e_X8_whyNot_52 (by decide) (by omega) (by decide) (fun h52 => ?_) (fun h52 => ?_)
        · refine V_iload (pc := 59) e_X8_whyNot_59 rfl ?_
          refine V_iconst (pc := 61) e_X8_whyNot_61 ?_
          refine V_icmp_ne (pc := 62) e_X8_whyNot_62 (by decide) (by omega) (by decide) (fun h62 => ?_) (fun h62 => ?_)
          · refine V_iload (pc := 69) e_X8_whyNot_69 rfl ?_
            refine V_iload (pc := 71) e_X8_whyNot_71 rfl ?_
            refine V_icmp_le (pc := 73) e_X8_whyNot_73 (by decide) (by omega) (by omega) (fun h73 => ?_) (fun h73 => ?_)
            · refine V_iconst (pc := 80) e_X8_whyNot_80 ?_
              refine V_ret (pc := 81) (v := some (zI _)) ⟨e_X8_whyNot_81, _, rfl, rfl⟩ ?_
              exact Qv k (by unfold wny; (repeat' split) <;> omega) rfl
            · refine V_iconst (pc := 76) e_X8_whyNot_76 ?_
              refine V_goto (pc := 77) e_X8_whyNot_77 (by decide) ?_
              refine V_ret (pc := 81) (v := some (zI _)) ⟨e_X8_whyNot_81, _, rfl, rfl⟩ ?_
              exact Qv k (by unfold wny; (repeat' split) <;> omega) rfl
          · refine V_iconst (pc := 65) e_X8_whyNot_65 ?_
            refine V_goto (pc := 66) e_X8_whyNot_66 (by decide) ?_
            refine V_ret (pc := 81) (v := some (zI _)) ⟨e_X8_whyNot_81, _, rfl, rfl⟩ ?_
            exact Qv k (by unfold wny; (repeat' split) <;> omega) rfl
        · refine V_iconst (pc := 55) e_X8_whyNot_55 ?_
          refine V_goto (pc := 56) e_X8_whyNot_56 (by decide) ?_
          refine V_ret (pc := 81) (v := some (zI _)) ⟨e_X8_whyNot_81, _, rfl, rfl⟩ ?_
          exact Qv k (by unfold wny; (repeat' split) <;> omega) rfl
      · refine V_iconst (pc := 46) e_X8_whyNot_46 ?_
        refine V_goto (pc := 47) e_X8_whyNot_47 (by decide) ?_
        refine V_ret (pc := 81) (v := some (zI _)) ⟨e_X8_whyNot_81, _, rfl, rfl⟩ ?_
        exact Qv k (by unfold wny; (repeat' split) <;> omega) rfl
  · refine V_iconst (pc := 5) e_X8_whyNot_5 ?_
    refine V_ret (pc := 6) (v := some (zI _)) ⟨e_X8_whyNot_6, _, rfl, rfl⟩ ?_
    exact Qv k (by unfold wny; (repeat' split) <;> omega) rfl
theorem L_X8_placeOf {σ : Sto} {now : Int → Int} {P : PT} {T : TT} {Q : Option Value → Sto → Prop} {j : Int} (hj : -2147483648 ≤ j ∧ j < 2147483648) (hR : RR now) (k : Q (some (zI (plc now j))) (mst σ now P T)) : ∀ n : Nat, n ≤ (now 0).toNat → (∀ i : Int, 0 ≤ i → i < (n : Int) → ¬ jf now i 0 = j) → V M_X8_placeOf 150 2 [(0, .ref 144), (1, zI j), (2, zI (n : Int))] [] 150 (mst σ now P T) Q := by
  refine loop_nat ((now 0).toNat) (fun n hn ih => ?_)
  intro hv
  have h0 := hR.2.1
  refine V_iload_n (pc := 2) e_X8_placeOf_2 rfl ?_
  refine V_aload_n (pc := 3) e_X8_placeOf_3 rfl (Or.inl ⟨_, rfl⟩) ?_
  refine V_getR (pc := 4) (q := 0) (j := 145) fx_8_7 e_X8_placeOf_4 rfl rfl (by decide) rfl rfl ?_
  refine V_iconst (pc := 7) e_X8_placeOf_7 ?_
  refine Vm_now (pc := 8) e_X8_placeOf_8 (by decide) ?_
  refine V_icmp_ge (pc := 9) e_X8_placeOf_9 (by decide) (by omega) (by omega) (fun h9 => ?_) (fun h9 => ?_)
  · refine V_iconst (pc := 30) e_X8_placeOf_30 ?_
    refine V_ret (pc := 31) (v := some (zI _)) ⟨e_X8_placeOf_31, _, rfl, rfl⟩ ?_
    exact Qv k (plc_no (fun i a c => hv i a (by omega))) rfl
  · have hJ := hR.2.2.2 (n : Int) (by omega) (by omega)
    have jj := hJ
    unfold JB at jj
    refine V_aload_n (pc := 12) e_X8_placeOf_12 rfl (Or.inl ⟨_, rfl⟩) ?_
    refine V_iload_n (pc := 13) e_X8_placeOf_13 rfl ?_
    refine V_iconst (pc := 14) e_X8_placeOf_14 ?_
    refine V_cV2 (pc := 15) ca_8_64 e_X8_placeOf_15 (by decide) (Nat.le_of_ble_eq_true rfl) (by decide) rfl (by decide) (c_X8_of (by omega) ?_)
    refine V_iload_n (pc := 18) e_X8_placeOf_18 rfl ?_
    refine V_icmp_ne (pc := 19) e_X8_placeOf_19 (by decide) (by omega) (by omega) (fun h19 => ?_) (fun h19 => ?_)
    · refine V_iinc (pc := 24) e_X8_placeOf_24 rfl (by decide) ?_
      refine V_goto (pc := 27) e_X8_placeOf_27 (by decide) ?_
      exact V_lq [(0, .ref 144), (1, zI j), (2, zI ((n + 1 : Nat) : Int))] ⟨⟨_, rfl, rfl⟩, ⟨_, rfl, rfl⟩, ⟨_, rfl, rfl⟩, trivial⟩ (ih (by omega) (fun i a c => by
        by_cases z : i = (n : Int)
        · rw [z]; exact h19
        · exact hv i a (by omega)))
    · refine V_iload_n (pc := 22) e_X8_placeOf_22 rfl ?_
      refine V_ret (pc := 23) (v := some (zI _)) ⟨e_X8_placeOf_23, _, rfl, rfl⟩ ?_
      exact Qv k (plc_at (by omega) (by omega) h19 hv) rfl
theorem c_X8_placeOf {σ : Sto} {now : Int → Int} {P : PT} {T : TT} {Q : Option Value → Sto → Prop} {j : Int} (hj : -2147483648 ≤ j ∧ j < 2147483648) (hR : RR now) (k : Q (some (zI (plc now j))) (mst σ now P T)) : Con M_X8_placeOf 150 150 (mst σ now P T) [.ref 144, zI j] Q := by
  refine V_entry ok_X8_placeOf (Nat.le_refl _) (Nat.le_of_ble_eq_true rfl) (V_ls [(0, .ref 144), (1, zI j)] ⟨rfl, rfl, trivial⟩ ?_)
  refine V_iconst (pc := 0) e_X8_placeOf_0 ?_
  refine V_istore_n (pc := 1) e_X8_placeOf_1 (by decide) ?_
  exact V_lq [(0, .ref 144), (1, zI j), (2, zI ((0 : Nat) : Int))] ⟨⟨_, rfl, rfl⟩, ⟨_, rfl, rfl⟩, ⟨_, rfl, rfl⟩, trivial⟩ (L_X8_placeOf hj hR k 0 (by omega) (fun i a c => absurd c (by omega)))
theorem L_X8_nextJob {σ : Sto} {now : Int → Int} {P : PT} {T : TT} {Q : Option Value → Sto → Prop} (hR : RR now) (k : Q (some (zI (nxj now))) (mst σ now P T)) : ∀ n : Nat, n ≤ (now 0).toNat → V M_X8_nextJob 150 4 [(0, .ref 144), (1, zI (nxF now n)), (2, zI (n : Int))] [] 150 (mst σ now P T) Q := by
  refine loop_nat ((now 0).toNat) (fun n hn ih => ?_)
  have h0 := hR.2.1
  have g7 := hR.1 7 (by decide) (by decide) (by decide)
  have f := nxF_rg now n
  refine V_iload_n (pc := 4) e_X8_nextJob_4 rfl ?_
  refine V_aload_n (pc := 5) e_X8_nextJob_5 rfl (Or.inl ⟨_, rfl⟩) ?_
  refine V_getR (pc := 6) (q := 0) (j := 145) fx_8_7 e_X8_nextJob_6 rfl rfl (by decide) rfl rfl ?_
  refine V_iconst (pc := 9) e_X8_nextJob_9 ?_
  refine Vm_now (pc := 10) e_X8_nextJob_10 (by decide) ?_
  refine V_icmp_ge (pc := 11) e_X8_nextJob_11 (by decide) (by omega) (by omega) (fun h11 => ?_) (fun h11 => ?_)
  · refine V_iload_n (pc := 49) e_X8_nextJob_49 rfl ?_
    refine V_ret (pc := 50) (v := some (zI _)) ⟨e_X8_nextJob_50, _, rfl, rfl⟩ ?_
    exact Qv k (by unfold nxj; rw [show n = (now 0).toNat by omega]) rfl
  · have hJ := hR.2.2.2 (n : Int) (by omega) (by omega)
    have jj := hJ
    unfold JB at jj
    refine V_aload_n (pc := 14) e_X8_nextJob_14 rfl (Or.inl ⟨_, rfl⟩) ?_
    refine V_iload_n (pc := 15) e_X8_nextJob_15 rfl ?_
    refine V_bipush (pc := 16) (by decide) e_X8_nextJob_16 ?_
    refine V_cV2 (pc := 18) ca_8_64 e_X8_nextJob_18 (by decide) (Nat.le_of_ble_eq_true rfl) (by decide) rfl (by decide) (c_X8_of (by omega) ?_)
    refine V_if_ne (pc := 21) e_X8_nextJob_21 (by decide) (by omega) (fun h21 => ?_) (fun h21 => ?_)
    · refine V_iload_n (pc := 41) e_X8_nextJob_41 rfl ?_
      refine V_istore_n (pc := 42) e_X8_nextJob_42 (by decide) ?_
      refine V_iinc (pc := 43) e_X8_nextJob_43 rfl (by decide) ?_
      refine V_goto (pc := 46) e_X8_nextJob_46 (by decide) ?_
      exact V_lq [(0, .ref 144), (1, zI (nxF now (n + 1))), (2, zI ((n + 1 : Nat) : Int))] ⟨⟨_, rfl, rfl⟩, ⟨_, rfl, congrArg (fun e : Int => zI e) (by (show _ = (if jf now (n : Int) 7 = 0 ∧ (nxF now n < 0 ∨ ahd now (n : Int) (nxF now n)) then (n : Int) else nxF now n); split <;> first | rfl | omega))⟩, ⟨_, rfl, rfl⟩, trivial⟩ (ih (by omega))
    · refine V_iload_n (pc := 24) e_X8_nextJob_24 rfl ?_
      refine V_if_lt (pc := 25) e_X8_nextJob_25 (by decide) (by omega) (fun h25 => ?_) (fun h25 => ?_)
      · refine V_iload_n (pc := 37) e_X8_nextJob_37 rfl ?_
        refine V_goto (pc := 38) e_X8_nextJob_38 (by decide) ?_
        refine V_istore_n (pc := 42) e_X8_nextJob_42 (by decide) ?_
        refine V_iinc (pc := 43) e_X8_nextJob_43 rfl (by decide) ?_
        refine V_goto (pc := 46) e_X8_nextJob_46 (by decide) ?_
        exact V_lq [(0, .ref 144), (1, zI (nxF now (n + 1))), (2, zI ((n + 1 : Nat) : Int))] ⟨⟨_, rfl, rfl⟩, ⟨_, rfl, congrArg (fun e : Int => zI e) (by (show _ = (if jf now (n : Int) 7 = 0 ∧ (nxF now n < 0 ∨ ahd now (n : Int) (nxF now n)) then (n : Int) else nxF now n); split <;> first | rfl | omega))⟩, ⟨_, rfl, rfl⟩, trivial⟩ (ih (by omega))
      · have hK := hR.2.2.2 (nxF now n) (by omega) (by omega)
        refine V_aload_n (pc := 28) e_X8_nextJob_28 rfl (Or.inl ⟨_, rfl⟩) ?_
        refine V_iload_n (pc := 29) e_X8_nextJob_29 rfl ?_
        refine V_iload_n (pc := 30) e_X8_nextJob_30 rfl ?_
        refine V_cV2 (pc := 31) ca_8_115 e_X8_nextJob_31 (by decide) (Nat.le_of_ble_eq_true rfl) (by decide) rfl (by decide) (c_X8_isAhead g7 (by assumption) (by assumption) (fun h_ia => ?_) (fun h_ia => ?_))
        · refine V_if_eq (pc := 34) e_X8_nextJob_34 (by decide) (by decide) (fun h => absurd h (by decide)) (fun _ => ?_)
          refine V_iload_n (pc := 37) e_X8_nextJob_37 rfl ?_
          refine V_goto (pc := 38) e_X8_nextJob_38 (by decide) ?_
          refine V_istore_n (pc := 42) e_X8_nextJob_42 (by decide) ?_
          refine V_iinc (pc := 43) e_X8_nextJob_43 rfl (by decide) ?_
          refine V_goto (pc := 46) e_X8_nextJob_46 (by decide) ?_
          exact V_lq [(0, .ref 144), (1, zI (nxF now (n + 1))), (2, zI ((n + 1 : Nat) : Int))] ⟨⟨_, rfl, rfl⟩, ⟨_, rfl, congrArg (fun e : Int => zI e) (by (show _ = (if jf now (n : Int) 7 = 0 ∧ (nxF now n < 0 ∨ ahd now (n : Int) (nxF now n)) then (n : Int) else nxF now n); split <;> first | rfl | omega))⟩, ⟨_, rfl, rfl⟩, trivial⟩ (ih (by omega))
        · refine V_if_eq (pc := 34) e_X8_nextJob_34 (by decide) (by decide) (fun _ => ?_) (fun h => absurd (by decide) h)
          refine V_iload_n (pc := 41) e_X8_nextJob_41 rfl ?_
          refine V_istore_n (pc := 42) e_X8_nextJob_42 (by decide) ?_
          refine V_iinc (pc := 43) e_X8_nextJob_43 rfl (by decide) ?_
          refine V_goto (pc := 46) e_X8_nextJob_46 (by decide) ?_
          exact V_lq [(0, .ref 144), (1, zI (nxF now (n + 1))), (2, zI ((n + 1 : Nat) : Int))] ⟨⟨_, rfl, rfl⟩, ⟨_, rfl, congrArg (fun e : Int => zI e) (by (show _ = (if jf now (n : Int) 7 = 0 ∧ (nxF now n < 0 ∨ ahd now (n : Int) (nxF now n)) then (n : Int) else nxF now n); split <;> first | rfl | omega))⟩, ⟨_, rfl, rfl⟩, trivial⟩ (ih (by omega))
theorem c_X8_nextJob {σ : Sto} {now : Int → Int} {P : PT} {T : TT} {Q : Option Value → Sto → Prop} (hR : RR now) (k : Q (some (zI (nxj now))) (mst σ now P T)) : Con M_X8_nextJob 150 150 (mst σ now P T) [.ref 144] Q := by
  refine V_entry ok_X8_nextJob (Nat.le_refl _) (Nat.le_of_ble_eq_true rfl) (V_ls [(0, .ref 144)] ⟨rfl, trivial⟩ ?_)
  refine V_iconst (pc := 0) e_X8_nextJob_0 ?_
  refine V_istore_n (pc := 1) e_X8_nextJob_1 (by decide) ?_
  refine V_iconst (pc := 2) e_X8_nextJob_2 ?_
  refine V_istore_n (pc := 3) e_X8_nextJob_3 (by decide) ?_
  exact V_lq [(0, .ref 144), (1, zI (nxF now 0)), (2, zI ((0 : Nat) : Int))] ⟨⟨_, rfl, rfl⟩, ⟨_, rfl, rfl⟩, ⟨_, rfl, rfl⟩, trivial⟩ (L_X8_nextJob hR k 0 (by omega))
theorem L_X8_heldOnes {σ : Sto} {now : Int → Int} {P : PT} {T : TT} {Q : Option Value → Sto → Prop} (hR : RR now) (k : Q (some (zI (hdN now (now 0).toNat))) (mst σ now P T)) : ∀ n : Nat, n ≤ (now 0).toNat → V M_X8_heldOnes 150 4 [(0, .ref 144), (1, zI (hdN now n)), (2, zI (n : Int))] [] 150 (mst σ now P T) Q := by
  refine loop_nat ((now 0).toNat) (fun n hn ih => ?_)
  have h0 := hR.2.1
  refine V_iload_n (pc := 4) e_X8_heldOnes_4 rfl ?_
  refine V_aload_n (pc := 5) e_X8_heldOnes_5 rfl (Or.inl ⟨_, rfl⟩) ?_
  refine V_getR (pc := 6) (q := 0) (j := 145) fx_8_7 e_X8_heldOnes_6 rfl rfl (by decide) rfl rfl ?_
  refine V_iconst (pc := 9) e_X8_heldOnes_9 ?_
  refine Vm_now (pc := 10) e_X8_heldOnes_10 (by decide) ?_
  refine V_icmp_ge (pc := 11) e_X8_heldOnes_11 (by decide) (by omega) (by omega) (fun h11 => ?_) (fun h11 => ?_)
  · refine V_iload_n (pc := 30) e_X8_heldOnes_30 rfl ?_
    refine V_ret (pc := 31) (v := some (zI _)) ⟨e_X8_heldOnes_31, _, rfl, rfl⟩ ?_
    exact Qv k (by rw [show n = (now 0).toNat by omega]) rfl
  · have hJ := hR.2.2.2 (n : Int) (by omega) (by omega)
    have jj := hJ
    unfold JB at jj
    refine V_iload_n (pc := 14) e_X8_heldOnes_14 rfl ?_
    refine V_aload_n (pc := 15) e_X8_heldOnes_15 rfl (Or.inl ⟨_, rfl⟩) ?_
    refine V_iload_n (pc := 16) e_X8_heldOnes_16 rfl ?_
    refine V_bipush (pc := 17) (by decide) e_X8_heldOnes_17 ?_
    refine V_cV2 (pc := 19) ca_8_64 e_X8_heldOnes_19 (by decide) (Nat.le_of_ble_eq_true rfl) (by decide) rfl (by decide) (c_X8_of (by omega) ?_)
    refine V_iadd (pc := 22) e_X8_heldOnes_22 ?_
    refine V_istore_n (pc := 23) e_X8_heldOnes_23 (by decide) ?_
    refine V_iinc (pc := 24) e_X8_heldOnes_24 rfl (by decide) ?_
    refine V_goto (pc := 27) e_X8_heldOnes_27 (by decide) ?_
    exact V_lq [(0, .ref 144), (1, zI (hdN now (n + 1))), (2, zI ((n + 1 : Nat) : Int))] ⟨⟨_, rfl, rfl⟩, ⟨_, rfl, rfl⟩, ⟨_, rfl, rfl⟩, trivial⟩ (ih (by omega))
theorem c_X8_heldOnes {σ : Sto} {now : Int → Int} {P : PT} {T : TT} {Q : Option Value → Sto → Prop} (hR : RR now) (k : Q (some (zI (hdN now (now 0).toNat))) (mst σ now P T)) : Con M_X8_heldOnes 150 150 (mst σ now P T) [.ref 144] Q := by
  refine V_entry ok_X8_heldOnes (Nat.le_refl _) (Nat.le_of_ble_eq_true rfl) (V_ls [(0, .ref 144)] ⟨rfl, trivial⟩ ?_)
  refine V_iconst (pc := 0) e_X8_heldOnes_0 ?_
  refine V_istore_n (pc := 1) e_X8_heldOnes_1 (by decide) ?_
  refine V_iconst (pc := 2) e_X8_heldOnes_2 ?_
  refine V_istore_n (pc := 3) e_X8_heldOnes_3 (by decide) ?_
  exact V_lq [(0, .ref 144), (1, zI (hdN now 0)), (2, zI ((0 : Nat) : Int))] ⟨⟨_, rfl, rfl⟩, ⟨_, rfl, rfl⟩, ⟨_, rfl, rfl⟩, trivial⟩ (L_X8_heldOnes hR k 0 (by omega))
theorem L_X8_queued_i {σ : Sto} {now : Int → Int} {P : PT} {T : TT} {Q : Option Value → Sto → Prop} {p q : Int} (hR : RR now) (hp : 0 ≤ p ∧ p < now 0) (k : V M_X8_queued 150 64 [(0, .ref 144), (1, zI q), (2, zI p), (3, zI (ahN now p (now 0).toNat))] [] 150 (mst σ now P T) Q) : ∀ n : Nat, n ≤ (now 0).toNat → V M_X8_queued 150 23 [(0, .ref 144), (1, zI q), (2, zI p), (3, zI (ahN now p n)), (4, zI (n : Int))] [] 150 (mst σ now P T) Q := by
  refine loop_nat ((now 0).toNat) (fun n hn ih => ?_)
  have h0 := hR.2.1
  have g7 := hR.1 7 (by decide) (by decide) (by decide)
  have hK := hR.2.2.2 p hp.1 hp.2
  refine V_iload (pc := 23) e_X8_queued_23 rfl ?_
  refine V_aload_n (pc := 25) e_X8_queued_25 rfl (Or.inl ⟨_, rfl⟩) ?_
  refine V_getR (pc := 26) (q := 0) (j := 145) fx_8_7 e_X8_queued_26 rfl rfl (by decide) rfl rfl ?_
  refine V_iconst (pc := 29) e_X8_queued_29 ?_
  refine Vm_now (pc := 30) e_X8_queued_30 (by decide) ?_
  refine V_icmp_ge (pc := 31) e_X8_queued_31 (by decide) (by omega) (by omega) (fun h31 => ?_) (fun h31 => ?_)
  · exact V_lq [(0, .ref 144), (1, zI q), (2, zI p), (3, zI (ahN now p (now 0).toNat))] ⟨⟨_, rfl, rfl⟩, ⟨_, rfl, rfl⟩, ⟨_, rfl, rfl⟩, ⟨_, rfl, congrArg (fun e : Int => zI e) (by rw [show n = (now 0).toNat by omega])⟩, trivial⟩ k
  · have hJ := hR.2.2.2 (n : Int) (by omega) (by omega)
    have jj := hJ
    unfold JB at jj
    refine V_iload_n (pc := 34) e_X8_queued_34 rfl ?_
    refine V_iload (pc := 35) e_X8_queued_35 rfl ?_
    refine V_iload_n (pc := 37) e_X8_queued_37 rfl ?_
    refine V_icmp_eq (pc := 38) e_X8_queued_38 (by decide) (by omega) (by omega) (fun h38 => ?_) (fun h38 => ?_)
    · refine V_iconst (pc := 55) e_X8_queued_55 ?_
      refine V_iadd (pc := 56) e_X8_queued_56 ?_
      refine V_istore_n (pc := 57) e_X8_queued_57 (by decide) ?_
      refine V_iinc (pc := 58) e_X8_queued_58 rfl (by decide) ?_
      refine V_goto (pc := 61) e_X8_queued_61 (by decide) ?_
      exact V_lq [(0, .ref 144), (1, zI q), (2, zI p), (3, zI (ahN now p (n + 1))), (4, zI ((n + 1 : Nat) : Int))] ⟨⟨_, rfl, rfl⟩, ⟨_, rfl, rfl⟩, ⟨_, rfl, rfl⟩, ⟨_, rfl, congrArg (fun e : Int => zI e) (by (show _ = ahN now p n + (if ¬ (n : Int) = p ∧ ahd now (n : Int) p then 1 else 0); split <;> omega))⟩, ⟨_, rfl, rfl⟩, trivial⟩ (ih (by omega))
    · refine V_aload_n (pc := 41) e_X8_queued_41 rfl (Or.inl ⟨_, rfl⟩) ?_
      refine V_iload (pc := 42) e_X8_queued_42 rfl ?_
      refine V_iload_n (pc := 44) e_X8_queued_44 rfl ?_
      refine V_cV2 (pc := 45) ca_8_115 e_X8_queued_45 (by decide) (Nat.le_of_ble_eq_true rfl) (by decide) rfl (by decide) (c_X8_isAhead g7 (by assumption) (by assumption) (fun h_ia => ?_) (fun h_ia => ?_))
      · refine V_if_eq (pc := 48) e_X8_queued_48 (by decide) (by decide) (fun h => absurd h (by decide)) (fun _ => ?_)
        refine V_iconst (pc := 51) e_X8_queued_51 ?_
        refine V_goto (pc := 52) e_X8_queued_52 (by decide) ?_
        refine V_iadd (pc := 56) e_X8_queued_56 ?_
        refine V_istore_n (pc := 57) e_X8_queued_57 (by decide) ?_
        refine V_iinc (pc := 58) e_X8_queued_58 rfl (by decide) ?_
        refine V_goto (pc := 61) e_X8_queued_61 (by decide) ?_
        exact V_lq [(0, .ref 144), (1, zI q), (2, zI p), (3, zI (ahN now p (n + 1))), (4, zI ((n + 1 : Nat) : Int))] ⟨⟨_, rfl, rfl⟩, ⟨_, rfl, rfl⟩, ⟨_, rfl, rfl⟩, ⟨_, rfl, congrArg (fun e : Int => zI e) (by (show _ = ahN now p n + (if ¬ (n : Int) = p ∧ ahd now (n : Int) p then 1 else 0); split <;> omega))⟩, ⟨_, rfl, rfl⟩, trivial⟩ (ih (by omega))
      · refine V_if_eq (pc := 48) e_X8_queued_48 (by decide) (by decide) (fun _ => ?_) (fun h => absurd (by decide) h)
        refine V_iconst (pc := 55) e_X8_queued_55 ?_
        refine V_iadd (pc := 56) e_X8_queued_56 ?_
        refine V_istore_n (pc := 57) e_X8_queued_57 (by decide) ?_
        refine V_iinc (pc := 58) e_X8_queued_58 rfl (by decide) ?_
        refine V_goto (pc := 61) e_X8_queued_61 (by decide) ?_
        exact V_lq [(0, .ref 144), (1, zI q), (2, zI p), (3, zI (ahN now p (n + 1))), (4, zI ((n + 1 : Nat) : Int))] ⟨⟨_, rfl, rfl⟩, ⟨_, rfl, rfl⟩, ⟨_, rfl, rfl⟩, ⟨_, rfl, congrArg (fun e : Int => zI e) (by (show _ = ahN now p n + (if ¬ (n : Int) = p ∧ ahd now (n : Int) p then 1 else 0); split <;> omega))⟩, ⟨_, rfl, rfl⟩, trivial⟩ (ih (by omega))
theorem L_X8_queued {σ : Sto} {now : Int → Int} {P : PT} {T : TT} {Q : Option Value → Sto → Prop} {q : Int} (hR : RR now) (hq : 0 ≤ q ∧ q < 2147483648)  : ∀ n : Nat, n ≤ (now 0).toNat → Q (some (zI (quF now q ((now 0).toNat - n) n))) (mst σ now P T) → V M_X8_queued 150 8 [(0, .ref 144), (1, zI q), (2, zI (n : Int))] [] 150 (mst σ now P T) Q := by
  refine loop_nat ((now 0).toNat) (fun n hn ih => ?_)
  intro hv
  have h0 := hR.2.1
  refine V_iload_n (pc := 8) e_X8_queued_8 rfl ?_
  refine V_aload_n (pc := 9) e_X8_queued_9 rfl (Or.inl ⟨_, rfl⟩) ?_
  refine V_getR (pc := 10) (q := 0) (j := 145) fx_8_7 e_X8_queued_10 rfl rfl (by decide) rfl rfl ?_
  refine V_iconst (pc := 13) e_X8_queued_13 ?_
  refine Vm_now (pc := 14) e_X8_queued_14 (by decide) ?_
  refine V_icmp_ge (pc := 15) e_X8_queued_15 (by decide) (by omega) (by omega) (fun h15 => ?_) (fun h15 => ?_)
  · refine V_bipush (pc := 82) (by decide) e_X8_queued_82 ?_
    refine V_ret (pc := 84) (v := some (zI _)) ⟨e_X8_queued_84, _, rfl, rfl⟩ ?_
    exact Qv hv (by rw [show (now 0).toNat - n = 0 by omega]; rfl) rfl
  · refine V_iconst (pc := 18) e_X8_queued_18 ?_
    refine V_istore_n (pc := 19) e_X8_queued_19 (by decide) ?_
    refine V_iconst (pc := 20) e_X8_queued_20 ?_
    refine V_istore (pc := 21) e_X8_queued_21 (by decide) ?_
    refine V_lq [(0, .ref 144), (1, zI q), (2, zI (n : Int)), (3, zI (ahN now (n : Int) 0)), (4, zI ((0 : Nat) : Int))] ⟨⟨_, rfl, rfl⟩, ⟨_, rfl, rfl⟩, ⟨_, rfl, rfl⟩, ⟨_, rfl, rfl⟩, ⟨_, rfl, rfl⟩, trivial⟩ (L_X8_queued_i hR (by omega) ?_ 0 (by omega))
    have f := ahN_rg now (n : Int) (now 0).toNat
    have e : (now 0).toNat - n = ((now 0).toNat - (n + 1)) + 1 := by omega
    refine V_iload_n (pc := 64) e_X8_queued_64 rfl ?_
    refine V_iload_n (pc := 65) e_X8_queued_65 rfl ?_
    refine V_icmp_ne (pc := 66) e_X8_queued_66 (by decide) (by omega) (by omega) (fun h66 => ?_) (fun h66 => ?_)
    · refine V_iinc (pc := 76) e_X8_queued_76 rfl (by decide) ?_
      refine V_goto (pc := 79) e_X8_queued_79 (by decide) ?_
      exact V_lq [(0, .ref 144), (1, zI q), (2, zI ((n + 1 : Nat) : Int))] ⟨⟨_, rfl, rfl⟩, ⟨_, rfl, rfl⟩, ⟨_, rfl, rfl⟩, trivial⟩ (ih (by omega) (Qv hv (by rw [e, quF, if_neg h66]) rfl))
    · have hJ := hR.2.2.2 (n : Int) (by omega) (by omega)
      have jj := hJ
      unfold JB at jj
      refine V_aload_n (pc := 69) e_X8_queued_69 rfl (Or.inl ⟨_, rfl⟩) ?_
      refine V_iload_n (pc := 70) e_X8_queued_70 rfl ?_
      refine V_iconst (pc := 71) e_X8_queued_71 ?_
      refine V_cV2 (pc := 72) ca_8_64 e_X8_queued_72 (by decide) (Nat.le_of_ble_eq_true rfl) (by decide) rfl (by decide) (c_X8_of (by omega) ?_)
      refine V_ret (pc := 75) (v := some (zI _)) ⟨e_X8_queued_75, _, rfl, rfl⟩ ?_
      exact Qv hv (by rw [e, quF, if_pos h66]) rfl
theorem c_X8_queued {σ : Sto} {now : Int → Int} {P : PT} {T : TT} {Q : Option Value → Sto → Prop} {q : Int} (hR : RR now) (r_q : -2147483648 ≤ q ∧ q < 2147483648) (k1 : q < 0 → Q (some (zI (-1))) (mst σ now P T)) (k : 0 ≤ q → Q (some (zI (quF now q (now 0).toNat 0))) (mst σ now P T)) : Con M_X8_queued 150 150 (mst σ now P T) [.ref 144, zI q] Q := by
  refine V_entry ok_X8_queued (Nat.le_refl _) (Nat.le_of_ble_eq_true rfl) (V_ls [(0, .ref 144), (1, zI q)] ⟨rfl, rfl, trivial⟩ ?_)
  refine V_iload_n (pc := 0) e_X8_queued_0 rfl ?_
  refine V_if_ge (pc := 1) e_X8_queued_1 (by decide) (by omega) (fun h1 => ?_) (fun h1 => ?_)
  · refine V_iconst (pc := 6) e_X8_queued_6 ?_
    refine V_istore_n (pc := 7) e_X8_queued_7 (by decide) ?_
    exact V_lq [(0, .ref 144), (1, zI q), (2, zI ((0 : Nat) : Int))] ⟨⟨_, rfl, rfl⟩, ⟨_, rfl, rfl⟩, ⟨_, rfl, rfl⟩, trivial⟩ (L_X8_queued hR (by omega) 0 (by omega) (k (by omega)))
  · refine V_iconst (pc := 4) e_X8_queued_4 ?_
    refine V_ret (pc := 5) (v := some (zI _)) ⟨e_X8_queued_5, _, rfl, rfl⟩ ?_
    exact k1 (by omega)
theorem lkN_rg {r : Int → Int} (hR : RR r) (s q : Int) : ∀ n : Nat, (n : Int) ≤ r 0 → -12000000 - 20000 * (n : Int) ≤ lkN r s q n ∧ lkN r s q n ≤ 12000000 + 20000 * (n : Int)
  | 0, _ => by
    have h := shA_rg hR.1 s q 4 (by omega)
    unfold lkN
    omega
  | n + 1, h => by
    have i := lkN_rg hR s q n (by omega)
    have hJ := hR.2.2.2 (n : Int) (by omega) (by omega)
    have a := als_rg hJ
    have j := hJ
    unfold JB at j
    unfold lkN
    (repeat' split) <;> omega
theorem L_X8_lacking {σ : Sto} {now : Int → Int} {P : PT} {T : TT} {Q : Option Value → Sto → Prop} {s q : Int} (hR : RR now) (r_s : -2147483648 ≤ s ∧ s < 2147483648) (r_q : -2147483648 ≤ q ∧ q < 2147483648) (k : Q (some (zI (if lkN now s q (now 0).toNat < 0 then 0 else lkN now s q (now 0).toNat))) (mst σ now P T)) : ∀ n : Nat, n ≤ (now 0).toNat → V M_X8_lacking 150 21 [(0, .ref 144), (1, zI s), (2, zI q), (3, zI (lkN now s q n)), (4, zI (n : Int))] [] 150 (mst σ now P T) Q := by
  refine loop_nat ((now 0).toNat) (fun n hn ih => ?_)
  have h0 := hR.2.1
  have g5 := hR.1 5 (by decide) (by decide) (by decide)
  have g6 := hR.1 6 (by decide) (by decide) (by decide)
  have lr := lkN_rg hR s q n (by omega)
  refine V_iload (pc := 21) e_X8_lacking_21 rfl ?_
  refine V_aload_n (pc := 23) e_X8_lacking_23 rfl (Or.inl ⟨_, rfl⟩) ?_
  refine V_getR (pc := 24) (q := 0) (j := 145) fx_8_7 e_X8_lacking_24 rfl rfl (by decide) rfl rfl ?_
  refine V_iconst (pc := 27) e_X8_lacking_27 ?_
  refine Vm_now (pc := 28) e_X8_lacking_28 (by decide) ?_
  refine V_icmp_ge (pc := 29) e_X8_lacking_29 (by decide) (by omega) (by omega) (fun h29 => ?_) (fun h29 => ?_)
  · refine V_iload_n (pc := 131) e_X8_lacking_131 rfl ?_
    refine V_if_ge (pc := 132) e_X8_lacking_132 (by decide) (by omega) (fun h132 => ?_) (fun h132 => ?_)
    · refine V_iload_n (pc := 139) e_X8_lacking_139 rfl ?_
      refine V_ret (pc := 140) (v := some (zI _)) ⟨e_X8_lacking_140, _, rfl, rfl⟩ ?_
      obtain rfl : n = (now 0).toNat := by omega
      exact Qv k (by split <;> omega) rfl
    · refine V_iconst (pc := 135) e_X8_lacking_135 ?_
      refine V_goto (pc := 136) e_X8_lacking_136 (by decide) ?_
      refine V_ret (pc := 140) (v := some (zI _)) ⟨e_X8_lacking_140, _, rfl, rfl⟩ ?_
      obtain rfl : n = (now 0).toNat := by omega
      exact Qv k (by split <;> omega) rfl
  · have hJ := hR.2.2.2 (n : Int) (by omega) (by omega)
    have jj := hJ
    unfold JB at jj
    refine V_aload_n (pc := 32) e_X8_lacking_32 rfl (Or.inl ⟨_, rfl⟩) ?_
    refine V_iload (pc := 33) e_X8_lacking_33 rfl ?_
    refine V_iconst (pc := 35) e_X8_lacking_35 ?_
    refine V_cV2 (pc := 36) ca_8_64 e_X8_lacking_36 (by decide) (Nat.le_of_ble_eq_true rfl) (by decide) rfl (by decide) (c_X8_of (by omega) ?_)
    refine V_iload_n (pc := 39) e_X8_lacking_39 rfl ?_
    refine V_icmp_ne (pc := 40) e_X8_lacking_40 (by decide) (by omega) (by omega) (fun h40 => ?_) (fun h40 => ?_)
    · refine V_iconst (pc := 58) e_X8_lacking_58 ?_
      refine V_istore (pc := 59) e_X8_lacking_59 (by decide) ?_
      refine V_aload_n (pc := 61) e_X8_lacking_61 rfl (Or.inl ⟨_, rfl⟩) ?_
      refine V_getR (pc := 62) (q := 0) (j := 145) fx_8_7 e_X8_lacking_62 rfl rfl (by decide) rfl rfl ?_
      refine V_iconst (pc := 65) e_X8_lacking_65 ?_
      refine Vm_now (pc := 66) e_X8_lacking_66 (by decide) ?_
      refine V_iconst (pc := 67) e_X8_lacking_67 ?_
      refine V_icmp_ne (pc := 68) e_X8_lacking_68 (by decide) (by omega) (by decide) (fun h68 => ?_) (fun h68 => ?_)
      · refine V_iconst (pc := 92) e_X8_lacking_92 ?_
        refine V_istore (pc := 93) e_X8_lacking_93 (by decide) ?_
        refine V_iload_n (pc := 95) e_X8_lacking_95 rfl ?_
        refine V_iload (pc := 96) e_X8_lacking_96 rfl ?_
        refine V_if_eq (pc := 98) e_X8_lacking_98 (by decide) (by decide) (fun _ => ?_) (fun h => absurd (by decide) h)
        refine V_iconst (pc := 122) e_X8_lacking_122 ?_
        refine V_iadd (pc := 123) e_X8_lacking_123 ?_
        refine V_istore_n (pc := 124) e_X8_lacking_124 (by decide) ?_
        refine V_iinc (pc := 125) e_X8_lacking_125 rfl (by decide) ?_
        refine V_goto (pc := 128) e_X8_lacking_128 (by decide) ?_
        exact V_lq [(0, .ref 144), (1, zI s), (2, zI q), (3, zI (lkN now s q (n + 1))), (4, zI ((n + 1 : Nat) : Int))] ⟨⟨_, rfl, rfl⟩, ⟨_, rfl, rfl⟩, ⟨_, rfl, rfl⟩, ⟨_, rfl, congrArg (fun e : Int => zI e) (by (show _ = lkN now s q n + (if jf now (n : Int) 3 = s ∧ jf now (n : Int) 4 = q then als now (n : Int) - jf now (n : Int) 8 - (if now 5 = 1 ∧ now 6 = jf now (n : Int) 0 then 1 else 0) else 0); (repeat' split) <;> omega))⟩, ⟨_, rfl, rfl⟩, trivial⟩ (ih (by omega))
      · refine V_aload_n (pc := 71) e_X8_lacking_71 rfl (Or.inl ⟨_, rfl⟩) ?_
        refine V_getR (pc := 72) (q := 0) (j := 145) fx_8_7 e_X8_lacking_72 rfl rfl (by decide) rfl rfl ?_
        refine V_bipush (pc := 75) (by decide) e_X8_lacking_75 ?_
        refine Vm_now (pc := 77) e_X8_lacking_77 (by decide) ?_
        refine V_aload_n (pc := 78) e_X8_lacking_78 rfl (Or.inl ⟨_, rfl⟩) ?_
        refine V_iload (pc := 79) e_X8_lacking_79 rfl ?_
        refine V_iconst (pc := 81) e_X8_lacking_81 ?_
        refine V_cV2 (pc := 82) ca_8_64 e_X8_lacking_82 (by decide) (Nat.le_of_ble_eq_true rfl) (by decide) rfl (by decide) (c_X8_of (by omega) ?_)
        refine V_icmp_ne (pc := 85) e_X8_lacking_85 (by decide) (by omega) (by omega) (fun h85 => ?_) (fun h85 => ?_)
        · refine V_iconst (pc := 92) e_X8_lacking_92 ?_
          refine V_istore (pc := 93) e_X8_lacking_93 (by decide) ?_
          refine V_iload_n (pc := 95) e_X8_lacking_95 rfl ?_
          refine V_iload (pc := 96) e_X8_lacking_96 rfl ?_
          refine V_if_eq (pc := 98) e_X8_lacking_98 (by decide) (by decide) (fun _ => ?_) (fun h => absurd (by decide) h)
          refine V_iconst (pc := 122) e_X8_lacking_122 ?_
          refine V_iadd (pc := 123) e_X8_lacking_123 ?_
          refine V_istore_n (pc := 124) e_X8_lacking_124 (by decide) ?_
          refine V_iinc (pc := 125) e_X8_lacking_125 rfl (by decide) ?_
          refine V_goto (pc := 128) e_X8_lacking_128 (by decide) ?_
          exact V_lq [(0, .ref 144), (1, zI s), (2, zI q), (3, zI (lkN now s q (n + 1))), (4, zI ((n + 1 : Nat) : Int))] ⟨⟨_, rfl, rfl⟩, ⟨_, rfl, rfl⟩, ⟨_, rfl, rfl⟩, ⟨_, rfl, congrArg (fun e : Int => zI e) (by (show _ = lkN now s q n + (if jf now (n : Int) 3 = s ∧ jf now (n : Int) 4 = q then als now (n : Int) - jf now (n : Int) 8 - (if now 5 = 1 ∧ now 6 = jf now (n : Int) 0 then 1 else 0) else 0); (repeat' split) <;> omega))⟩, ⟨_, rfl, rfl⟩, trivial⟩ (ih (by omega))
        · refine V_iconst (pc := 88) e_X8_lacking_88 ?_
          refine V_goto (pc := 89) e_X8_lacking_89 (by decide) ?_
          refine V_istore (pc := 93) e_X8_lacking_93 (by decide) ?_
          refine V_iload_n (pc := 95) e_X8_lacking_95 rfl ?_
          refine V_iload (pc := 96) e_X8_lacking_96 rfl ?_
          refine V_if_eq (pc := 98) e_X8_lacking_98 (by decide) (by decide) (fun _ => ?_) (fun h => absurd (by decide) h)
          refine V_iconst (pc := 122) e_X8_lacking_122 ?_
          refine V_iadd (pc := 123) e_X8_lacking_123 ?_
          refine V_istore_n (pc := 124) e_X8_lacking_124 (by decide) ?_
          refine V_iinc (pc := 125) e_X8_lacking_125 rfl (by decide) ?_
          refine V_goto (pc := 128) e_X8_lacking_128 (by decide) ?_
          exact V_lq [(0, .ref 144), (1, zI s), (2, zI q), (3, zI (lkN now s q (n + 1))), (4, zI ((n + 1 : Nat) : Int))] ⟨⟨_, rfl, rfl⟩, ⟨_, rfl, rfl⟩, ⟨_, rfl, rfl⟩, ⟨_, rfl, congrArg (fun e : Int => zI e) (by (show _ = lkN now s q n + (if jf now (n : Int) 3 = s ∧ jf now (n : Int) 4 = q then als now (n : Int) - jf now (n : Int) 8 - (if now 5 = 1 ∧ now 6 = jf now (n : Int) 0 then 1 else 0) else 0); (repeat' split) <;> omega))⟩, ⟨_, rfl, rfl⟩, trivial⟩ (ih (by omega))
    · refine V_aload_n (pc := 43) e_X8_lacking_43 rfl (Or.inl ⟨_, rfl⟩) ?_
      refine V_iload (pc := 44) e_X8_lacking_44 rfl ?_
      refine V_iconst (pc := 46) e_X8_lacking_46 ?_
      refine V_cV2 (pc := 47) ca_8_64 e_X8_lacking_47 (by decide) (Nat.le_of_ble_eq_true rfl) (by decide) rfl (by decide) (c_X8_of (by omega) ?_)
      refine V_iload_n (pc := 50) e_X8_lacking_50 rfl ?_
      refine V_icmp_ne (pc := 51) e_X8_lacking_51 (by decide) (by omega) (by omega) (fun h51 => ?_) (fun h51 => ?_)
      · refine V_iconst (pc := 58) e_X8_lacking_58 ?_
        refine V_istore (pc := 59) e_X8_lacking_59 (by decide) ?_
        refine V_aload_n (pc := 61) e_X8_lacking_61 rfl (Or.inl ⟨_, rfl⟩) ?_
        refine V_getR (pc := 62) (q := 0) (j := 145) fx_8_7 e_X8_lacking_62 rfl rfl (by decide) rfl rfl ?_
        refine V_iconst (pc := 65) e_X8_lacking_65 ?_
        refine Vm_now (pc := 66) e_X8_lacking_66 (by decide) ?_
        refine V_iconst (pc := 67) e_X8_lacking_67 ?_
        refine V_icmp_ne (pc := 68) e_X8_lacking_68 (by decide) (by omega) (by decide) (fun h68 => ?_) (fun h68 => ?_)
        · refine V_iconst (pc := 92) e_X8_lacking_92 ?_
          refine V_istore (pc := 93) e_X8_lacking_93 (by decide) ?_
          refine V_iload_n (pc := 95) e_X8_lacking_95 rfl ?_
          refine V_iload (pc := 96) e_X8_lacking_96 rfl ?_
          refine V_if_eq (pc := 98) e_X8_lacking_98 (by decide) (by decide) (fun _ => ?_) (fun h => absurd (by decide) h)
          refine V_iconst (pc := 122) e_X8_lacking_122 ?_
          refine V_iadd (pc := 123) e_X8_lacking_123 ?_
          refine V_istore_n (pc := 124) e_X8_lacking_124 (by decide) ?_
          refine V_iinc (pc := 125) e_X8_lacking_125 rfl (by decide) ?_
          refine V_goto (pc := 128) e_X8_lacking_128 (by decide) ?_
          exact V_lq [(0, .ref 144), (1, zI s), (2, zI q), (3, zI (lkN now s q (n + 1))), (4, zI ((n + 1 : Nat) : Int))] ⟨⟨_, rfl, rfl⟩, ⟨_, rfl, rfl⟩, ⟨_, rfl, rfl⟩, ⟨_, rfl, congrArg (fun e : Int => zI e) (by (show _ = lkN now s q n + (if jf now (n : Int) 3 = s ∧ jf now (n : Int) 4 = q then als now (n : Int) - jf now (n : Int) 8 - (if now 5 = 1 ∧ now 6 = jf now (n : Int) 0 then 1 else 0) else 0); (repeat' split) <;> omega))⟩, ⟨_, rfl, rfl⟩, trivial⟩ (ih (by omega))
        · refine V_aload_n (pc := 71) e_X8_lacking_71 rfl (Or.inl ⟨_, rfl⟩) ?_
          refine V_getR (pc := 72) (q := 0) (j := 145) fx_8_7 e_X8_lacking_72 rfl rfl (by decide) rfl rfl ?_
          refine V_bipush (pc := 75) (by decide) e_X8_lacking_75 ?_
          refine Vm_now (pc := 77) e_X8_lacking_77 (by decide) ?_
          refine V_aload_n (pc := 78) e_X8_lacking_78 rfl (Or.inl ⟨_, rfl⟩) ?_
          refine V_iload (pc := 79) e_X8_lacking_79 rfl ?_
          refine V_iconst (pc := 81) e_X8_lacking_81 ?_
          refine V_cV2 (pc := 82) ca_8_64 e_X8_lacking_82 (by decide) (Nat.le_of_ble_eq_true rfl) (by decide) rfl (by decide) (c_X8_of (by omega) ?_)
          refine V_icmp_ne (pc := 85) e_X8_lacking_85 (by decide) (by omega) (by omega) (fun h85 => ?_) (fun h85 => ?_)
          · refine V_iconst (pc := 92) e_X8_lacking_92 ?_
            refine V_istore (pc := 93) e_X8_lacking_93 (by decide) ?_
            refine V_iload_n (pc := 95) e_X8_lacking_95 rfl ?_
            refine V_iload (pc := 96) e_X8_lacking_96 rfl ?_
            refine V_if_eq (pc := 98) e_X8_lacking_98 (by decide) (by decide) (fun _ => ?_) (fun h => absurd (by decide) h)
            refine V_iconst (pc := 122) e_X8_lacking_122 ?_
            refine V_iadd (pc := 123) e_X8_lacking_123 ?_
            refine V_istore_n (pc := 124) e_X8_lacking_124 (by decide) ?_
            refine V_iinc (pc := 125) e_X8_lacking_125 rfl (by decide) ?_
            refine V_goto (pc := 128) e_X8_lacking_128 (by decide) ?_
            exact V_lq [(0, .ref 144), (1, zI s), (2, zI q), (3, zI (lkN now s q (n + 1))), (4, zI ((n + 1 : Nat) : Int))] ⟨⟨_, rfl, rfl⟩, ⟨_, rfl, rfl⟩, ⟨_, rfl, rfl⟩, ⟨_, rfl, congrArg (fun e : Int => zI e) (by (show _ = lkN now s q n + (if jf now (n : Int) 3 = s ∧ jf now (n : Int) 4 = q then als now (n : Int) - jf now (n : Int) 8 - (if now 5 = 1 ∧ now 6 = jf now (n : Int) 0 then 1 else 0) else 0); (repeat' split) <;> omega))⟩, ⟨_, rfl, rfl⟩, trivial⟩ (ih (by omega))
          · refine V_iconst (pc := 88) e_X8_lacking_88 ?_
            refine V_goto (pc := 89) e_X8_lacking_89 (by decide) ?_
            refine V_istore (pc := 93) e_X8_lacking_93 (by decide) ?_
            refine V_iload_n (pc := 95) e_X8_lacking_95 rfl ?_
            refine V_iload (pc := 96) e_X8_lacking_96 rfl ?_
            refine V_if_eq (pc := 98) e_X8_lacking_98 (by decide) (by decide) (fun _ => ?_) (fun h => absurd (by decide) h)
            refine V_iconst (pc := 122) e_X8_lacking_122 ?_
            refine V_iadd (pc := 123) e_X8_lacking_123 ?_
            refine V_istore_n (pc := 124) e_X8_lacking_124 (by decide) ?_
            refine V_iinc (pc := 125) e_X8_lacking_125 rfl (by decide) ?_
            refine V_goto (pc := 128) e_X8_lacking_128 (by decide) ?_
            exact V_lq [(0, .ref 144), (1, zI s), (2, zI q), (3, zI (lkN now s q (n + 1))), (4, zI ((n + 1 : Nat) : Int))] ⟨⟨_, rfl, rfl⟩, ⟨_, rfl, rfl⟩, ⟨_, rfl, rfl⟩, ⟨_, rfl, congrArg (fun e : Int => zI e) (by (show _ = lkN now s q n + (if jf now (n : Int) 3 = s ∧ jf now (n : Int) 4 = q then als now (n : Int) - jf now (n : Int) 8 - (if now 5 = 1 ∧ now 6 = jf now (n : Int) 0 then 1 else 0) else 0); (repeat' split) <;> omega))⟩, ⟨_, rfl, rfl⟩, trivial⟩ (ih (by omega))
      · refine V_iconst (pc := 54) e_X8_lacking_54 ?_
        refine V_goto (pc := 55) e_X8_lacking_55 (by decide) ?_
        refine V_istore (pc := 59) e_X8_lacking_59 (by decide) ?_
        refine V_aload_n (pc := 61) e_X8_lacking_61 rfl (Or.inl ⟨_, rfl⟩) ?_
        refine V_getR (pc := 62) (q := 0) (j := 145) fx_8_7 e_X8_lacking_62 rfl rfl (by decide) rfl rfl ?_
        refine V_iconst (pc := 65) e_X8_lacking_65 ?_
        refine Vm_now (pc := 66) e_X8_lacking_66 (by decide) ?_
        refine V_iconst (pc := 67) e_X8_lacking_67 ?_
        refine V_icmp_ne (pc := 68) e_X8_lacking_68 (by decide) (by omega) (by decide) (fun h68 => ?_) (fun h68 => ?_)
        · refine V_iconst (pc := 92) e_X8_lacking_92 ?_
          refine V_istore (pc := 93) e_X8_lacking_93 (by decide) ?_
          refine V_iload_n (pc := 95) e_X8_lacking_95 rfl ?_
          refine V_iload (pc := 96) e_X8_lacking_96 rfl ?_
          refine V_if_eq (pc := 98) e_X8_lacking_98 (by decide) (by decide) (fun h => absurd h (by decide)) (fun _ => ?_)
          refine V_aload_n (pc := 101) e_X8_lacking_101 rfl (Or.inl ⟨_, rfl⟩) ?_
          refine V_iload (pc := 102) e_X8_lacking_102 rfl ?_
          refine V_cV1 (pc := 104) ca_8_103 e_X8_lacking_104 (by decide) (Nat.le_of_ble_eq_true rfl) (by decide) rfl (by decide) (c_X8_allSheets (by assumption) ?_)
          refine V_aload_n (pc := 107) e_X8_lacking_107 rfl (Or.inl ⟨_, rfl⟩) ?_
          refine V_iload (pc := 108) e_X8_lacking_108 rfl ?_
          refine V_bipush (pc := 110) (by decide) e_X8_lacking_110 ?_
          refine V_cV2 (pc := 112) ca_8_64 e_X8_lacking_112 (by decide) (Nat.le_of_ble_eq_true rfl) (by decide) rfl (by decide) (c_X8_of (by omega) ?_)
          refine V_isub (pc := 115) e_X8_lacking_115 ?_
          refine V_iload (pc := 116) e_X8_lacking_116 rfl ?_
          refine V_isub (pc := 118) e_X8_lacking_118 ?_
          refine V_goto (pc := 119) e_X8_lacking_119 (by decide) ?_
          refine V_iadd (pc := 123) e_X8_lacking_123 ?_
          refine V_istore_n (pc := 124) e_X8_lacking_124 (by decide) ?_
          refine V_iinc (pc := 125) e_X8_lacking_125 rfl (by decide) ?_
          refine V_goto (pc := 128) e_X8_lacking_128 (by decide) ?_
          exact V_lq [(0, .ref 144), (1, zI s), (2, zI q), (3, zI (lkN now s q (n + 1))), (4, zI ((n + 1 : Nat) : Int))] ⟨⟨_, rfl, rfl⟩, ⟨_, rfl, rfl⟩, ⟨_, rfl, rfl⟩, ⟨_, rfl, congrArg (fun e : Int => zI e) (by (show _ = lkN now s q n + (if jf now (n : Int) 3 = s ∧ jf now (n : Int) 4 = q then als now (n : Int) - jf now (n : Int) 8 - (if now 5 = 1 ∧ now 6 = jf now (n : Int) 0 then 1 else 0) else 0); (repeat' split) <;> omega))⟩, ⟨_, rfl, rfl⟩, trivial⟩ (ih (by omega))
        · refine V_aload_n (pc := 71) e_X8_lacking_71 rfl (Or.inl ⟨_, rfl⟩) ?_
          refine V_getR (pc := 72) (q := 0) (j := 145) fx_8_7 e_X8_lacking_72 rfl rfl (by decide) rfl rfl ?_
          refine V_bipush (pc := 75) (by decide) e_X8_lacking_75 ?_
          refine Vm_now (pc := 77) e_X8_lacking_77 (by decide) ?_
          refine V_aload_n (pc := 78) e_X8_lacking_78 rfl (Or.inl ⟨_, rfl⟩) ?_
          refine V_iload (pc := 79) e_X8_lacking_79 rfl ?_
          refine V_iconst (pc := 81) e_X8_lacking_81 ?_
          refine V_cV2 (pc := 82) ca_8_64 e_X8_lacking_82 (by decide) (Nat.le_of_ble_eq_true rfl) (by decide) rfl (by decide) (c_X8_of (by omega) ?_)
          refine V_icmp_ne (pc := 85) e_X8_lacking_85 (by decide) (by omega) (by omega) (fun h85 => ?_) (fun h85 => ?_)
          · refine V_iconst (pc := 92) e_X8_lacking_92 ?_
            refine V_istore (pc := 93) e_X8_lacking_93 (by decide) ?_
            refine V_iload_n (pc := 95) e_X8_lacking_95 rfl ?_
            refine V_iload (pc := 96) e_X8_lacking_96 rfl ?_
            refine V_if_eq (pc := 98) e_X8_lacking_98 (by decide) (by decide) (fun h => absurd h (by decide)) (fun _ => ?_)
            refine V_aload_n (pc := 101) e_X8_lacking_101 rfl (Or.inl ⟨_, rfl⟩) ?_
            refine V_iload (pc := 102) e_X8_lacking_102 rfl ?_
            refine V_cV1 (pc := 104) ca_8_103 e_X8_lacking_104 (by decide) (Nat.le_of_ble_eq_true rfl) (by decide) rfl (by decide) (c_X8_allSheets (by assumption) ?_)
            refine V_aload_n (pc := 107) e_X8_lacking_107 rfl (Or.inl ⟨_, rfl⟩) ?_
            refine V_iload (pc := 108) e_X8_lacking_108 rfl ?_
            refine V_bipush (pc := 110) (by decide) e_X8_lacking_110 ?_
            refine V_cV2 (pc := 112) ca_8_64 e_X8_lacking_112 (by decide) (Nat.le_of_ble_eq_true rfl) (by decide) rfl (by decide) (c_X8_of (by omega) ?_)
            refine V_isub (pc := 115) e_X8_lacking_115 ?_
            refine V_iload (pc := 116) e_X8_lacking_116 rfl ?_
            refine V_isub (pc := 118) e_X8_lacking_118 ?_
            refine V_goto (pc := 119) e_X8_lacking_119 (by decide) ?_
            refine V_iadd (pc := 123) e_X8_lacking_123 ?_
            refine V_istore_n (pc := 124) e_X8_lacking_124 (by decide) ?_
            refine V_iinc (pc := 125) e_X8_lacking_125 rfl (by decide) ?_
            refine V_goto (pc := 128) e_X8_lacking_128 (by decide) ?_
            exact V_lq [(0, .ref 144), (1, zI s), (2, zI q), (3, zI (lkN now s q (n + 1))), (4, zI ((n + 1 : Nat) : Int))] ⟨⟨_, rfl, rfl⟩, ⟨_, rfl, rfl⟩, ⟨_, rfl, rfl⟩, ⟨_, rfl, congrArg (fun e : Int => zI e) (by (show _ = lkN now s q n + (if jf now (n : Int) 3 = s ∧ jf now (n : Int) 4 = q then als now (n : Int) - jf now (n : Int) 8 - (if now 5 = 1 ∧ now 6 = jf now (n : Int) 0 then 1 else 0) else 0); (repeat' split) <;> omega))⟩, ⟨_, rfl, rfl⟩, trivial⟩ (ih (by omega))
          · refine V_iconst (pc := 88) e_X8_lacking_88 ?_
            refine V_goto (pc := 89) e_X8_lacking_89 (by decide) ?_
            refine V_istore (pc := 93) e_X8_lacking_93 (by decide) ?_
            refine V_iload_n (pc := 95) e_X8_lacking_95 rfl ?_
            refine V_iload (pc := 96) e_X8_lacking_96 rfl ?_
            refine V_if_eq (pc := 98) e_X8_lacking_98 (by decide) (by decide) (fun h => absurd h (by decide)) (fun _ => ?_)
            refine V_aload_n (pc := 101) e_X8_lacking_101 rfl (Or.inl ⟨_, rfl⟩) ?_
            refine V_iload (pc := 102) e_X8_lacking_102 rfl ?_
            refine V_cV1 (pc := 104) ca_8_103 e_X8_lacking_104 (by decide) (Nat.le_of_ble_eq_true rfl) (by decide) rfl (by decide) (c_X8_allSheets (by assumption) ?_)
            refine V_aload_n (pc := 107) e_X8_lacking_107 rfl (Or.inl ⟨_, rfl⟩) ?_
            refine V_iload (pc := 108) e_X8_lacking_108 rfl ?_
            refine V_bipush (pc := 110) (by decide) e_X8_lacking_110 ?_
            refine V_cV2 (pc := 112) ca_8_64 e_X8_lacking_112 (by decide) (Nat.le_of_ble_eq_true rfl) (by decide) rfl (by decide) (c_X8_of (by omega) ?_)
            refine V_isub (pc := 115) e_X8_lacking_115 ?_
            refine V_iload (pc := 116) e_X8_lacking_116 rfl ?_
            refine V_isub (pc := 118) e_X8_lacking_118 ?_
            refine V_goto (pc := 119) e_X8_lacking_119 (by decide) ?_
            refine V_iadd (pc := 123) e_X8_lacking_123 ?_
            refine V_istore_n (pc := 124) e_X8_lacking_124 (by decide) ?_
            refine V_iinc (pc := 125) e_X8_lacking_125 rfl (by decide) ?_
            refine V_goto (pc := 128) e_X8_lacking_128 (by decide) ?_
            exact V_lq [(0, .ref 144), (1, zI s), (2, zI q), (3, zI (lkN now s q (n + 1))), (4, zI ((n + 1 : Nat) : Int))] ⟨⟨_, rfl, rfl⟩, ⟨_, rfl, rfl⟩, ⟨_, rfl, rfl⟩, ⟨_, rfl, congrArg (fun e : Int => zI e) (by (show _ = lkN now s q n + (if jf now (n : Int) 3 = s ∧ jf now (n : Int) 4 = q then als now (n : Int) - jf now (n : Int) 8 - (if now 5 = 1 ∧ now 6 = jf now (n : Int) 0 then 1 else 0) else 0); (repeat' split) <;> omega))⟩, ⟨_, rfl, rfl⟩, trivial⟩ (ih (by omega))
theorem c_X8_lacking {σ : Sto} {now : Int → Int} {P : PT} {T : TT} {Q : Option Value → Sto → Prop} {s q : Int} (hR : RR now) (r_s : -2147483648 ≤ s ∧ s < 2147483648) (r_q : -2147483648 ≤ q ∧ q < 2147483648) (k1 : ¬ ((0 ≤ s ∧ s ≤ 3) ∧ 0 ≤ q ∧ q ≤ 3) → Q (some (zI (-1))) (mst σ now P T)) (k : (0 ≤ s ∧ s ≤ 3) ∧ 0 ≤ q ∧ q ≤ 3 → Q (some (zI (if lkN now s q (now 0).toNat < 0 then 0 else lkN now s q (now 0).toNat))) (mst σ now P T)) : Con M_X8_lacking 150 150 (mst σ now P T) [.ref 144, zI s, zI q] Q := by
  refine V_entry ok_X8_lacking (Nat.le_refl _) (Nat.le_of_ble_eq_true rfl) (V_ls [(0, .ref 144), (1, zI s), (2, zI q)] ⟨rfl, rfl, rfl, trivial⟩ ?_)
  refine V_iload_n (pc := 0) e_X8_lacking_0 rfl ?_
  refine V_iload_n (pc := 1) e_X8_lacking_1 rfl ?_
  refine V_cS2 (pc := 2) ca_8_43 e_X8_lacking_2 (by decide) (Nat.le_of_ble_eq_true rfl) (c_X8_isPaper (by omega) (by omega) (fun h_isPaper => ?_) (fun h_isPaper => ?_))
  · refine V_if_ne (pc := 5) e_X8_lacking_5 (by decide) (by decide) (fun _ => ?_) (fun h => absurd h (by decide))
    refine V_aload_n (pc := 10) e_X8_lacking_10 rfl (Or.inl ⟨_, rfl⟩) ?_
    refine V_iload_n (pc := 11) e_X8_lacking_11 rfl ?_
    refine V_iload_n (pc := 12) e_X8_lacking_12 rfl ?_
    refine V_cV2 (pc := 13) ca_8_50 e_X8_lacking_13 (by decide) (Nat.le_of_ble_eq_true rfl) (by decide) rfl (by decide) (c_X8_sheetsOf hR.1 (by omega) (by omega) ?_)
    refine V_ineg (pc := 16) e_X8_lacking_16 ?_
    refine V_istore_n (pc := 17) e_X8_lacking_17 (by decide) ?_
    refine V_iconst (pc := 18) e_X8_lacking_18 ?_
    refine V_istore (pc := 19) e_X8_lacking_19 (by decide) ?_
    exact V_lq [(0, .ref 144), (1, zI s), (2, zI q), (3, zI (lkN now s q 0)), (4, zI ((0 : Nat) : Int))] ⟨⟨_, rfl, rfl⟩, ⟨_, rfl, rfl⟩, ⟨_, rfl, rfl⟩, ⟨_, rfl, rfl⟩, ⟨_, rfl, rfl⟩, trivial⟩ (L_X8_lacking hR r_s r_q (k (by omega)) 0 (by omega))
  · refine V_if_ne (pc := 5) e_X8_lacking_5 (by decide) (by decide) (fun h => absurd (by decide) h) (fun _ => ?_)
    refine V_iconst (pc := 8) e_X8_lacking_8 ?_
    refine V_ret (pc := 9) (v := some (zI _)) ⟨e_X8_lacking_9, _, rfl, rfl⟩ ?_
    exact k1 (by omega)
