/-! texts of the class: a digit -/
theorem c_X2_digitAtPlace {σ : Sto} {Q : Option Value → Sto → Prop} (hJ : σ.2.1 141 0 = some 142) (hl : 0 ≤ σ.1 141 1 ∧ σ.1 141 1 ≤ 100) (hp : -1000 ≤ σ.1 141 2 ∧ σ.1 141 2 ≤ 1000) (hs : 0 ≤ σ.1 141 2 → σ.1 141 2 < σ.1 141 1 → 32 ≤ σ.1 142 (σ.1 141 2) ∧ σ.1 142 (σ.1 141 2) ≤ 126) (k1 : 0 ≤ σ.1 141 2 ∧ σ.1 141 2 < σ.1 141 1 ∧ 48 ≤ σ.1 142 (σ.1 141 2) ∧ σ.1 142 (σ.1 141 2) ≤ 57 → Q (some (zI (σ.1 142 (σ.1 141 2) - 48))) σ) (k0 : ¬ (0 ≤ σ.1 141 2 ∧ σ.1 141 2 < σ.1 141 1 ∧ 48 ≤ σ.1 142 (σ.1 141 2) ∧ σ.1 142 (σ.1 141 2) ≤ 57) → Q (some (zI (-1))) σ) : Con M_X2_digitAtPlace 150 150 σ [.ref 141] Q := by
  refine V_entry ok_X2_digitAtPlace (Nat.le_refl _) (Nat.le_of_ble_eq_true rfl) (V_ls [(0, .ref 141)] ⟨rfl, trivial⟩ ?_)
  refine V_aload_n (pc := 0) e_X2_digitAtPlace_0 rfl (Or.inl ⟨_, rfl⟩) ?_
  refine V_get (pc := 1) (q := 2) fx_2_39 e_X2_digitAtPlace_1 rfl rfl (by decide) rfl ?_
  refine V_if_lt (pc := 4) e_X2_digitAtPlace_4 (by decide) (by omega) (fun h4 => ?_) (fun h4 => ?_)
  · refine V_iconst (pc := 27) e_X2_digitAtPlace_27 ?_
    refine V_ret (pc := 28) (v := some (zI _)) ⟨e_X2_digitAtPlace_28, _, rfl, rfl⟩ ?_
    exact k0 (by omega)
  · refine V_aload_n (pc := 7) e_X2_digitAtPlace_7 rfl (Or.inl ⟨_, rfl⟩) ?_
    refine V_get (pc := 8) (q := 2) fx_2_39 e_X2_digitAtPlace_8 rfl rfl (by decide) rfl ?_
    refine V_aload_n (pc := 11) e_X2_digitAtPlace_11 rfl (Or.inl ⟨_, rfl⟩) ?_
    refine V_get (pc := 12) (q := 1) fx_2_15 e_X2_digitAtPlace_12 rfl rfl (by decide) rfl ?_
    refine V_icmp_ge (pc := 15) e_X2_digitAtPlace_15 (by decide) (by omega) (by omega) (fun h15 => ?_) (fun h15 => ?_)
    · refine V_iconst (pc := 27) e_X2_digitAtPlace_27 ?_
      refine V_ret (pc := 28) (v := some (zI _)) ⟨e_X2_digitAtPlace_28, _, rfl, rfl⟩ ?_
      exact k0 (by omega)
    · refine V_aload_n (pc := 18) e_X2_digitAtPlace_18 rfl (Or.inl ⟨_, rfl⟩) ?_
      refine V_get (pc := 19) (q := 2) fx_2_39 e_X2_digitAtPlace_19 rfl rfl (by decide) rfl ?_
      refine V_bipush (pc := 22) (by decide) e_X2_digitAtPlace_22 ?_
      refine V_icmp_lt (pc := 24) e_X2_digitAtPlace_24 (by decide) (by omega) (by decide) (fun h24 => ?_) (fun h24 => ?_)
      · have hc := hs (by omega) (by omega)
        refine V_aload_n (pc := 29) e_X2_digitAtPlace_29 rfl (Or.inl ⟨_, rfl⟩) ?_
        refine V_getR (pc := 30) (q := 0) (j := 142) fx_2_9 e_X2_digitAtPlace_30 rfl rfl (by decide) rfl hJ ?_
        refine V_aload_n (pc := 33) e_X2_digitAtPlace_33 rfl (Or.inl ⟨_, rfl⟩) ?_
        refine V_get (pc := 34) (q := 2) fx_2_39 e_X2_digitAtPlace_34 rfl rfl (by decide) rfl ?_
        refine V_cald (pc := 37) (n := 100) e_X2_digitAtPlace_37 (by decide) rfl (by omega) (by omega) (by decide) ?_
        refine V_bipush (pc := 38) (by decide) e_X2_digitAtPlace_38 ?_
        refine V_isub (pc := 40) e_X2_digitAtPlace_40 ?_
        refine V_istore_n (pc := 41) e_X2_digitAtPlace_41 (by decide) ?_
        refine V_iload_n (pc := 42) e_X2_digitAtPlace_42 rfl ?_
        refine V_if_lt (pc := 43) e_X2_digitAtPlace_43 (by decide) (by omega) (fun h43 => ?_) (fun h43 => ?_)
        · refine V_iconst (pc := 56) e_X2_digitAtPlace_56 ?_
          refine V_ret (pc := 57) (v := some (zI _)) ⟨e_X2_digitAtPlace_57, _, rfl, rfl⟩ ?_
          exact k0 (by omega)
        · refine V_iload_n (pc := 46) e_X2_digitAtPlace_46 rfl ?_
          refine V_bipush (pc := 47) (by decide) e_X2_digitAtPlace_47 ?_
          refine V_icmp_gt (pc := 49) e_X2_digitAtPlace_49 (by decide) (by omega) (by decide) (fun h49 => ?_) (fun h49 => ?_)
          · refine V_iconst (pc := 56) e_X2_digitAtPlace_56 ?_
            refine V_ret (pc := 57) (v := some (zI _)) ⟨e_X2_digitAtPlace_57, _, rfl, rfl⟩ ?_
            exact k0 (by omega)
          · refine V_iload_n (pc := 52) e_X2_digitAtPlace_52 rfl ?_
            refine V_goto (pc := 53) e_X2_digitAtPlace_53 (by decide) ?_
            refine V_ret (pc := 57) (v := some (zI _)) ⟨e_X2_digitAtPlace_57, _, rfl, rfl⟩ ?_
            exact k1 (by omega)
      · refine V_iconst (pc := 27) e_X2_digitAtPlace_27 ?_
        refine V_ret (pc := 28) (v := some (zI _)) ⟨e_X2_digitAtPlace_28, _, rfl, rfl⟩ ?_
        exact k0 (by omega)
