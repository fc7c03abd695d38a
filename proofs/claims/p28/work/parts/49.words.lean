/-! texts of the class: the words of sizes and kinds -/
theorem c_X2_sizeWord {σ : Sto} {Q : Option Value → Sto → Prop} {i : Int} (hi : 0 ≤ i ∧ i < 4) (k : ∀ n : Nat, (n : Int) = 6 + i → Q (some (.retAddr (4 + n))) σ) : Con M_X2_sizeWord 150 150 σ [zI i] Q := by
  refine V_entry ok_X2_sizeWord (Nat.le_refl _) (Nat.le_of_ble_eq_true rfl) (V_ls [(0, zI i)] ⟨rfl, trivial⟩ ?_)
  refine V_iload_n (pc := 0) e_X2_sizeWord_0 rfl ?_
  refine V_table (pc := 1) e_X2_sizeWord_1 (by decide) (by decide) (by decide) (by omega) (fun h1 => ?_) (fun j o h1 ho => ?_)
  · refine V_ldcS (pc := 37) (j := 9) (by decide) rfl rfl e_X2_sizeWord_37 ?_
    refine V_ret (pc := 39) (v := some (.retAddr _)) ⟨e_X2_sizeWord_39, _, rfl⟩ ?_
    exact k _ (by omega)
  · match j, ho with
    | 0, ho =>
      obtain rfl := Option.some.inj ho
      refine V_ldcS (pc := 28) (j := 6) (by decide) rfl rfl e_X2_sizeWord_28 ?_
      refine V_ret (pc := 30) (v := some (.retAddr _)) ⟨e_X2_sizeWord_30, _, rfl⟩ ?_
      exact k _ (by omega)
    | 1, ho =>
      obtain rfl := Option.some.inj ho
      refine V_ldcS (pc := 31) (j := 7) (by decide) rfl rfl e_X2_sizeWord_31 ?_
      refine V_ret (pc := 33) (v := some (.retAddr _)) ⟨e_X2_sizeWord_33, _, rfl⟩ ?_
      exact k _ (by omega)
    | 2, ho =>
      obtain rfl := Option.some.inj ho
      refine V_ldcS (pc := 34) (j := 8) (by decide) rfl rfl e_X2_sizeWord_34 ?_
      refine V_ret (pc := 36) (v := some (.retAddr _)) ⟨e_X2_sizeWord_36, _, rfl⟩ ?_
      exact k _ (by omega)
    | j + 3, ho => exact absurd ho (by simp)
theorem c_X2_kindWord {σ : Sto} {Q : Option Value → Sto → Prop} {i : Int} (hi : 0 ≤ i ∧ i < 4) (k : ∀ n : Nat, (n : Int) = 10 + i → Q (some (.retAddr (4 + n))) σ) : Con M_X2_kindWord 150 150 σ [zI i] Q := by
  refine V_entry ok_X2_kindWord (Nat.le_refl _) (Nat.le_of_ble_eq_true rfl) (V_ls [(0, zI i)] ⟨rfl, trivial⟩ ?_)
  refine V_iload_n (pc := 0) e_X2_kindWord_0 rfl ?_
  refine V_table (pc := 1) e_X2_kindWord_1 (by decide) (by decide) (by decide) (by omega) (fun h1 => ?_) (fun j o h1 ho => ?_)
  · refine V_ldcS (pc := 37) (j := 13) (by decide) rfl rfl e_X2_kindWord_37 ?_
    refine V_ret (pc := 39) (v := some (.retAddr _)) ⟨e_X2_kindWord_39, _, rfl⟩ ?_
    exact k _ (by omega)
  · match j, ho with
    | 0, ho =>
      obtain rfl := Option.some.inj ho
      refine V_ldcS (pc := 28) (j := 10) (by decide) rfl rfl e_X2_kindWord_28 ?_
      refine V_ret (pc := 30) (v := some (.retAddr _)) ⟨e_X2_kindWord_30, _, rfl⟩ ?_
      exact k _ (by omega)
    | 1, ho =>
      obtain rfl := Option.some.inj ho
      refine V_ldcS (pc := 31) (j := 11) (by decide) rfl rfl e_X2_kindWord_31 ?_
      refine V_ret (pc := 33) (v := some (.retAddr _)) ⟨e_X2_kindWord_33, _, rfl⟩ ?_
      exact k _ (by omega)
    | 2, ho =>
      obtain rfl := Option.some.inj ho
      refine V_ldcS (pc := 34) (j := 12) (by decide) rfl rfl e_X2_kindWord_34 ?_
      refine V_ret (pc := 36) (v := some (.retAddr _)) ⟨e_X2_kindWord_36, _, rfl⟩ ?_
      exact k _ (by omega)
    | j + 3, ho => exact absurd ho (by simp)
