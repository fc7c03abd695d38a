/-! the public methods that change: first the history keeps the machine -/
theorem HX.hz {σ σ' : Sto} {c : Nat → Int → Int} {π : Int → Nat} (h : HX (kst 1 σ c π) σ') (z : HZ σ) : HZ σ' := by
  have a : σ'.2.1 0 = σ.2.1 0 := ((h.1 0 (Or.inl (by decide))).2).trans (kst_o2 (b := 1) (Or.inl (by decide)))
  have b : σ'.2.1 141 = σ.2.1 141 := ((h.1 141 (Or.inr (by decide))).2).trans (kst_o2 (b := 1) (Or.inr (by decide)))
  unfold HZ at z ⊢
  rw [a, b]
  exact z
/-- the history has kept row r -/
def KP (σ σ2 : Sto) (c : Nat → Int → Int) (π : Int → Nat) (sv : Int) (ρ : Int → Int → Int) (r : Int → Int) : Prop := HX (kst 1 σ c π) σ2 ∧ (sv < 4 → HS σ2 (sv + 1) (up1 ρ sv r)) ∧ (sv = 4 → HS σ2 4 (up1 (fun k => ρ (k + 1)) 3 r))
theorem c_X7_staples {σ : Sto} {c : Nat → Int → Int} {π : Int → Nat} {r : Int → Int} {Q : Option Value → Sto → Prop} (hZ : HZ σ) (hM : MR c π r) (hI : RI r) {ρ : Int → Int → Int} {sv : Int} (hH : HS σ sv ρ) {v : Int} (r_v : -2147483648 ≤ v ∧ v < 2147483648) (k1 : ¬ (0 ≤ v ∧ v ≤ 5000) → Q (some (zI (-1))) (kst 1 σ c π)) (k2 : 0 ≤ v ∧ v ≤ 5000 → ∀ (σ2 : Sto) (c' : Nat → Int → Int), KP σ σ2 c π sv ρ r → MR c' π (up1 r 3 v) → Q (some (zI (r 3))) (kst 1 σ2 c' π)) : Con M_X7_staples 144 144 (kst 1 σ c π) [.ref 0, zI v] Q := by
  refine V_entry ok_X7_staples (Nat.le_refl _) (Nat.le_of_ble_eq_true rfl) (V_ls [(0, .ref 0), (1, zI v)] ⟨rfl, rfl, trivial⟩ ?_)
  have hB : MB 1 := Or.inl rfl
  have hR := hI.rr
  obtain ⟨ni, hRB, hRT, hPA, hS, hJI, hWI⟩ := id hI
  obtain ⟨mT, mL, mS, mK, hQ⟩ := id hM
  have hT := mT
  unfold NI at ni
  refine V_iload_n (pc := 0) e_X7_staples_0 rfl ?_
  refine V_iconst (pc := 1) e_X7_staples_1 ?_
  refine V_sipush (pc := 2) (by decide) e_X7_staples_2 ?_
  refine V_cS3 (pc := 5) ca_7_44 e_X7_staples_5 (by decide) (Nat.le_of_ble_eq_true rfl) (c_X7_isWithin (by omega) (by omega) (by omega) (fun h_wi => ?_) (fun h_wi => ?_))
  · refine V_if_ne (pc := 8) e_X7_staples_8 (by decide) (by decide) (fun _ => ?_) (fun h => absurd h (by decide))
    refine V_aload_n (pc := 13) e_X7_staples_13 rfl (Or.inl ⟨_, rfl⟩) ?_
    refine Vp_getR (pc := 14) (q := 2) (j := 47) hZ.2.2.1 fx_7_22 e_X7_staples_14 rfl rfl ?_
    refine V_aload_n (pc := 17) e_X7_staples_17 rfl (Or.inl ⟨_, rfl⟩) ?_
    refine Vp_getR (pc := 18) (q := 0) (j := 1) hZ.1 fx_7_12 e_X7_staples_18 rfl rfl ?_
    refine V_cV1 (pc := 21) ca_7_58 e_X7_staples_21 (by decide) (Nat.le_of_ble_eq_true rfl) (by decide) rfl (by decide) (c_X0_keep (ρ := ρ) (s := sv) (hH.kst (by decide)) kst_MS hM hR (fun σ2 x2 y2 z2 => ?_))
    refine V_sq (σ' := kst 1 σ2 c π) (MS.eq (x2.ms (by decide) kst_MS)).symm ?_
    have hZ := x2.hz hZ
    refine V_aload_n (pc := 24) e_X7_staples_24 rfl (Or.inl ⟨_, rfl⟩) ?_
    refine Vp_getR (pc := 25) (q := 0) (j := 1) hZ.1 fx_7_12 e_X7_staples_25 rfl rfl ?_
    refine Vk_get (pc := 28) (i := 0) (q := 4) hB rfl (by decide) rfl fx_7_79 e_X7_staples_28 rfl rfl ?_
    refine V_istore_n (pc := 31) e_X7_staples_31 (by decide) ?_
    refine V_aload_n (pc := 32) e_X7_staples_32 rfl (Or.inl ⟨_, rfl⟩) ?_
    refine Vp_getR (pc := 33) (q := 0) (j := 1) hZ.1 fx_7_12 e_X7_staples_33 rfl rfl ?_
    refine V_iload_n (pc := 36) e_X7_staples_36 rfl ?_
    refine Vk_put (pc := 37) (i := 0) (q := 4) hB rfl (by decide) rfl fx_7_79 e_X7_staples_37 rfl rfl rfl rfl rfl ?_
    refine V_iload_n (pc := 40) e_X7_staples_40 rfl ?_
    refine V_ret (pc := 41) (v := some (zI _)) ⟨e_X7_staples_41, _, rfl, rfl⟩ ?_
    rw [mK.1]
    exact k2 (by omega) _ _ ⟨x2, y2, z2⟩ (MR_sta (by omega) (by omega) hM)
  · refine V_if_ne (pc := 8) e_X7_staples_8 (by decide) (by decide) (fun h => absurd (by decide) h) (fun _ => ?_)
    refine V_iconst (pc := 11) e_X7_staples_11 ?_
    refine V_ret (pc := 12) (v := some (zI _)) ⟨e_X7_staples_12, _, rfl, rfl⟩ ?_
    exact k1 (by omega)
theorem c_X7_emptyBin {σ : Sto} {c : Nat → Int → Int} {π : Int → Nat} {r : Int → Int} {Q : Option Value → Sto → Prop} (hZ : HZ σ) (hM : MR c π r) (hI : RI r) {ρ : Int → Int → Int} {sv : Int} (hH : HS σ sv ρ)  (k : ∀ (σ2 : Sto) (c' : Nat → Int → Int), KP σ σ2 c π sv ρ r → MR c' π (up1 r 2 0) → Q (some (zI (r 2))) (kst 1 σ2 c' π)) : Con M_X7_emptyBin 144 144 (kst 1 σ c π) [.ref 0] Q := by
  refine V_entry ok_X7_emptyBin (Nat.le_refl _) (Nat.le_of_ble_eq_true rfl) (V_ls [(0, .ref 0)] ⟨rfl, trivial⟩ ?_)
  have hB : MB 1 := Or.inl rfl
  have hR := hI.rr
  obtain ⟨ni, hRB, hRT, hPA, hS, hJI, hWI⟩ := id hI
  obtain ⟨mT, mL, mS, mK, hQ⟩ := id hM
  have hT := mT
  unfold NI at ni
  refine V_aload_n (pc := 0) e_X7_emptyBin_0 rfl (Or.inl ⟨_, rfl⟩) ?_
  refine Vp_getR (pc := 1) (q := 2) (j := 47) hZ.2.2.1 fx_7_22 e_X7_emptyBin_1 rfl rfl ?_
  refine V_aload_n (pc := 4) e_X7_emptyBin_4 rfl (Or.inl ⟨_, rfl⟩) ?_
  refine Vp_getR (pc := 5) (q := 0) (j := 1) hZ.1 fx_7_12 e_X7_emptyBin_5 rfl rfl ?_
  refine V_cV1 (pc := 8) ca_7_58 e_X7_emptyBin_8 (by decide) (Nat.le_of_ble_eq_true rfl) (by decide) rfl (by decide) (c_X0_keep (ρ := ρ) (s := sv) (hH.kst (by decide)) kst_MS hM hR (fun σ2 x2 y2 z2 => ?_))
  refine V_sq (σ' := kst 1 σ2 c π) (MS.eq (x2.ms (by decide) kst_MS)).symm ?_
  have hZ := x2.hz hZ
  refine V_aload_n (pc := 11) e_X7_emptyBin_11 rfl (Or.inl ⟨_, rfl⟩) ?_
  refine Vp_getR (pc := 12) (q := 0) (j := 1) hZ.1 fx_7_12 e_X7_emptyBin_12 rfl rfl ?_
  refine Vk_get (pc := 15) (i := 0) (q := 5) hB rfl (by decide) rfl fx_7_83 e_X7_emptyBin_15 rfl rfl ?_
  refine V_istore_n (pc := 18) e_X7_emptyBin_18 (by decide) ?_
  refine V_aload_n (pc := 19) e_X7_emptyBin_19 rfl (Or.inl ⟨_, rfl⟩) ?_
  refine Vp_getR (pc := 20) (q := 0) (j := 1) hZ.1 fx_7_12 e_X7_emptyBin_20 rfl rfl ?_
  refine V_iconst (pc := 23) e_X7_emptyBin_23 ?_
  refine Vk_put (pc := 24) (i := 0) (q := 5) hB rfl (by decide) rfl fx_7_83 e_X7_emptyBin_24 rfl rfl rfl rfl rfl ?_
  refine V_iload_n (pc := 27) e_X7_emptyBin_27 rfl ?_
  refine V_ret (pc := 28) (v := some (zI _)) ⟨e_X7_emptyBin_28, _, rfl, rfl⟩ ?_
  rw [mK.2.1]
  exact k _ _ ⟨x2, y2, z2⟩ (MR_bin (by omega) (by omega) hM)
theorem c_X7_fill {σ : Sto} {c : Nat → Int → Int} {π : Int → Nat} {r : Int → Int} {Q : Option Value → Sto → Prop} (hZ : HZ σ) (hM : MR c π r) (hI : RI r) {ρ : Int → Int → Int} {sv : Int} (hH : HS σ sv ρ) {t s : Int} (r_t : -2147483648 ≤ t ∧ t < 2147483648) (r_s : -2147483648 ≤ s ∧ s < 2147483648) (k1 : ¬ ((0 ≤ t ∧ t ≤ 3) ∧ 1 ≤ s ∧ s ≤ 500) → Q (some (zI (-1))) (kst 1 σ c π)) (k2 : (0 ≤ t ∧ t ≤ 3) ∧ 1 ≤ s ∧ s ≤ 500 → 500 < r (25 + 3 * t + 2) + s → Q (some (zI (-3))) (kst 1 σ c π)) (k3 : (0 ≤ t ∧ t ≤ 3) ∧ 1 ≤ s ∧ s ≤ 500 → ¬ 500 < r (25 + 3 * t + 2) + s → ∀ (σ2 : Sto) (c' : Nat → Int → Int), KP σ σ2 c π sv ρ r → MR c' π (up1 r (25 + 3 * t + 2) (r (25 + 3 * t + 2) + s)) → Q (some (zI (r (25 + 3 * t + 2) + s))) (kst 1 σ2 c' π)) : Con M_X7_fill 144 144 (kst 1 σ c π) [.ref 0, zI t, zI s] Q := by
  refine V_entry ok_X7_fill (Nat.le_refl _) (Nat.le_of_ble_eq_true rfl) (V_ls [(0, .ref 0), (1, zI t), (2, zI s)] ⟨rfl, rfl, rfl, trivial⟩ ?_)
  have hB : MB 1 := Or.inl rfl
  have hR := hI.rr
  obtain ⟨ni, hRB, hRT, hPA, hS, hJI, hWI⟩ := id hI
  obtain ⟨mT, mL, mS, mK, hQ⟩ := id hM
  have hT := mT
  unfold NI at ni
  refine V_iload_n (pc := 0) e_X7_fill_0 rfl ?_
  refine V_iconst (pc := 1) e_X7_fill_1 ?_
  refine V_cS2 (pc := 2) ca_7_40 e_X7_fill_2 (by decide) (Nat.le_of_ble_eq_true rfl) (c_X7_isBelow (by omega) (by omega) (fun h_bl => ?_) (fun h_bl => ?_))
  · refine V_if_eq (pc := 5) e_X7_fill_5 (by decide) (by decide) (fun h => absurd h (by decide)) (fun _ => ?_)
    refine V_iload_n (pc := 8) e_X7_fill_8 rfl ?_
    refine V_iconst (pc := 9) e_X7_fill_9 ?_
    refine V_sipush (pc := 10) (by decide) e_X7_fill_10 ?_
    refine V_cS3 (pc := 13) ca_7_44 e_X7_fill_13 (by decide) (Nat.le_of_ble_eq_true rfl) (c_X7_isWithin (by omega) (by omega) (by omega) (fun h_wi => ?_) (fun h_wi => ?_))
    · refine V_if_ne (pc := 16) e_X7_fill_16 (by decide) (by decide) (fun _ => ?_) (fun h => absurd h (by decide))
      have e := (mT t (by omega) (by omega)).2.2
      have f := hRT t (by omega) (by omega)
      refine V_aload_n (pc := 21) e_X7_fill_21 rfl (Or.inl ⟨_, rfl⟩) ?_
      refine Vp_getR (pc := 22) (q := 0) (j := 1) hZ.1 fx_7_12 e_X7_fill_22 rfl rfl ?_
      refine Vk_getR (pc := 25) (i := 0) (q := 0) hB rfl (by decide) rfl fx_7_48 e_X7_fill_25 rfl rfl (by decide) rfl ?_
      refine Vk_getR (pc := 28) (q := 2) hB rfl (by decide) rfl fx_7_52 e_X7_fill_28 rfl rfl (by decide) rfl ?_
      refine V_iload_n (pc := 31) e_X7_fill_31 rfl ?_
      refine Vk_ld (pc := 32) (n := 4) hB rfl (by decide) rfl (by decide) e_X7_fill_32 (by omega) ?_
      refine V_iload_n (pc := 33) e_X7_fill_33 rfl ?_
      refine V_iadd (pc := 34) e_X7_fill_34 ?_
      refine V_istore_n (pc := 35) e_X7_fill_35 (by decide) ?_
      refine V_iload_n (pc := 36) e_X7_fill_36 rfl ?_
      refine V_sipush (pc := 37) (by decide) e_X7_fill_37 ?_
      refine V_icmp_le (pc := 40) e_X7_fill_40 (by decide) (by omega) (by decide) (fun h40 => ?_) (fun h40 => ?_)
      · refine V_aload_n (pc := 46) e_X7_fill_46 rfl (Or.inl ⟨_, rfl⟩) ?_
        refine Vp_getR (pc := 47) (q := 2) (j := 47) hZ.2.2.1 fx_7_22 e_X7_fill_47 rfl rfl ?_
        refine V_aload_n (pc := 50) e_X7_fill_50 rfl (Or.inl ⟨_, rfl⟩) ?_
        refine Vp_getR (pc := 51) (q := 0) (j := 1) hZ.1 fx_7_12 e_X7_fill_51 rfl rfl ?_
        refine V_cV1 (pc := 54) ca_7_58 e_X7_fill_54 (by decide) (Nat.le_of_ble_eq_true rfl) (by decide) rfl (by decide) (c_X0_keep (ρ := ρ) (s := sv) (hH.kst (by decide)) kst_MS hM hR (fun σ2 x2 y2 z2 => ?_))
        refine V_sq (σ' := kst 1 σ2 c π) (MS.eq (x2.ms (by decide) kst_MS)).symm ?_
        have hZ := x2.hz hZ
        refine V_aload_n (pc := 57) e_X7_fill_57 rfl (Or.inl ⟨_, rfl⟩) ?_
        refine Vp_getR (pc := 58) (q := 0) (j := 1) hZ.1 fx_7_12 e_X7_fill_58 rfl rfl ?_
        refine Vk_getR (pc := 61) (i := 0) (q := 0) hB rfl (by decide) rfl fx_7_48 e_X7_fill_61 rfl rfl (by decide) rfl ?_
        refine Vk_getR (pc := 64) (q := 2) hB rfl (by decide) rfl fx_7_52 e_X7_fill_64 rfl rfl (by decide) rfl ?_
        refine V_iload_n (pc := 67) e_X7_fill_67 rfl ?_
        refine V_iload_n (pc := 68) e_X7_fill_68 rfl ?_
        refine Vk_st (pc := 69) (n := 4) hB rfl (by decide) rfl (by decide) e_X7_fill_69 (by omega) ?_
        refine V_iload_n (pc := 70) e_X7_fill_70 rfl ?_
        refine V_ret (pc := 71) (v := some (zI _)) ⟨e_X7_fill_71, _, rfl, rfl⟩ ?_
        rw [e]
        exact k3 (by omega) (by omega) _ _ ⟨x2, y2, z2⟩ (MR_tray (by omega) (by omega) hM (by omega))
      · refine V_bipush (pc := 43) (by decide) e_X7_fill_43 ?_
        refine V_ret (pc := 45) (v := some (zI _)) ⟨e_X7_fill_45, _, rfl, rfl⟩ ?_
        exact k2 (by omega) (by omega)
    · refine V_if_ne (pc := 16) e_X7_fill_16 (by decide) (by decide) (fun h => absurd (by decide) h) (fun _ => ?_)
      refine V_iconst (pc := 19) e_X7_fill_19 ?_
      refine V_ret (pc := 20) (v := some (zI _)) ⟨e_X7_fill_20, _, rfl, rfl⟩ ?_
      exact k1 (by omega)
  · refine V_if_eq (pc := 5) e_X7_fill_5 (by decide) (by decide) (fun _ => ?_) (fun h => absurd (by decide) h)
    refine V_iconst (pc := 19) e_X7_fill_19 ?_
    refine V_ret (pc := 20) (v := some (zI _)) ⟨e_X7_fill_20, _, rfl, rfl⟩ ?_
    exact k1 (by omega)
theorem c_X7_load {σ : Sto} {c : Nat → Int → Int} {π : Int → Nat} {r : Int → Int} {Q : Option Value → Sto → Prop} (hZ : HZ σ) (hM : MR c π r) (hI : RI r) {ρ : Int → Int → Int} {sv : Int} (hH : HS σ sv ρ) {t s q : Int} (r_t : -2147483648 ≤ t ∧ t < 2147483648) (r_s : -2147483648 ≤ s ∧ s < 2147483648) (r_q : -2147483648 ≤ q ∧ q < 2147483648) (k1 : ¬ ((0 ≤ t ∧ t ≤ 3) ∧ (0 ≤ s ∧ s ≤ 3) ∧ 0 ≤ q ∧ q ≤ 3) → Q (some (zI (-1))) (kst 1 σ c π)) (k2 : (0 ≤ t ∧ t ≤ 3) ∧ (0 ≤ s ∧ s ≤ 3) ∧ 0 ≤ q ∧ q ≤ 3 → ∀ (σ2 : Sto) (c' : Nat → Int → Int), KP σ σ2 c π sv ρ r → MR c' π (up1 (up1 (up1 r (25 + 3 * t) s) (25 + 3 * t + 1) q) (25 + 3 * t + 2) 0) → Q (some (zI (r (25 + 3 * t + 2)))) (kst 1 σ2 c' π)) : Con M_X7_load 144 144 (kst 1 σ c π) [.ref 0, zI t, zI s, zI q] Q := by
  refine V_entry ok_X7_load (Nat.le_refl _) (Nat.le_of_ble_eq_true rfl) (V_ls [(0, .ref 0), (1, zI t), (2, zI s), (3, zI q)] ⟨rfl, rfl, rfl, rfl, trivial⟩ ?_)
  have hB : MB 1 := Or.inl rfl
  have hR := hI.rr
  obtain ⟨ni, hRB, hRT, hPA, hS, hJI, hWI⟩ := id hI
  obtain ⟨mT, mL, mS, mK, hQ⟩ := id hM
  have hT := mT
  unfold NI at ni
  refine V_iload_n (pc := 0) e_X7_load_0 rfl ?_
  refine V_iconst (pc := 1) e_X7_load_1 ?_
  refine V_cS2 (pc := 2) ca_7_40 e_X7_load_2 (by decide) (Nat.le_of_ble_eq_true rfl) (c_X7_isBelow (by omega) (by omega) (fun h_bl => ?_) (fun h_bl => ?_))
  · refine V_if_eq (pc := 5) e_X7_load_5 (by decide) (by decide) (fun h => absurd h (by decide)) (fun _ => ?_)
    refine V_iload_n (pc := 8) e_X7_load_8 rfl ?_
    refine V_iload_n (pc := 9) e_X7_load_9 rfl ?_
    refine V_cS2 (pc := 10) ca_7_62 e_X7_load_10 (by decide) (Nat.le_of_ble_eq_true rfl) (c_X7_isPaper (by omega) (by omega) (fun h_pa => ?_) (fun h_pa => ?_))
    · refine V_if_ne (pc := 13) e_X7_load_13 (by decide) (by decide) (fun _ => ?_) (fun h => absurd h (by decide))
      refine V_aload_n (pc := 18) e_X7_load_18 rfl (Or.inl ⟨_, rfl⟩) ?_
      refine Vp_getR (pc := 19) (q := 2) (j := 47) hZ.2.2.1 fx_7_22 e_X7_load_19 rfl rfl ?_
      refine V_aload_n (pc := 22) e_X7_load_22 rfl (Or.inl ⟨_, rfl⟩) ?_
      refine Vp_getR (pc := 23) (q := 0) (j := 1) hZ.1 fx_7_12 e_X7_load_23 rfl rfl ?_
      refine V_cV1 (pc := 26) ca_7_58 e_X7_load_26 (by decide) (Nat.le_of_ble_eq_true rfl) (by decide) rfl (by decide) (c_X0_keep (ρ := ρ) (s := sv) (hH.kst (by decide)) kst_MS hM hR (fun σ2 x2 y2 z2 => ?_))
      refine V_sq (σ' := kst 1 σ2 c π) (MS.eq (x2.ms (by decide) kst_MS)).symm ?_
      have hZ := x2.hz hZ
      refine V_aload_n (pc := 29) e_X7_load_29 rfl (Or.inl ⟨_, rfl⟩) ?_
      refine Vp_getR (pc := 30) (q := 0) (j := 1) hZ.1 fx_7_12 e_X7_load_30 rfl rfl ?_
      refine Vk_getR (pc := 33) (i := 0) (q := 0) hB rfl (by decide) rfl fx_7_48 e_X7_load_33 rfl rfl (by decide) rfl ?_
      refine V_iload_n (pc := 36) e_X7_load_36 rfl ?_
      refine V_iload_n (pc := 37) e_X7_load_37 rfl ?_
      refine V_iload_n (pc := 38) e_X7_load_38 rfl ?_
      refine V_cV3 (pc := 39) ca_7_65 e_X7_load_39 (by decide) (Nat.le_of_ble_eq_true rfl) (kb_lt hB (by decide)) ((shB hB (by decide)).trans rfl) (by decide) (c_X6_change hB (by omega) ?_)
      refine V_ret (pc := 42) (v := some (zI _)) ⟨e_X7_load_42, _, rfl, rfl⟩ ?_
      rw [(mT t (by omega) (by omega)).2.2]
      exact k2 (by omega) _ _ ⟨x2, y2, z2⟩ (MR_trK (by omega) (by omega) hM (by omega))
    · refine V_if_ne (pc := 13) e_X7_load_13 (by decide) (by decide) (fun h => absurd (by decide) h) (fun _ => ?_)
      refine V_iconst (pc := 16) e_X7_load_16 ?_
      refine V_ret (pc := 17) (v := some (zI _)) ⟨e_X7_load_17, _, rfl, rfl⟩ ?_
      exact k1 (by omega)
  · refine V_if_eq (pc := 5) e_X7_load_5 (by decide) (by decide) (fun _ => ?_) (fun h => absurd (by decide) h)
    refine V_iconst (pc := 16) e_X7_load_16 ?_
    refine V_ret (pc := 17) (v := some (zI _)) ⟨e_X7_load_17, _, rfl, rfl⟩ ?_
    exact k1 (by omega)
theorem c_X7_priority {σ : Sto} {c : Nat → Int → Int} {π : Int → Nat} {r : Int → Int} {Q : Option Value → Sto → Prop} (hZ : HZ σ) (hM : MR c π r) (hI : RI r) {ρ : Int → Int → Int} {sv : Int} (hH : HS σ sv ρ) {j w : Int} (r_j : -2147483648 ≤ j ∧ j < 2147483648) (r_w : -2147483648 ≤ w ∧ w < 2147483648) (k1 : ¬ (0 ≤ j ∧ 0 ≤ w ∧ w ≤ 9) → Q (some (zI (-1))) (kst 1 σ c π)) (k2 : 0 ≤ j ∧ 0 ≤ w ∧ w ≤ 9 → plc r j < 0 → Q (some (zI (-4))) (kst 1 σ c π)) (k3 : 0 ≤ j ∧ 0 ≤ w ∧ w ≤ 9 → 0 ≤ plc r j → ∀ (σ2 : Sto) (c' : Nat → Int → Int), KP σ σ2 c π sv ρ r → MR c' π (up1 r (85 + 10 * plc r j + 6) w) → Q (some (zI (r (85 + 10 * plc r j + 6)))) (kst 1 σ2 c' π)) : Con M_X7_priority 144 144 (kst 1 σ c π) [.ref 0, zI j, zI w] Q := by
  refine V_entry ok_X7_priority (Nat.le_refl _) (Nat.le_of_ble_eq_true rfl) (V_ls [(0, .ref 0), (1, zI j), (2, zI w)] ⟨rfl, rfl, rfl, trivial⟩ ?_)
  have hB : MB 1 := Or.inl rfl
  have hR := hI.rr
  obtain ⟨ni, hRB, hRT, hPA, hS, hJI, hWI⟩ := id hI
  obtain ⟨mT, mL, mS, mK, hQ⟩ := id hM
  have hT := mT
  unfold NI at ni
  refine V_iload_n (pc := 0) e_X7_priority_0 rfl ?_
  refine V_if_lt (pc := 1) e_X7_priority_1 (by decide) (by omega) (fun h1 => ?_) (fun h1 => ?_)
  · refine V_iconst (pc := 14) e_X7_priority_14 ?_
    refine V_ret (pc := 15) (v := some (zI _)) ⟨e_X7_priority_15, _, rfl, rfl⟩ ?_
    exact k1 (by omega)
  · refine V_iload_n (pc := 4) e_X7_priority_4 rfl ?_
    refine V_iconst (pc := 5) e_X7_priority_5 ?_
    refine V_bipush (pc := 6) (by decide) e_X7_priority_6 ?_
    refine V_cS3 (pc := 8) ca_7_44 e_X7_priority_8 (by decide) (Nat.le_of_ble_eq_true rfl) (c_X7_isWithin (by omega) (by omega) (by omega) (fun h_wi => ?_) (fun h_wi => ?_))
    · refine V_if_ne (pc := 11) e_X7_priority_11 (by decide) (by decide) (fun _ => ?_) (fun h => absurd h (by decide))
      refine V_aload_n (pc := 16) e_X7_priority_16 rfl (Or.inl ⟨_, rfl⟩) ?_
      refine Vp_getR (pc := 17) (q := 0) (j := 1) hZ.1 fx_7_12 e_X7_priority_17 rfl rfl ?_
      refine Vk_getR (pc := 20) (i := 0) (q := 1) hB rfl (by decide) rfl fx_7_110 e_X7_priority_20 rfl rfl (by decide) rfl ?_
      refine V_iload_n (pc := 23) e_X7_priority_23 rfl ?_
      refine V_cV1 (pc := 24) ca_7_124 e_X7_priority_24 (by decide) (Nat.le_of_ble_eq_true rfl) (kb_lt hB (by decide)) ((shB hB (by decide)).trans rfl) (by decide) (c_X5_find hB hQ hR (by omega) (fun h_fd => ?_) (fun h_fd => ?_))
      · refine V_astore_n (pc := 27) e_X7_priority_27 (Or.inl ⟨_, rfl⟩) (by decide) ?_
        refine V_aload_n (pc := 28) e_X7_priority_28 rfl (Or.inl ⟨_, rfl⟩) ?_
        refine V_ifnonnull (pc := 29) e_X7_priority_29 (by decide) trivial (fun _ => ?_) (fun h => by cases h)
        have pl := plc_lt h_fd
        have pj := hQ.2.2.2.1.1 (plc r j) h_fd (by omega)
        have jr := hQ.2.2.2.2 (plc r j) h_fd pl
        have ji := hJI _ h_fd pl
        unfold JR at jr
        refine V_aload_n (pc := 35) e_X7_priority_35 rfl (Or.inl ⟨_, rfl⟩) ?_
        refine Vp_getR (pc := 36) (q := 2) (j := 47) hZ.2.2.1 fx_7_22 e_X7_priority_36 rfl rfl ?_
        refine V_aload_n (pc := 39) e_X7_priority_39 rfl (Or.inl ⟨_, rfl⟩) ?_
        refine Vp_getR (pc := 40) (q := 0) (j := 1) hZ.1 fx_7_12 e_X7_priority_40 rfl rfl ?_
        refine V_cV1 (pc := 43) ca_7_58 e_X7_priority_43 (by decide) (Nat.le_of_ble_eq_true rfl) (by decide) rfl (by decide) (c_X0_keep (ρ := ρ) (s := sv) (hH.kst (by decide)) kst_MS hM hR (fun σ2 x2 y2 z2 => ?_))
        refine V_sq (σ' := kst 1 σ2 c π) (MS.eq (x2.ms (by decide) kst_MS)).symm ?_
        have hZ := x2.hz hZ
        refine V_aload_n (pc := 46) e_X7_priority_46 rfl (Or.inl ⟨_, rfl⟩) ?_
        refine Vk_get (pc := 47) (q := 11) hB rfl (by omega) (shM_j (by omega) (by omega)) fx_7_152 e_X7_priority_47 rfl rfl ?_
        refine V_istore (pc := 50) e_X7_priority_50 (by decide) ?_
        refine V_aload_n (pc := 52) e_X7_priority_52 rfl (Or.inl ⟨_, rfl⟩) ?_
        refine V_iload_n (pc := 53) e_X7_priority_53 rfl ?_
        refine Vk_put (pc := 54) (q := 11) hB rfl (by omega) (shM_j (by omega) (by omega)) fx_7_152 e_X7_priority_54 rfl rfl rfl rfl rfl ?_
        refine V_iload (pc := 57) e_X7_priority_57 rfl ?_
        refine V_ret (pc := 59) (v := some (zI _)) ⟨e_X7_priority_59, _, rfl, rfl⟩ ?_
        rw [show c (π (plc r j)) 11 = r (85 + 10 * plc r j + 6) by simp only [jf] at jr; omega]
        exact k3 (by omega) h_fd _ _ ⟨x2, y2, z2⟩ (MR_job (by omega) (by omega) hM (w := 6) (by decide) (by omega))
      · refine V_astore_n (pc := 27) e_X7_priority_27 (Or.inr (Or.inl rfl)) (by decide) ?_
        refine V_aload_n (pc := 28) e_X7_priority_28 rfl (Or.inr (Or.inl rfl)) ?_
        refine V_ifnonnull (pc := 29) e_X7_priority_29 (by decide) trivial (fun h => absurd rfl h) (fun _ => ?_)
        refine V_bipush (pc := 32) (by decide) e_X7_priority_32 ?_
        refine V_ret (pc := 34) (v := some (zI _)) ⟨e_X7_priority_34, _, rfl, rfl⟩ ?_
        exact k2 (by omega) h_fd
    · refine V_if_ne (pc := 11) e_X7_priority_11 (by decide) (by decide) (fun h => absurd (by decide) h) (fun _ => ?_)
      refine V_iconst (pc := 14) e_X7_priority_14 ?_
      refine V_ret (pc := 15) (v := some (zI _)) ⟨e_X7_priority_15, _, rfl, rfl⟩ ?_
      exact k1 (by omega)
