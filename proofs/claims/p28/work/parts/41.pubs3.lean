/-! run, hold, undo, paper -/
theorem c_X7_run {σ : Sto} {c : Nat → Int → Int} {π : Int → Nat} {r : Int → Int} {Q : Option Value → Sto → Prop} (hZ : HZ σ) (hM : MR c π r) (hI : RI r) {ρ : Int → Int → Int} {sv : Int} (hH : HS σ sv ρ) {m : Int} (hO : 1 ≤ m ∧ m ≤ 5000 → ¬ 1000000 < r 24 + m → crO 5000 r m) (r_m : -2147483648 ≤ m ∧ m < 2147483648) (k1 : ¬ (1 ≤ m ∧ m ≤ 5000) → Q (some (zI (-1))) (kst 1 σ c π)) (k2 : 1 ≤ m ∧ m ≤ 5000 → 1000000 < r 24 + m → Q (some (zI (-3))) (kst 1 σ c π)) (k3 : 1 ≤ m ∧ m ≤ 5000 → ¬ 1000000 < r 24 + m → ∀ (σ2 : Sto) (c' : Nat → Int → Int) (π' : Int → Nat), KP σ σ2 c π sv ρ r → MR c' π' (runF 5000 r m) → Q (some (zI (runF 5000 r m 17 - r 17))) (kst 1 σ2 c' π')) : Con M_X7_run 144 144 (kst 1 σ c π) [.ref 0, zI m] Q := by
  refine V_entry ok_X7_run (Nat.le_refl _) (Nat.le_of_ble_eq_true rfl) (V_ls [(0, .ref 0), (1, zI m)] ⟨rfl, rfl, trivial⟩ ?_)
  have hB : MB 1 := Or.inl rfl
  have hR := hI.rr
  obtain ⟨ni, hRB, hRT, hPA, hS, hJI, hWI⟩ := id hI
  obtain ⟨mT, mL, mS, mK, hQ⟩ := id hM
  have hT := mT
  unfold NI at ni
  have l8 : c 18 8 = r 24 := mL.1 8 (by decide) (by decide)
  have l1 : c 18 1 = r 17 := mL.1 1 (by decide) (by decide)
  have g17 := hRB 17 (by decide) (by decide)
  refine V_iload_n (pc := 0) e_X7_run_0 rfl ?_
  refine V_iconst (pc := 1) e_X7_run_1 ?_
  refine V_sipush (pc := 2) (by decide) e_X7_run_2 ?_
  refine V_cS3 (pc := 5) ca_7_44 e_X7_run_5 (by decide) (Nat.le_of_ble_eq_true rfl) (c_X7_isWithin (by omega) (by omega) (by omega) (fun h_wi => ?_) (fun h_wi => ?_))
  · refine V_if_ne (pc := 8) e_X7_run_8 (by decide) (by decide) (fun _ => ?_) (fun h => absurd h (by decide))
    refine V_aload_n (pc := 13) e_X7_run_13 rfl (Or.inl ⟨_, rfl⟩) ?_
    refine Vp_getR (pc := 14) (q := 0) (j := 1) hZ.1 fx_7_12 e_X7_run_14 rfl rfl ?_
    refine Vk_getR (pc := 17) (i := 0) (q := 2) hB rfl (by decide) rfl fx_7_142 e_X7_run_17 rfl rfl (by decide) rfl ?_
    refine Vk_getR (pc := 20) (q := 0) hB rfl (by decide) rfl fx_7_164 e_X7_run_20 rfl rfl (by decide) rfl ?_
    refine V_bipush (pc := 23) (by decide) e_X7_run_23 ?_
    refine Vk_ld (pc := 25) (n := 9) hB rfl (by decide) rfl (by decide) e_X7_run_25 (by decide) ?_
    refine V_iload_n (pc := 26) e_X7_run_26 rfl ?_
    refine V_iadd (pc := 27) e_X7_run_27 ?_
    refine V_ldc (pc := 28) (e := 1000000) (by decide) rfl e_X7_run_28 ?_
    refine V_icmp_le (pc := 30) e_X7_run_30 (by decide) (by omega) (by decide) (fun h30 => ?_) (fun h30 => ?_)
    · refine V_aload_n (pc := 36) e_X7_run_36 rfl (Or.inl ⟨_, rfl⟩) ?_
      refine Vp_getR (pc := 37) (q := 2) (j := 47) hZ.2.2.1 fx_7_22 e_X7_run_37 rfl rfl ?_
      refine V_aload_n (pc := 40) e_X7_run_40 rfl (Or.inl ⟨_, rfl⟩) ?_
      refine Vp_getR (pc := 41) (q := 0) (j := 1) hZ.1 fx_7_12 e_X7_run_41 rfl rfl ?_
      refine V_cV1 (pc := 44) ca_7_58 e_X7_run_44 (by decide) (Nat.le_of_ble_eq_true rfl) (by decide) rfl (by decide) (c_X0_keep (ρ := ρ) (s := sv) (hH.kst (by decide)) kst_MS hM hR (fun σ2 x2 y2 z2 => ?_))
      refine V_sq (σ' := kst 1 σ2 c π) (MS.eq (x2.ms (by decide) kst_MS)).symm ?_
      have hZ := x2.hz hZ
      refine V_aload_n (pc := 47) e_X7_run_47 rfl (Or.inl ⟨_, rfl⟩) ?_
      refine Vp_getR (pc := 48) (q := 0) (j := 1) hZ.1 fx_7_12 e_X7_run_48 rfl rfl ?_
      refine Vk_getR (pc := 51) (i := 0) (q := 2) hB rfl (by decide) rfl fx_7_142 e_X7_run_51 rfl rfl (by decide) rfl ?_
      refine Vk_getR (pc := 54) (q := 0) hB rfl (by decide) rfl fx_7_164 e_X7_run_54 rfl rfl (by decide) rfl ?_
      refine V_iconst (pc := 57) e_X7_run_57 ?_
      refine Vk_ld (pc := 58) (n := 9) hB rfl (by decide) rfl (by decide) e_X7_run_58 (by decide) ?_
      refine V_istore_n (pc := 59) e_X7_run_59 (by decide) ?_
      refine V_aload_n (pc := 60) e_X7_run_60 rfl (Or.inl ⟨_, rfl⟩) ?_
      refine Vp_getR (pc := 61) (q := 0) (j := 1) hZ.1 fx_7_12 e_X7_run_61 rfl rfl ?_
      refine V_iload_n (pc := 64) e_X7_run_64 rfl ?_
      refine V_cV1 (pc := 65) ca_7_168 e_X7_run_65 (by decide) (Nat.le_of_ble_eq_true rfl) (kb_lt (i := 0) hB (by decide)) ((shB (i := 0) hB (by decide)).trans rfl) (by decide) (c_X4_letGoBy (r := r) hB hM (hO (by omega) (by omega)) (fun c3 π3 y3 => ?_))
      refine V_aload_n (pc := 68) e_X7_run_68 rfl (Or.inl ⟨_, rfl⟩) ?_
      refine Vp_getR (pc := 69) (q := 0) (j := 1) hZ.1 fx_7_12 e_X7_run_69 rfl rfl ?_
      refine Vk_getR (pc := 72) (i := 0) (q := 2) hB rfl (by decide) rfl fx_7_142 e_X7_run_72 rfl rfl (by decide) rfl ?_
      refine Vk_getR (pc := 75) (q := 0) hB rfl (by decide) rfl fx_7_164 e_X7_run_75 rfl rfl (by decide) rfl ?_
      refine V_iconst (pc := 78) e_X7_run_78 ?_
      refine Vk_ld (pc := 79) (n := 9) hB rfl (by decide) rfl (by decide) e_X7_run_79 (by decide) ?_
      refine V_iload_n (pc := 80) e_X7_run_80 rfl ?_
      refine V_isub (pc := 81) e_X7_run_81 ?_
      refine V_ret (pc := 82) (v := some (zI _)) ⟨e_X7_run_82, _, rfl, rfl⟩ ?_
      have l3 : c3 18 1 = runF 5000 r m 17 := y3.2.1.1 1 (by decide) (by decide)
      rw [l3, l1]
      exact k3 (by omega) (by omega) _ _ _ ⟨x2, y2, z2⟩ y3
    · refine V_bipush (pc := 33) (by decide) e_X7_run_33 ?_
      refine V_ret (pc := 35) (v := some (zI _)) ⟨e_X7_run_35, _, rfl, rfl⟩ ?_
      exact k2 (by omega) (by omega)
  · refine V_if_ne (pc := 8) e_X7_run_8 (by decide) (by decide) (fun h => absurd (by decide) h) (fun _ => ?_)
    refine V_iconst (pc := 11) e_X7_run_11 ?_
    refine V_ret (pc := 12) (v := some (zI _)) ⟨e_X7_run_12, _, rfl, rfl⟩ ?_
    exact k1 (by omega)
theorem JB_h {r : Int → Int} {p x : Int} (hx : x = 0 ∨ x = 1) (hJ : JB r p) : JB (up1 r (85 + 10 * p + 7) x) p := by
  unfold JB jf at hJ ⊢
  simp (disch := omega) only [up1_ne, up1_at]
  omega
theorem c_X7_hold {σ : Sto} {c : Nat → Int → Int} {π : Int → Nat} {r : Int → Int} {Q : Option Value → Sto → Prop} (hZ : HZ σ) (hM : MR c π r) (hI : RI r) {ρ : Int → Int → Int} {sv : Int} (hH : HS σ sv ρ) {j w : Int} (r_j : -2147483648 ≤ j ∧ j < 2147483648) (r_w : -2147483648 ≤ w ∧ w < 2147483648) (k1 : ¬ (0 ≤ j ∧ 0 ≤ w ∧ w ≤ 1) → Q (some (zI (-1))) (kst 1 σ c π)) (k2 : 0 ≤ j ∧ 0 ≤ w ∧ w ≤ 1 → plc r j < 0 → Q (some (zI (-4))) (kst 1 σ c π)) (k3 : 0 ≤ j ∧ 0 ≤ w ∧ w ≤ 1 → 0 ≤ plc r j → w = 1 → ∀ (σ2 : Sto) (c' : Nat → Int → Int), KP σ σ2 c π sv ρ r → MR c' π (givF (up1 r (85 + 10 * plc r j + 7) 1) j) → Q (some (zI (r (85 + 10 * plc r j + 7)))) (kst 1 σ2 c' π)) (k4 : 0 ≤ j ∧ 0 ≤ w ∧ w ≤ 1 → 0 ≤ plc r j → w = 0 → ∀ (σ2 : Sto) (c' : Nat → Int → Int), KP σ σ2 c π sv ρ r → MR c' π (up1 r (85 + 10 * plc r j + 7) 0) → Q (some (zI (r (85 + 10 * plc r j + 7)))) (kst 1 σ2 c' π)) : Con M_X7_hold 144 144 (kst 1 σ c π) [.ref 0, zI j, zI w] Q := by
  refine V_entry ok_X7_hold (Nat.le_refl _) (Nat.le_of_ble_eq_true rfl) (V_ls [(0, .ref 0), (1, zI j), (2, zI w)] ⟨rfl, rfl, rfl, trivial⟩ ?_)
  have hB : MB 1 := Or.inl rfl
  have hR := hI.rr
  obtain ⟨ni, hRB, hRT, hPA, hS, hJI, hWI⟩ := id hI
  obtain ⟨mT, mL, mS, mK, hQ⟩ := id hM
  have hT := mT
  unfold NI at ni
  refine V_iload_n (pc := 0) e_X7_hold_0 rfl ?_
  refine V_if_lt (pc := 1) e_X7_hold_1 (by decide) (by omega) (fun h1 => ?_) (fun h1 => ?_)
  · refine V_iconst (pc := 13) e_X7_hold_13 ?_
    refine V_ret (pc := 14) (v := some (zI _)) ⟨e_X7_hold_14, _, rfl, rfl⟩ ?_
    exact k1 (by omega)
  · refine V_iload_n (pc := 4) e_X7_hold_4 rfl ?_
    refine V_iconst (pc := 5) e_X7_hold_5 ?_
    refine V_iconst (pc := 6) e_X7_hold_6 ?_
    refine V_cS3 (pc := 7) ca_7_44 e_X7_hold_7 (by decide) (Nat.le_of_ble_eq_true rfl) (c_X7_isWithin (by omega) (by omega) (by omega) (fun h_wi => ?_) (fun h_wi => ?_))
    · refine V_if_ne (pc := 10) e_X7_hold_10 (by decide) (by decide) (fun _ => ?_) (fun h => absurd h (by decide))
      refine V_aload_n (pc := 15) e_X7_hold_15 rfl (Or.inl ⟨_, rfl⟩) ?_
      refine Vp_getR (pc := 16) (q := 0) (j := 1) hZ.1 fx_7_12 e_X7_hold_16 rfl rfl ?_
      refine Vk_getR (pc := 19) (i := 0) (q := 1) hB rfl (by decide) rfl fx_7_110 e_X7_hold_19 rfl rfl (by decide) rfl ?_
      refine V_iload_n (pc := 22) e_X7_hold_22 rfl ?_
      refine V_cV1 (pc := 23) ca_7_124 e_X7_hold_23 (by decide) (Nat.le_of_ble_eq_true rfl) (kb_lt hB (by decide)) ((shB hB (by decide)).trans rfl) (by decide) (c_X5_find hB hQ hR (by omega) (fun h_fd => ?_) (fun h_fd => ?_))
      · refine V_astore_n (pc := 26) e_X7_hold_26 (Or.inl ⟨_, rfl⟩) (by decide) ?_
        refine V_aload_n (pc := 27) e_X7_hold_27 rfl (Or.inl ⟨_, rfl⟩) ?_
        refine V_ifnonnull (pc := 28) e_X7_hold_28 (by decide) trivial (fun _ => ?_) (fun h => by cases h)
        have pl := plc_lt h_fd
        have pj := hQ.2.2.2.1.1 (plc r j) h_fd (by omega)
        have jr := hQ.2.2.2.2 (plc r j) h_fd pl
        have ji := hJI _ h_fd pl
        unfold JR at jr
        have jb := ji.1
        have ps := plc_sp r j
        have wi := hWI
        unfold WI at wi
        have g5 := hRB 5 (by decide) (by decide) (by decide)
        have g6 := hRB 6 (by decide) (by decide) (by decide)
        have g7 := hRB 7 (by decide) (by decide) (by decide)
        refine V_aload_n (pc := 34) e_X7_hold_34 rfl (Or.inl ⟨_, rfl⟩) ?_
        refine Vp_getR (pc := 35) (q := 2) (j := 47) hZ.2.2.1 fx_7_22 e_X7_hold_35 rfl rfl ?_
        refine V_aload_n (pc := 38) e_X7_hold_38 rfl (Or.inl ⟨_, rfl⟩) ?_
        refine Vp_getR (pc := 39) (q := 0) (j := 1) hZ.1 fx_7_12 e_X7_hold_39 rfl rfl ?_
        refine V_cV1 (pc := 42) ca_7_58 e_X7_hold_42 (by decide) (Nat.le_of_ble_eq_true rfl) (by decide) rfl (by decide) (c_X0_keep (ρ := ρ) (s := sv) (hH.kst (by decide)) kst_MS hM hR (fun σ2 x2 y2 z2 => ?_))
        refine V_sq (σ' := kst 1 σ2 c π) (MS.eq (x2.ms (by decide) kst_MS)).symm ?_
        have hZ := x2.hz hZ
        refine V_aload_n (pc := 45) e_X7_hold_45 rfl (Or.inl ⟨_, rfl⟩) ?_
        refine Vk_get (pc := 46) (q := 12) hB rfl (by omega) (shM_j (by omega) (by omega)) fx_7_128 e_X7_hold_46 rfl rfl ?_
        have z12 : c (π (plc r j)) 12 = 0 ∨ c (π (plc r j)) 12 = 1 := by
          unfold JB at jb
          omega
        refine V_if_eq (pc := 49) e_X7_hold_49 (by decide) (by omega) (fun h49 => ?_) (fun h49 => ?_)
        · refine V_iconst (pc := 56) e_X7_hold_56 ?_
          refine V_istore (pc := 57) e_X7_hold_57 (by decide) ?_
          refine V_aload_n (pc := 59) e_X7_hold_59 rfl (Or.inl ⟨_, rfl⟩) ?_
          refine V_iload_n (pc := 60) e_X7_hold_60 rfl ?_
          refine V_iconst (pc := 61) e_X7_hold_61 ?_
          refine V_icmp_ne (pc := 62) e_X7_hold_62 (by decide) (by omega) (by decide) (fun h62 => ?_) (fun h62 => ?_)
          · refine V_iconst (pc := 69) e_X7_hold_69 ?_
            refine Vk_put (pc := 70) (q := 12) hB rfl (by omega) (shM_j (by omega) (by omega)) fx_7_128 e_X7_hold_70 rfl rfl (zi_nZ (by omega)).1 (zi_nZ (by omega)).2 rfl ?_
            refine V_aload_n (pc := 73) e_X7_hold_73 rfl (Or.inl ⟨_, rfl⟩) ?_
            refine Vk_get (pc := 74) (q := 12) hB rfl (by omega) (shM_j (by omega) (by omega)) fx_7_128 e_X7_hold_74 rfl rfl ?_
            rw [up2_e]
            refine V_if_eq (pc := 77) e_X7_hold_77 (by decide) (by omega) (fun h77 => ?_) (fun h77 => ?_)
            · refine V_iload (pc := 88) e_X7_hold_88 rfl ?_
              refine V_ret (pc := 90) (v := some (zI _)) ⟨e_X7_hold_90, _, rfl, rfl⟩ ?_
              first
                | (exfalso; omega)
                | (have z := k4 (by omega) h_fd (by omega) σ2 _ ⟨x2, y2, z2⟩ (MR_job (by omega) (by omega) hM (w := 7) (x := 0) (by decide) ⟨h_fd, pl⟩)
                   rw [show r (85 + 10 * plc r j + 7) = 0 by simp only [jf] at jr; omega] at z
                   exact z)
            · exfalso
              omega
          · refine V_iconst (pc := 65) e_X7_hold_65 ?_
            refine V_goto (pc := 66) e_X7_hold_66 (by decide) ?_
            refine Vk_put (pc := 70) (q := 12) hB rfl (by omega) (shM_j (by omega) (by omega)) fx_7_128 e_X7_hold_70 rfl rfl (zi_nZ (by omega)).1 (zi_nZ (by omega)).2 rfl ?_
            refine V_aload_n (pc := 73) e_X7_hold_73 rfl (Or.inl ⟨_, rfl⟩) ?_
            refine Vk_get (pc := 74) (q := 12) hB rfl (by omega) (shM_j (by omega) (by omega)) fx_7_128 e_X7_hold_74 rfl rfl ?_
            rw [up2_e]
            refine V_if_eq (pc := 77) e_X7_hold_77 (by decide) (by omega) (fun h77 => ?_) (fun h77 => ?_)
            · refine V_iload (pc := 88) e_X7_hold_88 rfl ?_
              refine V_ret (pc := 90) (v := some (zI _)) ⟨e_X7_hold_90, _, rfl, rfl⟩ ?_
              first
                | (exfalso; omega)
                | (have z := k4 (by omega) h_fd (by omega) σ2 _ ⟨x2, y2, z2⟩ (MR_job (by omega) (by omega) hM (w := 7) (x := 0) (by decide) ⟨h_fd, pl⟩)
                   rw [show r (85 + 10 * plc r j + 7) = 0 by simp only [jf] at jr; omega] at z
                   exact z)
            · refine V_aload_n (pc := 80) e_X7_hold_80 rfl (Or.inl ⟨_, rfl⟩) ?_
              refine Vp_getR (pc := 81) (q := 0) (j := 1) hZ.1 fx_7_12 e_X7_hold_81 rfl rfl ?_
              refine V_aload_n (pc := 84) e_X7_hold_84 rfl (Or.inl ⟨_, rfl⟩) ?_
              refine V_cV1 (pc := 85) ca_7_132 e_X7_hold_85 (by decide) (Nat.le_of_ble_eq_true rfl) (kb_lt (i := 0) hB (by decide)) ((shB (i := 0) hB (by decide)).trans rfl) (by decide) (c_X4_interrupt (r := up1 r (85 + 10 * plc r j + 7) 1) hB (MR_job (by omega) (by omega) hM (w := 7) (x := 1) (by decide) ⟨h_fd, pl⟩) (by rw [up1_ne (by omega)]; omega) (by rw [up1_ne (by omega)]; omega) (p := plc r j) (by rw [up1_ne (by omega)]; omega) (JB_h (Or.inr rfl) jb) (by rw [up1_ne (by omega)]; omega) (by rw [up1_ne (by omega)]; omega) (by rw [up1_ne (by omega)]; omega) (by rw [up1_ne (by omega), up1_ne (by omega)]; omega) (fun c3 y3 => ?_))
              have ej : jf (up1 r (85 + 10 * plc r j + 7) 1) (plc r j) 0 = j := by
                unfold jf
                rw [up1_ne (by omega)]
                unfold jf at ps
                omega
              rw [ej] at y3
              refine V_iload (pc := 88) e_X7_hold_88 rfl ?_
              refine V_ret (pc := 90) (v := some (zI _)) ⟨e_X7_hold_90, _, rfl, rfl⟩ ?_
              first
                | (exfalso; omega)
                | (have z := k3 (by omega) h_fd (by omega) σ2 c3 ⟨x2, y2, z2⟩ y3
                   rw [show r (85 + 10 * plc r j + 7) = 0 by simp only [jf] at jr; omega] at z
                   exact z)
        · refine V_iconst (pc := 52) e_X7_hold_52 ?_
          refine V_goto (pc := 53) e_X7_hold_53 (by decide) ?_
          refine V_istore (pc := 57) e_X7_hold_57 (by decide) ?_
          refine V_aload_n (pc := 59) e_X7_hold_59 rfl (Or.inl ⟨_, rfl⟩) ?_
          refine V_iload_n (pc := 60) e_X7_hold_60 rfl ?_
          refine V_iconst (pc := 61) e_X7_hold_61 ?_
          refine V_icmp_ne (pc := 62) e_X7_hold_62 (by decide) (by omega) (by decide) (fun h62 => ?_) (fun h62 => ?_)
          · refine V_iconst (pc := 69) e_X7_hold_69 ?_
            refine Vk_put (pc := 70) (q := 12) hB rfl (by omega) (shM_j (by omega) (by omega)) fx_7_128 e_X7_hold_70 rfl rfl (zi_nZ (by omega)).1 (zi_nZ (by omega)).2 rfl ?_
            refine V_aload_n (pc := 73) e_X7_hold_73 rfl (Or.inl ⟨_, rfl⟩) ?_
            refine Vk_get (pc := 74) (q := 12) hB rfl (by omega) (shM_j (by omega) (by omega)) fx_7_128 e_X7_hold_74 rfl rfl ?_
            rw [up2_e]
            refine V_if_eq (pc := 77) e_X7_hold_77 (by decide) (by omega) (fun h77 => ?_) (fun h77 => ?_)
            · refine V_iload (pc := 88) e_X7_hold_88 rfl ?_
              refine V_ret (pc := 90) (v := some (zI _)) ⟨e_X7_hold_90, _, rfl, rfl⟩ ?_
              first
                | (exfalso; omega)
                | (have z := k4 (by omega) h_fd (by omega) σ2 _ ⟨x2, y2, z2⟩ (MR_job (by omega) (by omega) hM (w := 7) (x := 0) (by decide) ⟨h_fd, pl⟩)
                   rw [show r (85 + 10 * plc r j + 7) = 1 by simp only [jf] at jr; omega] at z
                   exact z)
            · exfalso
              omega
          · refine V_iconst (pc := 65) e_X7_hold_65 ?_
            refine V_goto (pc := 66) e_X7_hold_66 (by decide) ?_
            refine Vk_put (pc := 70) (q := 12) hB rfl (by omega) (shM_j (by omega) (by omega)) fx_7_128 e_X7_hold_70 rfl rfl (zi_nZ (by omega)).1 (zi_nZ (by omega)).2 rfl ?_
            refine V_aload_n (pc := 73) e_X7_hold_73 rfl (Or.inl ⟨_, rfl⟩) ?_
            refine Vk_get (pc := 74) (q := 12) hB rfl (by omega) (shM_j (by omega) (by omega)) fx_7_128 e_X7_hold_74 rfl rfl ?_
            rw [up2_e]
            refine V_if_eq (pc := 77) e_X7_hold_77 (by decide) (by omega) (fun h77 => ?_) (fun h77 => ?_)
            · refine V_iload (pc := 88) e_X7_hold_88 rfl ?_
              refine V_ret (pc := 90) (v := some (zI _)) ⟨e_X7_hold_90, _, rfl, rfl⟩ ?_
              first
                | (exfalso; omega)
                | (have z := k4 (by omega) h_fd (by omega) σ2 _ ⟨x2, y2, z2⟩ (MR_job (by omega) (by omega) hM (w := 7) (x := 0) (by decide) ⟨h_fd, pl⟩)
                   rw [show r (85 + 10 * plc r j + 7) = 1 by simp only [jf] at jr; omega] at z
                   exact z)
            · refine V_aload_n (pc := 80) e_X7_hold_80 rfl (Or.inl ⟨_, rfl⟩) ?_
              refine Vp_getR (pc := 81) (q := 0) (j := 1) hZ.1 fx_7_12 e_X7_hold_81 rfl rfl ?_
              refine V_aload_n (pc := 84) e_X7_hold_84 rfl (Or.inl ⟨_, rfl⟩) ?_
              refine V_cV1 (pc := 85) ca_7_132 e_X7_hold_85 (by decide) (Nat.le_of_ble_eq_true rfl) (kb_lt (i := 0) hB (by decide)) ((shB (i := 0) hB (by decide)).trans rfl) (by decide) (c_X4_interrupt (r := up1 r (85 + 10 * plc r j + 7) 1) hB (MR_job (by omega) (by omega) hM (w := 7) (x := 1) (by decide) ⟨h_fd, pl⟩) (by rw [up1_ne (by omega)]; omega) (by rw [up1_ne (by omega)]; omega) (p := plc r j) (by rw [up1_ne (by omega)]; omega) (JB_h (Or.inr rfl) jb) (by rw [up1_ne (by omega)]; omega) (by rw [up1_ne (by omega)]; omega) (by rw [up1_ne (by omega)]; omega) (by rw [up1_ne (by omega), up1_ne (by omega)]; omega) (fun c3 y3 => ?_))
              have ej : jf (up1 r (85 + 10 * plc r j + 7) 1) (plc r j) 0 = j := by
                unfold jf
                rw [up1_ne (by omega)]
                unfold jf at ps
                omega
              rw [ej] at y3
              refine V_iload (pc := 88) e_X7_hold_88 rfl ?_
              refine V_ret (pc := 90) (v := some (zI _)) ⟨e_X7_hold_90, _, rfl, rfl⟩ ?_
              first
                | (exfalso; omega)
                | (have z := k3 (by omega) h_fd (by omega) σ2 c3 ⟨x2, y2, z2⟩ y3
                   rw [show r (85 + 10 * plc r j + 7) = 1 by simp only [jf] at jr; omega] at z
                   exact z)
      · refine V_astore_n (pc := 26) e_X7_hold_26 (Or.inr (Or.inl rfl)) (by decide) ?_
        refine V_aload_n (pc := 27) e_X7_hold_27 rfl (Or.inr (Or.inl rfl)) ?_
        refine V_ifnonnull (pc := 28) e_X7_hold_28 (by decide) trivial (fun h => absurd rfl h) (fun _ => ?_)
        refine V_bipush (pc := 31) (by decide) e_X7_hold_31 ?_
        refine V_ret (pc := 33) (v := some (zI _)) ⟨e_X7_hold_33, _, rfl, rfl⟩ ?_
        exact k2 (by omega) h_fd
    · refine V_if_ne (pc := 10) e_X7_hold_10 (by decide) (by decide) (fun h => absurd (by decide) h) (fun _ => ?_)
      refine V_iconst (pc := 13) e_X7_hold_13 ?_
      refine V_ret (pc := 14) (v := some (zI _)) ⟨e_X7_hold_14, _, rfl, rfl⟩ ?_
      exact k1 (by omega)
