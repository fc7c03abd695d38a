/-! set, cancel, paper -/
theorem sv_set {w : Int} (h : 0 ≤ w ∧ w < 6) (v : Int) : ((stV 1 w.toNat).toInt ≤ v ∧ v ≤ (stV 2 w.toNat).toInt ↔ ((w = 0 ∧ 1 ≤ v ∧ v ≤ 20) ∨ ((w = 1 ∨ w = 2) ∧ 0 ≤ v ∧ v ≤ 20) ∨ (w = 3 ∧ 2 ≤ v ∧ v ≤ 100) ∨ (w = 4 ∧ 0 ≤ v ∧ v ≤ 500) ∨ (w = 5 ∧ 1 ≤ v ∧ v ≤ 1000))) ∧ (-2147483648 ≤ (stV 1 w.toNat).toInt ∧ (stV 1 w.toNat).toInt < 2147483648) ∧ (-2147483648 ≤ (stV 2 w.toNat).toInt ∧ (stV 2 w.toNat).toInt < 2147483648) := by
  have key : ∀ n : Fin 6, (stV 1 n).toInt = (if (n : Nat) = 0 then 1 else if (n : Nat) = 3 then 2 else if (n : Nat) = 5 then 1 else 0) ∧ (stV 2 n).toInt = (if (n : Nat) ≤ 2 then 20 else if (n : Nat) = 3 then 100 else if (n : Nat) = 4 then 500 else 1000) := by decide +kernel
  obtain ⟨m, rfl⟩ := Int.eq_ofNat_of_zero_le h.1
  have e := key ⟨m, by omega⟩
  rw [show ((m : Int)).toNat = m from rfl]
  simp only at e
  have hm : m = 0 ∨ m = 1 ∨ m = 2 ∨ m = 3 ∨ m = 4 ∨ m = 5 := by omega
  rcases hm with h | h | h | h | h | h <;> subst h <;> simp at e <;> rw [e.1, e.2] <;> omega
theorem c_X7_set {σ : Sto} {c : Nat → Int → Int} {π : Int → Nat} {r : Int → Int} {Q : Option Value → Sto → Prop} (hZ : HZ σ) (hM : MR c π r) (hI : RI r) {ρ : Int → Int → Int} {sv : Int} (hH : HS σ sv ρ) {w v : Int} (r_w : -2147483648 ≤ w ∧ w < 2147483648) (r_v : -2147483648 ≤ v ∧ v < 2147483648) (k1 : ¬ ((w = 0 ∧ 1 ≤ v ∧ v ≤ 20) ∨ ((w = 1 ∨ w = 2) ∧ 0 ≤ v ∧ v ≤ 20) ∨ (w = 3 ∧ 2 ≤ v ∧ v ≤ 100) ∨ (w = 4 ∧ 0 ≤ v ∧ v ≤ 500) ∨ (w = 5 ∧ 1 ≤ v ∧ v ≤ 1000)) → Q (some (zI (-1))) (kst 1 σ c π)) (k2 : ((w = 0 ∧ 1 ≤ v ∧ v ≤ 20) ∨ ((w = 1 ∨ w = 2) ∧ 0 ≤ v ∧ v ≤ 20) ∨ (w = 3 ∧ 2 ≤ v ∧ v ≤ 100) ∨ (w = 4 ∧ 0 ≤ v ∧ v ≤ 500) ∨ (w = 5 ∧ 1 ≤ v ∧ v ≤ 1000)) → ∀ (σ2 : Sto) (c' : Nat → Int → Int), KP σ σ2 c π sv ρ r → MR c' π (up1 r (10 + w) v) → Q (some (zI (r (10 + w)))) (kst 1 σ2 c' π)) : Con M_X7_set 144 144 (kst 1 σ c π) [.ref 0, zI w, zI v] Q := by
  refine V_entry ok_X7_set (Nat.le_refl _) (Nat.le_of_ble_eq_true rfl) (V_ls [(0, .ref 0), (1, zI w), (2, zI v)] ⟨rfl, rfl, rfl, trivial⟩ ?_)
  have hB : MB 1 := Or.inl rfl
  have hR := hI.rr
  obtain ⟨ni, hRB, hRT, hPA, hS, hJI, hWI⟩ := id hI
  obtain ⟨mT, mL, mS, mK, hQ⟩ := id hM
  have hT := mT
  unfold NI at ni
  refine V_iload_n (pc := 0) e_X7_set_0 rfl ?_
  refine V_bipush (pc := 1) (by decide) e_X7_set_1 ?_
  refine V_cS2 (pc := 3) ca_7_40 e_X7_set_3 (by decide) (Nat.le_of_ble_eq_true rfl) (c_X7_isBelow (by omega) (by omega) (fun h_bl => ?_) (fun h_bl => ?_))
  · refine V_if_eq (pc := 6) e_X7_set_6 (by decide) (by decide) (fun h => absurd h (by decide)) (fun _ => ?_)
    have sv1 := sv_set (w := w) (by omega) v
    refine V_iload_n (pc := 9) e_X7_set_9 rfl ?_
    refine V_gets (pc := 10) (q := 1) e_X7_set_10 rfl (by decide) ?_
    refine V_iload_n (pc := 13) e_X7_set_13 rfl ?_
    refine V_sti (pc := 14) e_X7_set_14 (by decide) (by omega) (by omega) ?_
    refine V_gets (pc := 15) (q := 2) e_X7_set_15 rfl (by decide) ?_
    refine V_iload_n (pc := 18) e_X7_set_18 rfl ?_
    refine V_sti (pc := 19) e_X7_set_19 (by decide) (by omega) (by omega) ?_
    refine V_cS3 (pc := 20) ca_7_44 e_X7_set_20 (by decide) (Nat.le_of_ble_eq_true rfl) (c_X7_isWithin (by omega) (by omega) (by omega) (fun h_wi => ?_) (fun h_wi => ?_))
    · refine V_if_ne (pc := 23) e_X7_set_23 (by decide) (by decide) (fun _ => ?_) (fun h => absurd h (by decide))
      refine V_aload_n (pc := 28) e_X7_set_28 rfl (Or.inl ⟨_, rfl⟩) ?_
      refine Vp_getR (pc := 29) (q := 2) (j := 47) hZ.2.2.1 fx_7_22 e_X7_set_29 rfl rfl ?_
      refine V_aload_n (pc := 32) e_X7_set_32 rfl (Or.inl ⟨_, rfl⟩) ?_
      refine Vp_getR (pc := 33) (q := 0) (j := 1) hZ.1 fx_7_12 e_X7_set_33 rfl rfl ?_
      refine V_cV1 (pc := 36) ca_7_58 e_X7_set_36 (by decide) (Nat.le_of_ble_eq_true rfl) (by decide) rfl (by decide) (c_X0_keep (ρ := ρ) (s := sv) (hH.kst (by decide)) kst_MS hM hR (fun σ2 x2 y2 z2 => ?_))
      refine V_sq (σ' := kst 1 σ2 c π) (MS.eq (x2.ms (by decide) kst_MS)).symm ?_
      have hZ := x2.hz hZ
      have e := mS w (by omega) (by omega)
      refine V_aload_n (pc := 39) e_X7_set_39 rfl (Or.inl ⟨_, rfl⟩) ?_
      refine Vp_getR (pc := 40) (q := 0) (j := 1) hZ.1 fx_7_12 e_X7_set_40 rfl rfl ?_
      refine Vk_getR (pc := 43) (i := 0) (q := 3) hB rfl (by decide) rfl fx_7_92 e_X7_set_43 rfl rfl (by decide) rfl ?_
      refine V_iload_n (pc := 46) e_X7_set_46 rfl ?_
      refine Vk_ld (pc := 47) (n := 6) hB rfl (by decide) rfl (by decide) e_X7_set_47 (by omega) ?_
      refine V_istore_n (pc := 48) e_X7_set_48 (by decide) ?_
      refine V_aload_n (pc := 49) e_X7_set_49 rfl (Or.inl ⟨_, rfl⟩) ?_
      refine Vp_getR (pc := 50) (q := 0) (j := 1) hZ.1 fx_7_12 e_X7_set_50 rfl rfl ?_
      refine Vk_getR (pc := 53) (i := 0) (q := 3) hB rfl (by decide) rfl fx_7_92 e_X7_set_53 rfl rfl (by decide) rfl ?_
      refine V_iload_n (pc := 56) e_X7_set_56 rfl ?_
      refine V_iload_n (pc := 57) e_X7_set_57 rfl ?_
      refine Vk_st (pc := 58) (n := 6) hB rfl (by decide) rfl (by decide) e_X7_set_58 (by omega) ?_
      refine V_iload_n (pc := 59) e_X7_set_59 rfl ?_
      refine V_ret (pc := 60) (v := some (zI _)) ⟨e_X7_set_60, _, rfl, rfl⟩ ?_
      rw [e]
      exact k2 (sv1.1.mp h_wi) _ _ ⟨x2, y2, z2⟩ (MR_set (by omega) (by omega) hM (by omega))
    · refine V_if_ne (pc := 23) e_X7_set_23 (by decide) (by decide) (fun h => absurd (by decide) h) (fun _ => ?_)
      refine V_iconst (pc := 26) e_X7_set_26 ?_
      refine V_ret (pc := 27) (v := some (zI _)) ⟨e_X7_set_27, _, rfl, rfl⟩ ?_
      exact k1 (fun z => h_wi (sv1.1.mpr z))
  · refine V_if_eq (pc := 6) e_X7_set_6 (by decide) (by decide) (fun _ => ?_) (fun h => absurd (by decide) h)
    refine V_iconst (pc := 26) e_X7_set_26 ?_
    refine V_ret (pc := 27) (v := some (zI _)) ⟨e_X7_set_27, _, rfl, rfl⟩ ?_
    exact k1 (by omega)
theorem c_X7_cancel {σ : Sto} {c : Nat → Int → Int} {π : Int → Nat} {r : Int → Int} {Q : Option Value → Sto → Prop} (hZ : HZ σ) (hM : MR c π r) (hI : RI r) {ρ : Int → Int → Int} {sv : Int} (hH : HS σ sv ρ) {j : Int} (r_j : -2147483648 ≤ j ∧ j < 2147483648) (k1 : j < 0 → Q (some (zI (-1))) (kst 1 σ c π)) (k2 : 0 ≤ j → plc r j < 0 → Q (some (zI (-4))) (kst 1 σ c π)) (k3 : 0 ≤ j → 0 ≤ plc r j → ∀ (σ2 : Sto) (c' : Nat → Int → Int) (π' : Int → Nat), KP σ σ2 c π sv ρ r → MR c' π' (inc (goesF (givF r j) (plc r j)) 22) → Q (some (zI (jf r (plc r j) 8))) (kst 1 σ2 c' π')) : Con M_X7_cancel 144 144 (kst 1 σ c π) [.ref 0, zI j] Q := by
  refine V_entry ok_X7_cancel (Nat.le_refl _) (Nat.le_of_ble_eq_true rfl) (V_ls [(0, .ref 0), (1, zI j)] ⟨rfl, rfl, trivial⟩ ?_)
  have hB : MB 1 := Or.inl rfl
  have hR := hI.rr
  obtain ⟨ni, hRB, hRT, hPA, hS, hJI, hWI⟩ := id hI
  obtain ⟨mT, mL, mS, mK, hQ⟩ := id hM
  have hT := mT
  unfold NI at ni
  refine V_iload_n (pc := 0) e_X7_cancel_0 rfl ?_
  refine V_if_ge (pc := 1) e_X7_cancel_1 (by decide) (by omega) (fun h1 => ?_) (fun h1 => ?_)
  · refine V_aload_n (pc := 6) e_X7_cancel_6 rfl (Or.inl ⟨_, rfl⟩) ?_
    refine Vp_getR (pc := 7) (q := 0) (j := 1) hZ.1 fx_7_12 e_X7_cancel_7 rfl rfl ?_
    refine Vk_getR (pc := 10) (i := 0) (q := 1) hB rfl (by decide) rfl fx_7_110 e_X7_cancel_10 rfl rfl (by decide) rfl ?_
    refine V_iload_n (pc := 13) e_X7_cancel_13 rfl ?_
    refine V_cV1 (pc := 14) ca_7_124 e_X7_cancel_14 (by decide) (Nat.le_of_ble_eq_true rfl) (kb_lt hB (by decide)) ((shB hB (by decide)).trans rfl) (by decide) (c_X5_find hB hQ hR (by omega) (fun h_fd => ?_) (fun h_fd => ?_))
    · refine V_astore_n (pc := 17) e_X7_cancel_17 (Or.inl ⟨_, rfl⟩) (by decide) ?_
      refine V_aload_n (pc := 18) e_X7_cancel_18 rfl (Or.inl ⟨_, rfl⟩) ?_
      refine V_ifnonnull (pc := 19) e_X7_cancel_19 (by decide) trivial (fun _ => ?_) (fun h => by cases h)
      have pl := plc_lt h_fd
      have pj := hQ.2.2.2.1.1 (plc r j) h_fd (by omega)
      have jr := hQ.2.2.2.2 (plc r j) h_fd pl
      have ji := hJI _ h_fd pl
      unfold JR at jr
      have jb := ji.1
      have ps := plc_sp r j
      have wi := hWI
      unfold WI at wi
      have g5 := hRB 5 (by decide) (by decide) (by decide)
      have g6 := hRB 6 (by decide) (by decide) (by decide)
      have g7 := hRB 7 (by decide) (by decide) (by decide)
      have ej : jf r (plc r j) 0 = j := by omega
      have j1 := ji.2.2.2.2
      refine V_aload_n (pc := 25) e_X7_cancel_25 rfl (Or.inl ⟨_, rfl⟩) ?_
      refine Vp_getR (pc := 26) (q := 2) (j := 47) hZ.2.2.1 fx_7_22 e_X7_cancel_26 rfl rfl ?_
      refine V_aload_n (pc := 29) e_X7_cancel_29 rfl (Or.inl ⟨_, rfl⟩) ?_
      refine Vp_getR (pc := 30) (q := 0) (j := 1) hZ.1 fx_7_12 e_X7_cancel_30 rfl rfl ?_
      refine V_cV1 (pc := 33) ca_7_58 e_X7_cancel_33 (by decide) (Nat.le_of_ble_eq_true rfl) (by decide) rfl (by decide) (c_X0_keep (ρ := ρ) (s := sv) (hH.kst (by decide)) kst_MS hM hR (fun σ2 x2 y2 z2 => ?_))
      refine V_sq (σ' := kst 1 σ2 c π) (MS.eq (x2.ms (by decide) kst_MS)).symm ?_
      have hZ := x2.hz hZ
      refine V_aload_n (pc := 36) e_X7_cancel_36 rfl (Or.inl ⟨_, rfl⟩) ?_
      refine Vk_get (pc := 37) (q := 13) hB rfl (by omega) (shM_j (by omega) (by omega)) fx_7_136 e_X7_cancel_37 rfl rfl ?_
      refine V_istore_n (pc := 40) e_X7_cancel_40 (by decide) ?_
      refine V_aload_n (pc := 41) e_X7_cancel_41 rfl (Or.inl ⟨_, rfl⟩) ?_
      refine Vp_getR (pc := 42) (q := 0) (j := 1) hZ.1 fx_7_12 e_X7_cancel_42 rfl rfl ?_
      refine V_aload_n (pc := 45) e_X7_cancel_45 rfl (Or.inl ⟨_, rfl⟩) ?_
      refine V_cV1 (pc := 46) ca_7_132 e_X7_cancel_46 (by decide) (Nat.le_of_ble_eq_true rfl) (kb_lt (i := 0) hB (by decide)) ((shB (i := 0) hB (by decide)).trans rfl) (by decide) (c_X4_interrupt (r := r) (p := plc r j) hB hM (by omega) (by omega) ⟨h_fd, pl⟩ jb g7 g5 g6 (by omega) (fun c3 y3 => ?_))
      rw [ej] at y3
      have n0 : givF r j 0 = r 0 := givF_0 (Or.inl (by decide))
      have n9 : givF r j 9 = r 9 := givF_0 (Or.inr (Or.inl (by decide)))
      have n7 : givF r j 7 = r 7 ∧ ¬ r 7 = j ∨ givF r j 7 = -4 := by
        have e7 : ∀ f : Int → Int, f 7 = r 7 → stayF f j 7 = r 7 ∧ ¬ r 7 = j ∨ stayF f j 7 = -4 := fun f hf => by
          unfold stayF
          rw [up1_at, hf]
          split <;> omega
        unfold givF
        split
        · refine e7 _ ?_
          unfold endsF adn
          simp (disch := decide) only [up1_ne]
        · exact e7 _ rfl
      have q3 := y3.2.2.2.2.2.2.1
      have jr2 := (y3.2.2.2.2.2.2.2.2 (plc r j) h_fd (by omega)).1
      have ej2 : jf (givF r j) (plc r j) 0 = j := by
        unfold jf
        rw [givF_0 (Or.inr (Or.inr (by omega)))]
        exact ej
      refine V_aload_n (pc := 49) e_X7_cancel_49 rfl (Or.inl ⟨_, rfl⟩) ?_
      refine Vp_getR (pc := 50) (q := 0) (j := 1) hZ.1 fx_7_12 e_X7_cancel_50 rfl rfl ?_
      refine Vk_getR (pc := 53) (i := 0) (q := 1) hB rfl (by decide) rfl fx_7_110 e_X7_cancel_53 rfl rfl (by decide) rfl ?_
      refine V_aload_n (pc := 56) e_X7_cancel_56 rfl (Or.inl ⟨_, rfl⟩) ?_
      refine V_cV1 (pc := 57) ca_7_139 e_X7_cancel_57 (by decide) (Nat.le_of_ble_eq_true rfl) (kb_lt hB (by decide)) ((shB hB (by decide)).trans rfl) (by decide) (c_X5_remove hB (s := r 0) (p := plc r j) (y3.2.2.2.2.1.trans n0) (by omega) y3.2.2.2.2.2.2.2.1 ⟨h_fd, pl⟩ (by omega) (by omega) ?_)
      rw [if_neg (show ¬ c3 5 3 = c3 (π (plc r j)) 0 by omega)]
      refine V_aload_n (pc := 60) e_X7_cancel_60 rfl (Or.inl ⟨_, rfl⟩) ?_
      refine Vp_getR (pc := 61) (q := 0) (j := 1) hZ.1 fx_7_12 e_X7_cancel_61 rfl rfl ?_
      refine Vk_getR (pc := 64) (i := 0) (q := 2) hB rfl (by decide) rfl fx_7_142 e_X7_cancel_64 rfl rfl (by decide) rfl ?_
      refine V_bipush (pc := 67) (by decide) e_X7_cancel_67 ?_
      refine V_iconst (pc := 69) e_X7_cancel_69 ?_
      refine V_cV2 (pc := 70) ca_7_146 e_X7_cancel_70 (by decide) (Nat.le_of_ble_eq_true rfl) (kb_lt hB (by decide)) ((shB hB (by decide)).trans rfl) (by decide) (c_X3_add hB (by decide) ?_)
      refine V_iload_n (pc := 73) e_X7_cancel_73 rfl ?_
      refine V_ret (pc := 74) (v := some (zI _)) ⟨e_X7_cancel_74, _, rfl, rfl⟩ ?_
      have y4 := MR_goes (p := plc r j) (by omega) (by omega) y3 (by omega)
      rw [n0] at y4
      have m0 : goesF (givF r j) (plc r j) 0 = r 0 - 1 := by rw [goesF_0 (by omega), n0]
      have y5 := MR_acc (x := goesF (givF r j) (plc r j) 22 + 1) (by omega) (by rw [goesF_at (by omega) (by decide) (by decide), n9]; omega) y4 (w := 6) (by decide)
      rw [show c (π (plc r j)) 13 = jf r (plc r j) 8 by omega]
      refine k3 (by omega) h_fd σ2 _ _ ⟨x2, y2, z2⟩ ?_
      have l6 := y4.2.1.1 6 (by decide) (by decide)
      rw [l6]
      exact y5
    · refine V_astore_n (pc := 17) e_X7_cancel_17 (Or.inr (Or.inl rfl)) (by decide) ?_
      refine V_aload_n (pc := 18) e_X7_cancel_18 rfl (Or.inr (Or.inl rfl)) ?_
      refine V_ifnonnull (pc := 19) e_X7_cancel_19 (by decide) trivial (fun h => absurd rfl h) (fun _ => ?_)
      refine V_bipush (pc := 22) (by decide) e_X7_cancel_22 ?_
      refine V_ret (pc := 24) (v := some (zI _)) ⟨e_X7_cancel_24, _, rfl, rfl⟩ ?_
      exact k2 (by omega) h_fd
  · refine V_iconst (pc := 4) e_X7_cancel_4 ?_
    refine V_ret (pc := 5) (v := some (zI _)) ⟨e_X7_cancel_5, _, rfl, rfl⟩ ?_
    exact k1 (by omega)
