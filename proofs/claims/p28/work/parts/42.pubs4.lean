/-! undo, stop, ticksTo -/
theorem kst_again {σ : Sto} {c c' : Nat → Int → Int} {π π' : Int → Nat} {x : Int} : kst 1 (setI (kst 1 σ c π) 47 1 x) c' π' = kst 1 (setI σ 47 1 x) c' π' := by
  refine Prod.ext (funext fun i => ?_) (Prod.ext (funext fun i => ?_) rfl)
  · by_cases h : 1 ≤ i ∧ i < 24
    · obtain ⟨m, rfl⟩ := Nat.exists_eq_add_of_le h.1
      rw [kst_1 (by omega), kst_1 (by omega)]
    · rw [kst_o1 (b := 1) (by omega), kst_o1 (b := 1) (by omega)]
      funext q
      show up2 (kst 1 σ c π).1 47 1 x i q = up2 σ.1 47 1 x i q
      unfold up2
      rw [kst_o1 (b := 1) (by omega)]
  · by_cases h : 1 ≤ i ∧ i < 24
    · obtain ⟨m, rfl⟩ := Nat.exists_eq_add_of_le h.1
      by_cases y : m = 6
      · subst y
        funext q
        rw [kst_6, kst_6]
      · funext q
        rw [kst_2 (by omega) y, kst_2 (by omega) y]
    · rw [kst_o2 (b := 1) (by omega), kst_o2 (b := 1) (by omega)]
      show (kst 1 σ c π).2.1 i = σ.2.1 i
      exact kst_o2 (b := 1) (by omega)
theorem c_X7_undo {σ : Sto} {c : Nat → Int → Int} {π : Int → Nat} {r : Int → Int} {Q : Option Value → Sto → Prop} (hZ : HZ σ) (hM : MR c π r) (hI : RI r) {ρ : Int → Int → Int} {sv : Int} (hH : HS σ sv ρ) (hRr : ∀ k : Int, 0 ≤ k → k < sv → RR (ρ k)) (k1 : sv = 0 → Q (some (zI (-2))) (kst 1 σ c π)) (k2 : 0 < sv → ∀ c' : Nat → Int → Int, MR c' π (ρ (sv - 1)) → HS (setI σ 47 1 (sv - 1)) (sv - 1) ρ → Q (some (zI (sv - 1))) (kst 1 (setI σ 47 1 (sv - 1)) c' π)) : Con M_X7_undo 144 144 (kst 1 σ c π) [.ref 0] Q := by
  refine V_entry ok_X7_undo (Nat.le_refl _) (Nat.le_of_ble_eq_true rfl) (V_ls [(0, .ref 0)] ⟨rfl, trivial⟩ ?_)
  have hB : MB 1 := Or.inl rfl
  have hR := hI.rr
  obtain ⟨ni, hRB, hRT, hPA, hS, hJI, hWI⟩ := id hI
  obtain ⟨mT, mL, mS, mK, hQ⟩ := id hM
  have hT := mT
  unfold NI at ni
  have sb := hH.2.2.1
  refine V_aload_n (pc := 0) e_X7_undo_0 rfl (Or.inl ⟨_, rfl⟩) ?_
  refine Vp_getR (pc := 1) (q := 2) (j := 47) hZ.2.2.1 fx_7_22 e_X7_undo_1 rfl rfl ?_
  refine V_aload_n (pc := 4) e_X7_undo_4 rfl (Or.inl ⟨_, rfl⟩) ?_
  refine Vp_getR (pc := 5) (q := 0) (j := 1) hZ.1 fx_7_12 e_X7_undo_5 rfl rfl ?_
  refine V_cV1 (pc := 8) ca_7_223 e_X7_undo_8 (by decide) (Nat.le_of_ble_eq_true rfl) (by decide) rfl (by decide) (c_X0_restore (ρ := ρ) (s := sv) (hH.kst (by decide)) kst_MS hQ.2.2.2.1 hRr (fun h_r0 => ?_) (fun h_r1 c3 y3 u3 => ?_))
  · refine V_if_eq (pc := 11) e_X7_undo_11 (by decide) (by decide) (fun _ => ?_) (fun h => absurd (by decide) h)
    refine V_bipush (pc := 24) (by decide) e_X7_undo_24 ?_
    refine V_ret (pc := 26) (v := some (zI _)) ⟨e_X7_undo_26, _, rfl, rfl⟩ ?_
    exact k1 h_r0
  · refine V_if_eq (pc := 11) e_X7_undo_11 (by decide) (by decide) (fun h => absurd h (by decide)) (fun _ => ?_)
    refine V_sq (σ' := kst 1 (setI σ 47 1 (sv - 1)) c3 π) kst_again ?_
    have hZ : HZ (setI σ 47 1 (sv - 1)) := hZ
    refine V_aload_n (pc := 14) e_X7_undo_14 rfl (Or.inl ⟨_, rfl⟩) ?_
    refine Vp_getR (pc := 15) (q := 2) (j := 47) hZ.2.2.1 fx_7_22 e_X7_undo_15 rfl rfl ?_
    refine Vp_get (pc := 18) (q := 1) (Or.inr (by decide)) (by decide) rfl fx_7_199 e_X7_undo_18 rfl rfl ?_
    refine V_goto (pc := 21) e_X7_undo_21 (by decide) ?_
    refine V_ret (pc := 26) (v := some (zI _)) ⟨e_X7_undo_26, _, rfl, rfl⟩ ?_
    rw [setI_e]
    exact k2 h_r1 _ y3 (hH.pop (by omega))
theorem c_X7_stop {σ : Sto} {c : Nat → Int → Int} {π : Int → Nat} {r : Int → Int} {Q : Option Value → Sto → Prop} (hZ : HZ σ) (hM : MR c π r) (hI : RI r) {c2 : Nat → Int → Int} {π2 : Int → Nat} (h2 : MS 24 σ c2 π2) (hP2 : PI π2) (k : ∀ (c' : Nat → Int → Int) (π' : Int → Nat), PI π' → Q (some (zI (begF 501 r).1)) (kst 24 (kst 1 σ c π) c' π')) : Con M_X7_stop 144 144 (kst 1 σ c π) [.ref 0] Q := by
  refine V_entry ok_X7_stop (Nat.le_refl _) (Nat.le_of_ble_eq_true rfl) (V_ls [(0, .ref 0)] ⟨rfl, trivial⟩ ?_)
  have hB : MB 1 := Or.inl rfl
  have hR := hI.rr
  obtain ⟨ni, hRB, hRT, hPA, hS, hJI, hWI⟩ := id hI
  obtain ⟨mT, mL, mS, mK, hQ⟩ := id hM
  have hT := mT
  unfold NI at ni
  refine V_aload_n (pc := 0) e_X7_stop_0 rfl (Or.inl ⟨_, rfl⟩) ?_
  refine Vp_getR (pc := 1) (q := 1) (j := 24) hZ.2.1 fx_7_16 e_X7_stop_1 rfl rfl ?_
  refine V_aload_n (pc := 4) e_X7_stop_4 rfl (Or.inl ⟨_, rfl⟩) ?_
  refine Vp_getR (pc := 5) (q := 0) (j := 1) hZ.1 fx_7_12 e_X7_stop_5 rfl rfl ?_
  refine V_sq (σ' := kst 24 (kst 1 σ c π) c2 π2) (MS.eq (h2.kst_o (Or.inr (by decide)))).symm ?_
  refine V_cV1 (pc := 8) ca_7_172 e_X7_stop_8 (by decide) (Nat.le_of_ble_eq_true rfl) (by decide) rfl (by decide) (c_X4_copyFrom (b := 24) (b2 := 1) (Or.inr (Or.inl rfl)) (Or.inl rfl) (by decide) hP2 hM hR (fun c3 y => ?_))
  refine V_aload_n (pc := 11) e_X7_stop_11 rfl (Or.inl ⟨_, rfl⟩) ?_
  refine V_getR (pc := 12) (q := 1) (j := 24) fx_7_16 e_X7_stop_12 rfl rfl (by decide) rfl ((congrFun (kst_o2 (b := 24) (c := c3) (π := π2) (Or.inl (by decide))) 1).trans ((congrFun (kst_o2 (b := 1) (c := c) (π := π) (Or.inl (by decide))) 1).trans hZ.2.1)) ?_
  refine V_cV0 (pc := 15) ca_7_175 e_X7_stop_15 (by decide) (Nat.le_of_ble_eq_true rfl) (by decide) rfl (by decide) (c_X4_findWork (b := 24) (Or.inr (Or.inl rfl)) y (RI_c501 hI) (fun c4 π4 y4 => ?_))
  refine V_ret (pc := 18) (v := some (zI _)) ⟨e_X7_stop_18, _, rfl, rfl⟩ ?_
  exact k _ _ y4.2.2.2.2.2.2.2.1
theorem c_X7_ticksTo {σ : Sto} {c : Nat → Int → Int} {π : Int → Nat} {r : Int → Int} {Q : Option Value → Sto → Prop} (hZ : HZ σ) (hM : MR c π r) (hI : RI r) {c2 : Nat → Int → Int} {π2 : Int → Nat} (h2 : MS 24 σ c2 π2) (hP2 : PI π2) {j : Int} (hO : 0 ≤ plc r j → ctO 20000 r j 0) (r_j : -2147483648 ≤ j ∧ j < 2147483648) (k1 : j < 0 → Q (some (zI (-1))) (kst 1 σ c π)) (k2 : 0 ≤ j → plc r j < 0 → Q (some (zI (-4))) (kst 1 σ c π)) (k3 : 0 ≤ j → 0 ≤ plc r j → ∀ (c' : Nat → Int → Int) (π' : Int → Nat), PI π' → Q (some (zI (ansF 20000 r j 0))) (kst 24 (kst 1 σ c π) c' π')) : Con M_X7_ticksTo 144 144 (kst 1 σ c π) [.ref 0, zI j] Q := by
  refine V_entry ok_X7_ticksTo (Nat.le_refl _) (Nat.le_of_ble_eq_true rfl) (V_ls [(0, .ref 0), (1, zI j)] ⟨rfl, rfl, trivial⟩ ?_)
  have hB : MB 1 := Or.inl rfl
  have hR := hI.rr
  obtain ⟨ni, hRB, hRT, hPA, hS, hJI, hWI⟩ := id hI
  obtain ⟨mT, mL, mS, mK, hQ⟩ := id hM
  have hT := mT
  unfold NI at ni
  refine V_iload_n (pc := 0) e_X7_ticksTo_0 rfl ?_
  refine V_if_ge (pc := 1) e_X7_ticksTo_1 (by decide) (by omega) (fun h1 => ?_) (fun h1 => ?_)
  · refine V_aload_n (pc := 6) e_X7_ticksTo_6 rfl (Or.inl ⟨_, rfl⟩) ?_
    refine Vp_getR (pc := 7) (q := 0) (j := 1) hZ.1 fx_7_12 e_X7_ticksTo_7 rfl rfl ?_
    refine Vk_getR (pc := 10) (i := 0) (q := 1) hB rfl (by decide) rfl fx_7_110 e_X7_ticksTo_10 rfl rfl (by decide) rfl ?_
    refine V_iload_n (pc := 13) e_X7_ticksTo_13 rfl ?_
    refine V_cV1 (pc := 14) ca_7_124 e_X7_ticksTo_14 (by decide) (Nat.le_of_ble_eq_true rfl) (kb_lt hB (by decide)) ((shB hB (by decide)).trans rfl) (by decide) (c_X5_find hB hQ hR (by omega) (fun h_fd => ?_) (fun h_fd => ?_))
    · refine V_ifnonnull (pc := 17) e_X7_ticksTo_17 (by decide) trivial (fun _ => ?_) (fun h => by cases h)
      refine V_aload_n (pc := 23) e_X7_ticksTo_23 rfl (Or.inl ⟨_, rfl⟩) ?_
      refine Vp_getR (pc := 24) (q := 1) (j := 24) hZ.2.1 fx_7_16 e_X7_ticksTo_24 rfl rfl ?_
      refine V_aload_n (pc := 27) e_X7_ticksTo_27 rfl (Or.inl ⟨_, rfl⟩) ?_
      refine Vp_getR (pc := 28) (q := 0) (j := 1) hZ.1 fx_7_12 e_X7_ticksTo_28 rfl rfl ?_
      refine V_sq (σ' := kst 24 (kst 1 σ c π) c2 π2) (MS.eq (h2.kst_o (Or.inr (by decide)))).symm ?_
      refine V_cV1 (pc := 31) ca_7_172 e_X7_ticksTo_31 (by decide) (Nat.le_of_ble_eq_true rfl) (by decide) rfl (by decide) (c_X4_copyFrom (b := 24) (b2 := 1) (Or.inr (Or.inl rfl)) (Or.inl rfl) (by decide) hP2 hM hR (fun c3 y => ?_))
      refine V_aload_n (pc := 34) e_X7_ticksTo_34 rfl (Or.inl ⟨_, rfl⟩) ?_
      refine V_getR (pc := 35) (q := 1) (j := 24) fx_7_16 e_X7_ticksTo_35 rfl rfl (by decide) rfl ((congrFun (kst_o2 (b := 24) (c := c3) (π := π2) (Or.inl (by decide))) 1).trans ((congrFun (kst_o2 (b := 1) (c := c) (π := π) (Or.inl (by decide))) 1).trans hZ.2.1)) ?_
      refine V_iload_n (pc := 38) e_X7_ticksTo_38 rfl ?_
      refine V_cV1 (pc := 39) ca_7_220 e_X7_ticksTo_39 (by decide) (Nat.le_of_ble_eq_true rfl) (by decide) rfl (by decide) (c_X4_ticksUntilGone (b := 24) (Or.inr (Or.inl rfl)) y (hO h_fd) h_fd (by omega) (fun c4 π4 y4 => ?_))
      refine V_ret (pc := 42) (v := some (zI _)) ⟨e_X7_ticksTo_42, _, rfl, rfl⟩ ?_
      exact k3 (by omega) h_fd _ _ y4
    · refine V_ifnonnull (pc := 17) e_X7_ticksTo_17 (by decide) trivial (fun h => absurd rfl h) (fun _ => ?_)
      refine V_bipush (pc := 20) (by decide) e_X7_ticksTo_20 ?_
      refine V_ret (pc := 22) (v := some (zI _)) ⟨e_X7_ticksTo_22, _, rfl, rfl⟩ ?_
      exact k2 (by omega) h_fd
  · refine V_iconst (pc := 4) e_X7_ticksTo_4 ?_
    refine V_ret (pc := 5) (v := some (zI _)) ⟨e_X7_ticksTo_5, _, rfl, rfl⟩ ?_
    exact k1 (by omega)
