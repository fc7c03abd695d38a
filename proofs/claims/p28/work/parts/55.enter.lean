/-! fault, enter -/
theorem hfF_rg {tx : Int → Int} {ln : Int} {r : Int → Int} : ∀ (n : Nat) (s m : Int), 0 ≤ (hfF tx ln r n s m).1 ∧ (hfF tx ln r n s m).1 ≤ 4 := by
  intro n
  induction n with
  | zero => exact fun s m => ⟨Int.le_refl _, by show (0 : Int) ≤ 4; decide⟩
  | succ n ih =>
    intro s m
    by_cases h : s < ln
    · by_cases g : whyJ tx ln r s m = 0
      · rw [hfF_s h g]
        exact ih _ _
      · rw [hfF_f h g]
        exact whyJ_rg tx ln r s m
    · rw [hfF_e h]
      exact ⟨Int.le_refl _, by show (0 : Int) ≤ 4; decide⟩
theorem c_X7_fault {σ : Sto} {c : Nat → Int → Int} {π : Int → Nat} {r : Int → Int} {Q : Option Value → Sto → Prop} (hZ : HZ σ) (hM : MR c π r) (hI : RI r) {w : Int} (r_w : -2147483648 ≤ w ∧ w < 2147483648) {L : Int} (eL : σ.1 141 1 = L) (hl : 0 ≤ L ∧ L ≤ 100) (ht : ∀ k : Int, 0 ≤ k → k < L → 32 ≤ σ.1 142 k ∧ σ.1 142 k ≤ 126) (k1 : ¬ (0 ≤ w ∧ w ≤ 1) → Q (some (zI (-1))) (kst 1 σ c π)) (k2 : 0 ≤ w ∧ w ≤ 1 → (hfF (σ.1 142) L r 100 0 0).1 = 0 → ∀ t' d' : Int → Int, t' 1 = L → Q (some (zI (-4))) (kst 1 (xst σ t' d') c π)) (k3 : 0 ≤ w ∧ w ≤ 1 → 0 < (hfF (σ.1 142) L r 100 0 0).1 → ∀ t' d' : Int → Int, t' 1 = L → Q (some (zI (if w = 0 then (hfF (σ.1 142) L r 100 0 0).2.1 else (hfF (σ.1 142) L r 100 0 0).1))) (kst 1 (xst σ t' d') c π)) : Con M_X7_fault 150 150 (kst 1 σ c π) [.ref 0, zI w] Q := by
  refine V_entry ok_X7_fault (Nat.le_refl _) (Nat.le_of_ble_eq_true rfl) (V_ls [(0, .ref 0), (1, zI w)] ⟨rfl, rfl, trivial⟩ ?_)
  have hB : MB 1 := Or.inl rfl
  have hR := hI.rr
  obtain ⟨ni, hRB, hRT, hPA, hS, hJI, hWI⟩ := id hI
  obtain ⟨mT, mL, mS, mK, hQ⟩ := id hM
  have hT := mT
  unfold NI at ni
  refine V_iload_n (pc := 0) e_X7_fault_0 rfl ?_
  refine V_iconst (pc := 1) e_X7_fault_1 ?_
  refine V_iconst (pc := 2) e_X7_fault_2 ?_
  refine V_cS3 (pc := 3) ca_7_44 e_X7_fault_3 (by decide) (Nat.le_of_ble_eq_true rfl) (c_X7_isWithin (by omega) (by omega) (by omega) (fun h_wi => ?_) (fun h_wi => ?_))
  · refine V_if_ne (pc := 6) e_X7_fault_6 (by decide) (by decide) (fun _ => ?_) (fun h => absurd h (by decide))
    refine V_aload_n (pc := 11) e_X7_fault_11 rfl (Or.inl ⟨_, rfl⟩) ?_
    refine Vp_getR (pc := 12) (q := 3) (j := 141) hZ.2.2.2.1 fx_7_29 e_X7_fault_12 rfl rfl ?_
    refine V_aload_n (pc := 15) e_X7_fault_15 rfl (Or.inl ⟨_, rfl⟩) ?_
    refine Vp_getR (pc := 16) (q := 4) (j := 143) hZ.2.2.2.2.1 fx_7_36 e_X7_fault_16 rfl rfl ?_
    refine V_aload_n (pc := 19) e_X7_fault_19 rfl (Or.inl ⟨_, rfl⟩) ?_
    refine Vp_getR (pc := 20) (q := 0) (j := 1) hZ.1 fx_7_12 e_X7_fault_20 rfl rfl ?_
    refine V_cV2 (pc := 23) ca_7_230 e_X7_fault_23 (by decide) (Nat.le_of_ble_eq_true rfl) (by decide) rfl (by decide) (c_X2_examine hM hR (by omega) hZ.2.2.2.2.2 eL hl ht (fun t2 d2 a2 b2 g2 m2 => ?_))
    have hZ : HZ (xst σ t2 d2) := hZ
    have hf := hfF_rg (tx := σ.1 142) (ln := L) (r := r) 100 0 0
    refine V_aload_n (pc := 26) e_X7_fault_26 rfl (Or.inl ⟨_, rfl⟩) ?_
    refine Vp_getR (pc := 27) (q := 3) (j := 141) hZ.2.2.2.1 fx_7_29 e_X7_fault_27 rfl rfl ?_
    refine Vp_get (pc := 30) (q := 5) (Or.inr (by decide)) (by decide) rfl fx_7_234 e_X7_fault_30 rfl rfl ?_
    rw [xst_t, b2]
    refine V_if_ne (pc := 33) e_X7_fault_33 (by decide) (by omega) (fun h33 => ?_) (fun h33 => ?_)
    · refine V_iload_n (pc := 39) e_X7_fault_39 rfl ?_
      refine V_if_ne (pc := 40) e_X7_fault_40 (by decide) (by omega) (fun h40 => ?_) (fun h40 => ?_)
      · refine V_aload_n (pc := 53) e_X7_fault_53 rfl (Or.inl ⟨_, rfl⟩) ?_
        refine Vp_getR (pc := 54) (q := 3) (j := 141) hZ.2.2.2.1 fx_7_29 e_X7_fault_54 rfl rfl ?_
        refine Vp_get (pc := 57) (q := 5) (Or.inr (by decide)) (by decide) rfl fx_7_234 e_X7_fault_57 rfl rfl ?_
        refine V_ret (pc := 60) (v := some (zI _)) ⟨e_X7_fault_60, _, rfl, rfl⟩ ?_
        have z := k3 (by omega) (by omega) t2 d2 a2
        rw [if_neg (by omega)] at z
        rw [xst_t, b2]
        exact z
      · refine V_aload_n (pc := 43) e_X7_fault_43 rfl (Or.inl ⟨_, rfl⟩) ?_
        refine Vp_getR (pc := 44) (q := 3) (j := 141) hZ.2.2.2.1 fx_7_29 e_X7_fault_44 rfl rfl ?_
        refine Vp_get (pc := 47) (q := 4) (Or.inr (by decide)) (by decide) rfl fx_7_237 e_X7_fault_47 rfl rfl ?_
        refine V_goto (pc := 50) e_X7_fault_50 (by decide) ?_
        refine V_ret (pc := 60) (v := some (zI _)) ⟨e_X7_fault_60, _, rfl, rfl⟩ ?_
        have z := k3 (by omega) (by omega) t2 d2 a2
        rw [if_pos (by omega)] at z
        rw [xst_t, g2 (by omega)]
        exact z
    · refine V_bipush (pc := 36) (by decide) e_X7_fault_36 ?_
      refine V_ret (pc := 38) (v := some (zI _)) ⟨e_X7_fault_38, _, rfl, rfl⟩ ?_
      exact k2 (by omega) (by omega) t2 d2 a2
  · refine V_if_ne (pc := 6) e_X7_fault_6 (by decide) (by decide) (fun h => absurd (by decide) h) (fun _ => ?_)
    refine V_iconst (pc := 9) e_X7_fault_9 ?_
    refine V_ret (pc := 10) (v := some (zI _)) ⟨e_X7_fault_10, _, rfl, rfl⟩ ?_
    exact k1 (by omega)
theorem L_X7_enter {σ : Sto} {π : Int → Nat} {L M : Int} {Q : Option Value → Sto → Prop} (hZ : HZ σ) (hl : 0 ≤ L ∧ L ≤ 100) (ht : ∀ k : Int, 0 ≤ k → k < L → 32 ≤ σ.1 142 k ∧ σ.1 142 k ≤ 126) (hm : M ≤ 10) : ∀ (f : Nat) (c : Nat → Int → Int) (r t d : Int → Int) (s n : Int), 0 ≤ n ∧ n + (f : Int) = M → MR c π r → (0 ≤ r 0 ∧ r 0 + (f : Int) ≤ 10) → r 9 ≤ 16 → t 1 = L → t 2 = s → 0 ≤ s ∧ s ≤ L → chn (σ.1 142) L f s → (∀ (t' d' : Int → Int) (c' : Nat → Int → Int), t' 1 = L → MR c' π (entF (σ.1 142) L f r s) → Q (some (zI M)) (kst 1 (xst σ t' d') c' π)) → V M_X7_enter 150 57 [(0, .ref 0), (1, zI M), (2, zI n)] [] 150 (kst 1 (xst σ t d) c π) Q := by
  intro f
  induction f with
  | zero =>
    intro c r t d s n hn hM h0 h9 e1 e2 hp hc k
    have hB : MB 1 := Or.inl rfl
    have hQ := hM.2.2.2.2
    have hZ : HZ (xst σ t d) := hZ
    refine V_iload_n (pc := 57) e_X7_enter_57 rfl ?_
    refine V_iload_n (pc := 58) e_X7_enter_58 rfl ?_
    refine V_icmp_ge (pc := 59) e_X7_enter_59 (by decide) (by omega) (by omega) (fun h59 => ?_) (fun h59 => ?_)
    · refine V_iload_n (pc := 97) e_X7_enter_97 rfl ?_
      refine V_ret (pc := 98) (v := some (zI _)) ⟨e_X7_enter_98, _, rfl, rfl⟩ ?_
      exact k t d c e1 hM
    · exact absurd h59 (by omega)
  | succ f ih =>
    intro c r t d s n hn hM h0 h9 e1 e2 hp hc k
    have hB : MB 1 := Or.inl rfl
    have hQ := hM.2.2.2.2
    have hZ : HZ (xst σ t d) := hZ
    have tr := tj_rg hp.1 hc.1
    have k142 : (kst 1 σ c π).1 142 = σ.1 142 := kst_o1 (b := 1) (Or.inr (by decide))
    have hJ2 : (kst 1 σ c π).2.1 141 0 = some 142 := (congrFun (kst_o2 (b := 1) (c := c) (π := π) (Or.inr (by decide))) 0).trans hZ.2.2.2.2.2
    have hcc : tjO ((kst 1 σ c π).1 142) L s := by rw [k142]; exact hc.1
    refine V_iload_n (pc := 57) e_X7_enter_57 rfl ?_
    refine V_iload_n (pc := 58) e_X7_enter_58 rfl ?_
    refine V_icmp_ge (pc := 59) e_X7_enter_59 (by decide) (by omega) (by omega) (fun h59 => ?_) (fun h59 => ?_)
    · refine V_iload_n (pc := 97) e_X7_enter_97 rfl ?_
      refine V_ret (pc := 98) (v := some (zI _)) ⟨e_X7_enter_98, _, rfl, rfl⟩ ?_
      exact absurd h59 (by omega)
    · refine V_aload_n (pc := 62) e_X7_enter_62 rfl (Or.inl ⟨_, rfl⟩) ?_
      refine Vp_getR (pc := 63) (q := 3) (j := 141) hZ.2.2.2.1 fx_7_29 e_X7_enter_63 rfl rfl ?_
      refine V_aload_n (pc := 66) e_X7_enter_66 rfl (Or.inl ⟨_, rfl⟩) ?_
      refine Vp_getR (pc := 67) (q := 4) (j := 143) hZ.2.2.2.2.1 fx_7_36 e_X7_enter_67 rfl rfl ?_
      refine V_sq (σ' := xst (kst 1 σ c π) t d) xst_kst.symm ?_
      refine V_cV1 (pc := 70) ca_7_246 e_X7_enter_70 (by decide) (Nat.le_of_ble_eq_true rfl) (by decide) rfl (by decide) (c_X2_readJob (σ := kst 1 σ c π) (L := L) (s := s) hJ2 hl (by rw [k142]; exact ht) e1 e2 hp (fun h_rj t2 d2 a2 b2 c2 dr => ?_) (fun h_rj => absurd hcc h_rj))
      rw [k142] at b2 dr
      refine V_sq (σ' := kst 1 (xst σ t2 d2) c π) xst_kst ?_
      have hZ : HZ (xst σ t2 d2) := hZ
      obtain ⟨f1, f2, f3, f4, f5, f6, f7, f8, f9, f10, f11, f12, _⟩ := id dr
      refine V_if_eq (pc := 73) e_X7_enter_73 (by decide) (by decide) (fun h => absurd h (by decide)) (fun _ => ?_)
      refine V_aload_n (pc := 76) e_X7_enter_76 rfl (Or.inl ⟨_, rfl⟩) ?_
      refine Vp_getR (pc := 77) (q := 0) (j := 1) hZ.1 fx_7_12 e_X7_enter_77 rfl rfl ?_
      refine Vk_getR (pc := 80) (i := 0) (q := 1) hB rfl (by decide) rfl fx_7_110 e_X7_enter_80 rfl rfl (by decide) rfl ?_
      refine V_aload_n (pc := 83) e_X7_enter_83 rfl (Or.inl ⟨_, rfl⟩) ?_
      refine Vp_getR (pc := 84) (q := 4) (j := 143) hZ.2.2.2.2.1 fx_7_36 e_X7_enter_84 rfl rfl ?_
      refine V_cV1 (pc := 87) ca_7_120 e_X7_enter_87 (by decide) (Nat.le_of_ble_eq_true rfl) (kb_lt hB (by decide)) ((shB hB (by decide)).trans rfl) (by decide) (c_X5_append hB (s := r 0) hQ.1 (by omega) (hQ.2.2.2.1.1 (r 0) (by omega) (by omega)) (by rw [xst_d]; omega) (by rw [xst_d]; omega) (by rw [xst_d]; omega) (fun c3 a1 a5 a3 a4 => ?_))
      refine V_pop (pc := 90) e_X7_enter_90 rfl ?_
      refine V_iinc (pc := 91) e_X7_enter_91 rfl (by decide) ?_
      refine V_goto (pc := 94) e_X7_enter_94 (by decide) ?_
      exact V_lq [(0, .ref 0), (1, zI M), (2, zI (n + 1))] ⟨⟨_, rfl, rfl⟩, ⟨_, rfl, rfl⟩, ⟨_, rfl, rfl⟩, trivial⟩ (ih c3 (comesF r (tjP (σ.1 142) L s) (tjC (σ.1 142) L s) (tjS (σ.1 142) L s) (tjK (σ.1 142) L s) (tjH (σ.1 142) L s)) t2 d2 (tjE (σ.1 142) L s) (n + 1) (by omega) (MR_comes (by omega) h9 hM dr (a1.trans hQ.2.1) (fun m m1 m2 => (a5 m m1 m2).trans (congrFun xst_d m)) (by rw [a3, hQ.2.1]) a4) (by rw [comesF_0 h0.1]; omega) (by rw [comesF_lo h0.1 (by omega) (by decide) (by decide)]; exact h9) a2 b2 (by omega) hc.2 k)
theorem c_X7_enter {σ : Sto} {c : Nat → Int → Int} {π : Int → Nat} {r : Int → Int} {Q : Option Value → Sto → Prop} (hZ : HZ σ) (hM : MR c π r) (hI : RI r) {ρ : Int → Int → Int} {sv : Int} (hH : HS σ sv ρ) {L : Int} (eL : σ.1 141 1 = L) (hl : 0 ≤ L ∧ L ≤ 100) (ht : ∀ k : Int, 0 ≤ k → k < L → 32 ≤ σ.1 142 k ∧ σ.1 142 k ≤ 126) (k1 : 0 < (hfF (σ.1 142) L r 100 0 0).1 → ∀ t' d' : Int → Int, t' 1 = L → Q (some (zI (-2))) (kst 1 (xst σ t' d') c π)) (k2 : (hfF (σ.1 142) L r 100 0 0).1 = 0 → ∀ (t1 d1 t' d' : Int → Int) (σ2 : Sto) (c' : Nat → Int → Int), t1 1 = L → KP (xst σ t1 d1) σ2 c π sv ρ r → t' 1 = L → MR c' π (entF (σ.1 142) L (hfF (σ.1 142) L r 100 0 0).2.2.toNat r 0) → Q (some (zI (hfF (σ.1 142) L r 100 0 0).2.2)) (kst 1 (xst σ2 t' d') c' π)) : Con M_X7_enter 150 150 (kst 1 σ c π) [.ref 0] Q := by
  refine V_entry ok_X7_enter (Nat.le_refl _) (Nat.le_of_ble_eq_true rfl) (V_ls [(0, .ref 0)] ⟨rfl, trivial⟩ ?_)
  have hB : MB 1 := Or.inl rfl
  have hR := hI.rr
  obtain ⟨ni, hRB, hRT, hPA, hS, hJI, hWI⟩ := id hI
  obtain ⟨mT, mL, mS, mK, hQ⟩ := id hM
  have hT := mT
  unfold NI at ni
  have hk := hfF_ok (tx := σ.1 142) (ln := L) (r := r) 100 0 0 (by decide) hl.1 (by decide) (by omega)
  refine V_aload_n (pc := 0) e_X7_enter_0 rfl (Or.inl ⟨_, rfl⟩) ?_
  refine Vp_getR (pc := 1) (q := 3) (j := 141) hZ.2.2.2.1 fx_7_29 e_X7_enter_1 rfl rfl ?_
  refine V_aload_n (pc := 4) e_X7_enter_4 rfl (Or.inl ⟨_, rfl⟩) ?_
  refine Vp_getR (pc := 5) (q := 4) (j := 143) hZ.2.2.2.2.1 fx_7_36 e_X7_enter_5 rfl rfl ?_
  refine V_aload_n (pc := 8) e_X7_enter_8 rfl (Or.inl ⟨_, rfl⟩) ?_
  refine Vp_getR (pc := 9) (q := 0) (j := 1) hZ.1 fx_7_12 e_X7_enter_9 rfl rfl ?_
  refine V_cV2 (pc := 12) ca_7_230 e_X7_enter_12 (by decide) (Nat.le_of_ble_eq_true rfl) (by decide) rfl (by decide) (c_X2_examine hM hR (by omega) hZ.2.2.2.2.2 eL hl ht (fun t2 d2 a2 b2 g2 m2 => ?_))
  have hZ : HZ (xst σ t2 d2) := hZ
  have hf := hfF_rg (tx := σ.1 142) (ln := L) (r := r) 100 0 0
  refine V_aload_n (pc := 15) e_X7_enter_15 rfl (Or.inl ⟨_, rfl⟩) ?_
  refine Vp_getR (pc := 16) (q := 3) (j := 141) hZ.2.2.2.1 fx_7_29 e_X7_enter_16 rfl rfl ?_
  refine Vp_get (pc := 19) (q := 5) (Or.inr (by decide)) (by decide) rfl fx_7_234 e_X7_enter_19 rfl rfl ?_
  rw [xst_t, b2]
  refine V_if_eq (pc := 22) e_X7_enter_22 (by decide) (by omega) (fun h22 => ?_) (fun h22 => ?_)
  · refine V_aload_n (pc := 28) e_X7_enter_28 rfl (Or.inl ⟨_, rfl⟩) ?_
    refine Vp_getR (pc := 29) (q := 2) (j := 47) hZ.2.2.1 fx_7_22 e_X7_enter_29 rfl rfl ?_
    refine V_aload_n (pc := 32) e_X7_enter_32 rfl (Or.inl ⟨_, rfl⟩) ?_
    refine Vp_getR (pc := 33) (q := 0) (j := 1) hZ.1 fx_7_12 e_X7_enter_33 rfl rfl ?_
    have hH : HS (xst σ t2 d2) sv ρ := hH.ext (fun i a b => ⟨xst_o (by omega) (by omega), rfl⟩)
    refine V_cV1 (pc := 36) ca_7_58 e_X7_enter_36 (by decide) (Nat.le_of_ble_eq_true rfl) (by decide) rfl (by decide) (c_X0_keep (ρ := ρ) (s := sv) (hH.kst (by decide)) kst_MS hM hR (fun σ2 x2 y2 z2 => ?_))
    refine V_sq (σ' := kst 1 σ2 c π) (MS.eq (x2.ms (by decide) kst_MS)).symm ?_
    have hZ := x2.hz hZ
    have e141 : σ2.1 141 = t2 := ((x2.1 141 (Or.inr (by decide))).1.trans (kst_o1 (b := 1) (Or.inr (by decide)))).trans xst_t
    have e142 : σ2.1 142 = σ.1 142 := ((x2.1 142 (Or.inr (by decide))).1.trans (kst_o1 (b := 1) (Or.inr (by decide)))).trans (xst_o (by decide) (by decide))
    obtain ⟨b1, b2x, b3⟩ := hk (by omega)
    rw [Int.sub_zero] at b3
    refine V_aload_n (pc := 39) e_X7_enter_39 rfl (Or.inl ⟨_, rfl⟩) ?_
    refine Vp_getR (pc := 40) (q := 3) (j := 141) hZ.2.2.2.1 fx_7_29 e_X7_enter_40 rfl rfl ?_
    refine Vp_get (pc := 43) (q := 3) (Or.inr (by decide)) (by decide) rfl fx_7_240 e_X7_enter_43 rfl rfl ?_
    rw [e141, m2]
    refine V_istore_n (pc := 46) e_X7_enter_46 (by decide) ?_
    refine V_aload_n (pc := 47) e_X7_enter_47 rfl (Or.inl ⟨_, rfl⟩) ?_
    refine Vp_getR (pc := 48) (q := 3) (j := 141) hZ.2.2.2.1 fx_7_29 e_X7_enter_48 rfl rfl ?_
    refine V_iconst (pc := 51) e_X7_enter_51 ?_
    refine Vt_put (pc := 52) (q := 2) fx_7_243 e_X7_enter_52 rfl rfl rfl rfl rfl ?_
    refine V_sq (σ' := kst 1 (xst σ2 (up1 (σ2.1 141) 2 0) (σ2.1 143)) c π) (by rw [kst_setO (Or.inr (by decide)), ← xst_set, xst_id]) ?_
    refine V_iconst (pc := 55) e_X7_enter_55 ?_
    refine V_istore_n (pc := 56) e_X7_enter_56 (by decide) ?_
    exact V_lq [(0, .ref 0), (1, zI (hfF (σ.1 142) L r 100 0 0).2.2), (2, zI 0)] ⟨⟨_, rfl, rfl⟩, ⟨_, rfl, rfl⟩, ⟨_, rfl, rfl⟩, trivial⟩ (L_X7_enter (σ := σ2) (L := L) (M := (hfF (σ.1 142) L r 100 0 0).2.2) hZ hl (by rw [e142]; exact ht) (by omega) (hfF (σ.1 142) L r 100 0 0).2.2.toNat c r _ _ 0 0 (by omega) hM (by omega) (by omega) ((up1_ne (by decide)).trans (by rw [e141]; exact a2)) up1_at (by omega) (by rw [e142]; exact b3) (fun t' d' c' f1 f2 => k2 (by omega) t2 d2 t' d' σ2 c' a2 ⟨x2, y2, z2⟩ f1 (by rw [e142] at f2; exact f2)))
  · refine V_bipush (pc := 25) (by decide) e_X7_enter_25 ?_
    refine V_ret (pc := 27) (v := some (zI _)) ⟨e_X7_enter_27, _, rfl, rfl⟩ ?_
    exact k1 (by omega) t2 d2 a2
