/-! job -/
theorem c_X1_describe_c {σ : Sto} {d : Int → Int} {pg cp sz kd hw : Int} {Q : Option Value → Sto → Prop} (r_pg : -2147483648 ≤ pg ∧ pg < 2147483648) (r_cp : -2147483648 ≤ cp ∧ cp < 2147483648) (hh : 0 ≤ hw ∧ hw ≤ 11) (hk : 0 ≤ kd ∧ kd ≤ 3) (k : ∀ d' : Int → Int, d' 1 = pg → d' 2 = cp → ((0 ≤ pg ∧ pg ≤ 999) ∧ 0 ≤ cp ∧ cp ≤ 999 → DR d' pg cp sz kd hw) → Q none (dst σ d')) : Con M_X1_describe 144 144 (dst σ d) [.ref 143, zI pg, zI cp, zI sz, zI kd, zI hw] Q := by
  by_cases h : (0 ≤ pg ∧ pg ≤ 999) ∧ 0 ≤ cp ∧ cp ≤ 999
  · exact c_X1_describe ⟨h.1, h.2, hh, hk⟩ (fun d' y => k d' y.1 y.2.1 (fun _ => y))
  · exact c_X1_describe_g ⟨r_pg, r_cp, hh⟩ (fun d' a b => k d' a b (fun y => absurd y h))
theorem kst_set0 {σ : Sto} {c : Nat → Int → Int} {π : Int → Nat} {q x : Int} : setI (kst 1 σ c π) 0 q x = kst 1 (setI σ 0 q x) c π := by
  refine setI_eq rfl ?_ (fun j hj => ?_)
  · rw [kst_o1 (b := 1) (by decide), kst_o1 (b := 1) (by decide)]
    exact up2_at
  · by_cases g : 1 ≤ j ∧ j < 24
    · obtain ⟨m, rfl⟩ := Nat.exists_eq_add_of_le g.1
      rw [kst_1 (by omega), kst_1 (by omega)]
    · rw [kst_o1 (b := 1) (by omega), kst_o1 (b := 1) (by omega)]
      exact up2_ne hj
theorem c_X7_job {σ : Sto} {c : Nat → Int → Int} {π : Int → Nat} {r : Int → Int} {Q : Option Value → Sto → Prop} (hZ : HZ σ) (hM : MR c π r) (hI : RI r) {ρ : Int → Int → Int} {sv : Int} (hH : HS σ sv ρ) {pg cp s q hw : Int} (r_pg : -2147483648 ≤ pg ∧ pg < 2147483648) (r_cp : -2147483648 ≤ cp ∧ cp < 2147483648) (r_s : -2147483648 ≤ s ∧ s < 2147483648) (r_q : -2147483648 ≤ q ∧ q < 2147483648) (r_hw : -2147483648 ≤ hw ∧ hw < 2147483648) (k1 : ¬ (((1 ≤ pg ∧ pg ≤ 200) ∧ 1 ≤ cp ∧ cp ≤ 50) ∧ ((0 ≤ s ∧ s ≤ 3) ∧ 0 ≤ q ∧ q ≤ 3) ∧ 0 ≤ hw ∧ hw ≤ 11) → ∀ d' : Int → Int, Q (some (zI (-1))) (kst 1 (dst σ d') c π)) (k2 : ((1 ≤ pg ∧ pg ≤ 200) ∧ 1 ≤ cp ∧ cp ≤ 50) ∧ ((0 ≤ s ∧ s ≤ 3) ∧ 0 ≤ q ∧ q ≤ 3) ∧ 0 ≤ hw ∧ hw ≤ 11 → 0 < wny r pg q hw → ∀ d' : Int → Int, Q (some (zI (-2))) (kst 1 (setI (dst σ d') 0 5 (wny r pg q hw)) c π)) (k3 : ((1 ≤ pg ∧ pg ≤ 200) ∧ 1 ≤ cp ∧ cp ≤ 50) ∧ ((0 ≤ s ∧ s ≤ 3) ∧ 0 ≤ q ∧ q ≤ 3) ∧ 0 ≤ hw ∧ hw ≤ 11 → wny r pg q hw = 0 → r 0 = 10 → ∀ d' : Int → Int, Q (some (zI (-3))) (kst 1 (dst σ d') c π)) (k4 : ((1 ≤ pg ∧ pg ≤ 200) ∧ 1 ≤ cp ∧ cp ≤ 50) ∧ ((0 ≤ s ∧ s ≤ 3) ∧ 0 ≤ q ∧ q ≤ 3) ∧ 0 ≤ hw ∧ hw ≤ 11 → wny r pg q hw = 0 → r 0 < 10 → ∀ (d' : Int → Int) (σ2 : Sto) (c' : Nat → Int → Int), KP (dst σ d') σ2 c π sv ρ r → MR c' π (comesF r pg cp s q hw) → Q (some (zI (r 1))) (kst 1 σ2 c' π)) : Con M_X7_job 144 144 (kst 1 σ c π) [.ref 0, zI pg, zI cp, zI s, zI q, zI hw] Q := by
  refine V_entry ok_X7_job (Nat.le_refl _) (Nat.le_of_ble_eq_true rfl) (V_ls [(0, .ref 0), (1, zI pg), (2, zI cp), (3, zI s), (4, zI q), (5, zI hw)] ⟨rfl, rfl, rfl, rfl, rfl, rfl, trivial⟩ ?_)
  have hB : MB 1 := Or.inl rfl
  have hR := hI.rr
  obtain ⟨ni, hRB, hRT, hPA, hS, hJI, hWI⟩ := id hI
  obtain ⟨mT, mL, mS, mK, hQ⟩ := id hM
  have hT := mT
  unfold NI at ni
  refine V_iload_n (pc := 0) e_X7_job_0 rfl ?_
  refine V_iload (pc := 1) e_X7_job_1 rfl ?_
  refine V_cS2 (pc := 3) ca_7_62 e_X7_job_3 (by decide) (Nat.le_of_ble_eq_true rfl) (c_X7_isPaper (by omega) (by omega) (fun h_pa => ?_) (fun h_pa => ?_))
  · refine V_if_eq (pc := 6) e_X7_job_6 (by decide) (by decide) (fun h => absurd h (by decide)) (fun _ => ?_)
    refine V_iload (pc := 9) e_X7_job_9 rfl ?_
    refine V_iconst (pc := 11) e_X7_job_11 ?_
    refine V_bipush (pc := 12) (by decide) e_X7_job_12 ?_
    refine V_cS3 (pc := 14) ca_7_44 e_X7_job_14 (by decide) (Nat.le_of_ble_eq_true rfl) (c_X7_isWithin (by omega) (by omega) (by omega) (fun h_wi => ?_) (fun h_wi => ?_))
    · refine V_if_ne (pc := 17) e_X7_job_17 (by decide) (by decide) (fun _ => ?_) (fun h => absurd h (by decide))
      refine V_aload_n (pc := 22) e_X7_job_22 rfl (Or.inl ⟨_, rfl⟩) ?_
      refine Vp_getR (pc := 23) (q := 4) (j := 143) hZ.2.2.2.2.1 fx_7_36 e_X7_job_23 rfl rfl ?_
      refine V_iload_n (pc := 26) e_X7_job_26 rfl ?_
      refine V_iload_n (pc := 27) e_X7_job_27 rfl ?_
      refine V_iload_n (pc := 28) e_X7_job_28 rfl ?_
      refine V_iload (pc := 29) e_X7_job_29 rfl ?_
      refine V_iload (pc := 31) e_X7_job_31 rfl ?_
      refine V_sq (σ' := dst (kst 1 σ c π) ((kst 1 σ c π).1 143)) dst_id.symm ?_
      refine V_cV5 (pc := 33) ca_7_95 e_X7_job_33 (by decide) (Nat.le_of_ble_eq_true rfl) (by decide) rfl (by decide) (c_X1_describe_c r_pg r_cp h_wi (by omega) (fun d1 e1 e2 e3 => ?_))
      refine V_sq (σ' := kst 1 (dst σ d1) c π) dst_kst ?_
      have hZ : HZ (dst σ d1) := hZ
      refine V_aload_n (pc := 36) e_X7_job_36 rfl (Or.inl ⟨_, rfl⟩) ?_
      refine Vp_getR (pc := 37) (q := 4) (j := 143) hZ.2.2.2.2.1 fx_7_36 e_X7_job_37 rfl rfl ?_
      refine V_sq (σ' := dst (kst 1 (dst σ d1) c π) d1) (by rw [dst_kst, dst_dst]) ?_
      refine V_cV0 (pc := 40) ca_7_99 e_X7_job_40 (by decide) (Nat.le_of_ble_eq_true rfl) (by decide) rfl (by decide) (c_X1_isInRange_g ⟨r_pg, r_cp⟩ e1 e2 (fun h_ir => ?_) (fun h_ir => ?_))
      · refine V_sq (σ' := kst 1 (dst σ d1) c π) (by rw [dst_kst, dst_dst]) ?_
        refine V_if_ne (pc := 43) e_X7_job_43 (by decide) (by decide) (fun _ => ?_) (fun h => absurd h (by decide))
        have s13 : c 22 3 = r 13 := mS 3 (by decide) (by decide)
        have dr := e3 (by omega)
        obtain ⟨f1, f2, f3, f4, f5, f6, f7, f8, f9, f10, f11, f12, _⟩ := id dr
        have wb : 0 ≤ wny r pg q hw ∧ wny r pg q hw ≤ 4 := by
          unfold wny
          (repeat' split) <;> omega
        refine V_aload_n (pc := 48) e_X7_job_48 rfl (Or.inl ⟨_, rfl⟩) ?_
        refine Vp_getR (pc := 49) (q := 4) (j := 143) hZ.2.2.2.2.1 fx_7_36 e_X7_job_49 rfl rfl ?_
        refine V_aload_n (pc := 52) e_X7_job_52 rfl (Or.inl ⟨_, rfl⟩) ?_
        refine Vp_getR (pc := 53) (q := 0) (j := 1) hZ.1 fx_7_12 e_X7_job_53 rfl rfl ?_
        refine Vk_getR (pc := 56) (i := 0) (q := 3) hB rfl (by decide) rfl fx_7_92 e_X7_job_56 rfl rfl (by decide) rfl ?_
        refine V_iconst (pc := 59) e_X7_job_59 ?_
        refine Vk_ld (pc := 60) (n := 6) hB rfl (by decide) rfl (by decide) e_X7_job_60 (by decide) ?_
        refine V_sq (σ' := dst (kst 1 (dst σ d1) c π) d1) (by rw [dst_kst, dst_dst]) ?_
        refine V_cV1 (pc := 61) ca_7_103 e_X7_job_61 (by decide) (Nat.le_of_ble_eq_true rfl) (by decide) rfl (by decide) (c_X1_staplingRefusal (r := r) (l := c 22 3) (pg := pg) (cp := cp) (sz := s) (kd := q) (hw := hw) ⟨by omega, by omega, h_wi, by omega⟩ s13.symm (by omega) (e3 (by omega)) ?_)
        refine V_sq (σ' := kst 1 (dst σ d1) c π) (by rw [dst_kst, dst_dst]) ?_
        refine V_istore (pc := 64) e_X7_job_64 (by decide) ?_
        refine V_iload (pc := 66) e_X7_job_66 rfl ?_
        refine V_if_eq (pc := 68) e_X7_job_68 (by decide) (by omega) (fun h68 => ?_) (fun h68 => ?_)
        · refine V_aload_n (pc := 80) e_X7_job_80 rfl (Or.inl ⟨_, rfl⟩) ?_
          refine Vp_getR (pc := 81) (q := 0) (j := 1) hZ.1 fx_7_12 e_X7_job_81 rfl rfl ?_
          refine Vk_getR (pc := 84) (i := 0) (q := 1) hB rfl (by decide) rfl fx_7_110 e_X7_job_84 rfl rfl (by decide) rfl ?_
          refine V_cV0 (pc := 87) ca_7_114 e_X7_job_87 (by decide) (Nat.le_of_ble_eq_true rfl) (kb_lt hB (by decide)) ((shB hB (by decide)).trans rfl) (by decide) (c_X5_room hB hQ hR ?_)
          refine V_iconst (pc := 90) e_X7_job_90 ?_
          refine V_icmp_ge (pc := 91) e_X7_job_91 (by decide) (by omega) (by decide) (fun h91 => ?_) (fun h91 => ?_)
          · have hH : HS (dst σ d1) sv ρ := hH.ext (fun i a b => ⟨dst_o (by omega), rfl⟩)
            refine V_aload_n (pc := 97) e_X7_job_97 rfl (Or.inl ⟨_, rfl⟩) ?_
            refine Vp_getR (pc := 98) (q := 2) (j := 47) hZ.2.2.1 fx_7_22 e_X7_job_98 rfl rfl ?_
            refine V_aload_n (pc := 101) e_X7_job_101 rfl (Or.inl ⟨_, rfl⟩) ?_
            refine Vp_getR (pc := 102) (q := 0) (j := 1) hZ.1 fx_7_12 e_X7_job_102 rfl rfl ?_
            refine V_cV1 (pc := 105) ca_7_58 e_X7_job_105 (by decide) (Nat.le_of_ble_eq_true rfl) (by decide) rfl (by decide) (c_X0_keep (ρ := ρ) (s := sv) (hH.kst (by decide)) kst_MS hM hR (fun σ2 x2 y2 z2 => ?_))
            refine V_sq (σ' := kst 1 σ2 c π) (MS.eq (x2.ms (by decide) kst_MS)).symm ?_
            have hZ := x2.hz hZ
            refine V_aload_n (pc := 108) e_X7_job_108 rfl (Or.inl ⟨_, rfl⟩) ?_
            have e143 : σ2.1 143 = d1 := ((x2.1 143 (Or.inr (by decide))).1.trans (kst_o1 (b := 1) (Or.inr (by decide)))).trans dst_1
            refine Vp_getR (pc := 109) (q := 0) (j := 1) hZ.1 fx_7_12 e_X7_job_109 rfl rfl ?_
            refine Vk_getR (pc := 112) (i := 0) (q := 1) hB rfl (by decide) rfl fx_7_110 e_X7_job_112 rfl rfl (by decide) rfl ?_
            refine V_aload_n (pc := 115) e_X7_job_115 rfl (Or.inl ⟨_, rfl⟩) ?_
            refine Vp_getR (pc := 116) (q := 4) (j := 143) hZ.2.2.2.2.1 fx_7_36 e_X7_job_116 rfl rfl ?_
            refine V_cV1 (pc := 119) ca_7_120 e_X7_job_119 (by decide) (Nat.le_of_ble_eq_true rfl) (kb_lt hB (by decide)) ((shB hB (by decide)).trans rfl) (by decide) (c_X5_append hB (s := r 0) hQ.1 (by omega) (hQ.2.2.2.1.1 (r 0) (by omega) (by omega)) (by rw [e143]; omega) (by rw [e143]; omega) (by rw [e143]; omega) (fun c3 a1 a2 a3 a4 => ?_))
            refine V_ret (pc := 122) (v := some (zI _)) ⟨e_X7_job_122, _, rfl, rfl⟩ ?_
            rw [hQ.2.1]
            exact k4 (by omega) (by omega) (by omega) d1 σ2 c3 ⟨x2, y2, z2⟩ (MR_comes (by omega) (by omega) hM dr (a1.trans hQ.2.1) (fun m m1 m2 => (a2 m m1 m2).trans (congrFun e143 m)) (by rw [a3, hQ.2.1]) a4)
          · refine V_bipush (pc := 94) (by decide) e_X7_job_94 ?_
            refine V_ret (pc := 96) (v := some (zI _)) ⟨e_X7_job_96, _, rfl, rfl⟩ ?_
            exact k3 (by omega) (by omega) (by omega) d1
        · refine V_aload_n (pc := 71) e_X7_job_71 rfl (Or.inl ⟨_, rfl⟩) ?_
          refine V_iload (pc := 72) e_X7_job_72 rfl ?_
          refine V_put (pc := 74) (q := 5) fx_7_107 e_X7_job_74 rfl rfl rfl rfl rfl (by decide) rfl ?_
          refine V_bipush (pc := 77) (by decide) e_X7_job_77 ?_
          refine V_ret (pc := 79) (v := some (zI _)) ⟨e_X7_job_79, _, rfl, rfl⟩ ?_
          rw [kst_set0]
          exact k2 (by omega) (by omega) d1
      · refine V_sq (σ' := kst 1 (dst σ d1) c π) (by rw [dst_kst, dst_dst]) ?_
        refine V_if_ne (pc := 43) e_X7_job_43 (by decide) (by decide) (fun h => absurd (by decide) h) (fun _ => ?_)
        refine V_iconst (pc := 46) e_X7_job_46 ?_
        refine V_ret (pc := 47) (v := some (zI _)) ⟨e_X7_job_47, _, rfl, rfl⟩ ?_
        exact k1 (by omega) d1
    · refine V_if_ne (pc := 17) e_X7_job_17 (by decide) (by decide) (fun h => absurd (by decide) h) (fun _ => ?_)
      refine V_iconst (pc := 20) e_X7_job_20 ?_
      refine V_ret (pc := 21) (v := some (zI _)) ⟨e_X7_job_21, _, rfl, rfl⟩ ?_
      have z := k1 (by omega) (σ.1 143)
      rw [dst_id] at z
      exact z
  · refine V_if_eq (pc := 6) e_X7_job_6 (by decide) (by decide) (fun _ => ?_) (fun h => absurd (by decide) h)
    refine V_iconst (pc := 20) e_X7_job_20 ?_
    refine V_ret (pc := 21) (v := some (zI _)) ⟨e_X7_job_21, _, rfl, rfl⟩ ?_
    have z := k1 (by omega) (σ.1 143)
    rw [dst_id] at z
    exact z
