/-! texts of the class: jobs, and the first fault -/
theorem c_X2_readJob {σ : Sto} {t d : Int → Int} {L s : Int} {Q : Option Value → Sto → Prop} (hJ : σ.2.1 141 0 = some 142) (hl : 0 ≤ L ∧ L ≤ 100) (ht : ∀ k : Int, 0 ≤ k → k < L → 32 ≤ σ.1 142 k ∧ σ.1 142 k ≤ 126) (e1 : t 1 = L) (e2 : t 2 = s) (hp : 0 ≤ s ∧ s ≤ L) (k1 : tjO (σ.1 142) L s → ∀ t' d' : Int → Int, t' 1 = L → t' 2 = tjE (σ.1 142) L s → (∀ k : Int, ¬ k = 2 → t' k = t k) → DR d' (tjP (σ.1 142) L s) (tjC (σ.1 142) L s) (tjS (σ.1 142) L s) (tjK (σ.1 142) L s) (tjH (σ.1 142) L s) → Q (some (zI 1)) (xst σ t' d')) (k0 : ¬ tjO (σ.1 142) L s → ∀ t' : Int → Int, t' 1 = L → 0 ≤ t' 2 ∧ t' 2 ≤ L → (∀ k : Int, ¬ k = 2 → t' k = t k) → Q (some (zI 0)) (xst σ t' d)) : Con M_X2_readJob 150 150 (xst σ t d) [.ref 141, .ref 143] Q := by
  refine V_entry ok_X2_readJob (Nat.le_refl _) (Nat.le_of_ble_eq_true rfl) (V_ls [(0, .ref 141), (1, .ref 143)] ⟨rfl, rfl, trivial⟩ ?_)
  refine V_aload_n (pc := 0) e_X2_readJob_0 rfl (Or.inl ⟨_, rfl⟩) ?_
  refine V_ldcS (pc := 1) (j := 0) (by decide) rfl rfl e_X2_readJob_1 ?_
  refine V_cV1 (pc := 3) ca_2_71 e_X2_readJob_3 (by decide) (Nat.le_of_ble_eq_true rfl) (by decide) rfl (by decide) (c_X2_readNumber (j := 0) (by decide) hJ hl ht e1 e2 hp (fun h_3 t3 a3 b3 c3 => ?_) (fun h_3 t3 a3 b3 c3 => ?_))
  · refine V_istore_n (pc := 6) e_X2_readJob_6 (by decide) ?_
    refine V_iload_n (pc := 7) e_X2_readJob_7 rfl ?_
    refine V_iconst (pc := 8) e_X2_readJob_8 ?_
    have rn3 := dgN_rg (tx := σ.1 142) (ln := L) (s := s)
    refine V_icmp_ne (pc := 9) e_X2_readJob_9 (by decide) (by omega) (by decide) (fun h9 => ?_) (fun h9 => ?_)
    · refine V_aload_n (pc := 16) e_X2_readJob_16 rfl (Or.inl ⟨_, rfl⟩) ?_
      refine V_ldcS (pc := 17) (j := 1) (by decide) rfl rfl e_X2_readJob_17 ?_
      have j3 := jm_0.mp h_3.2
      have rg3 := dgc_rg (σ.1 142) L s
      refine V_cV1 (pc := 19) ca_2_71 e_X2_readJob_19 (by decide) (Nat.le_of_ble_eq_true rfl) (by decide) rfl (by decide) (c_X2_readNumber (j := 1) (s := (s + dgc (σ.1 142) L s + 2)) (by decide) hJ hl ht a3 (b3.trans (by rw [jl_all.1])) (by omega) (fun h_19 t19 a19 b19 c19 => ?_) (fun h_19 t19 a19 b19 c19 => ?_))
      · refine V_istore_n (pc := 22) e_X2_readJob_22 (by decide) ?_
        refine V_iload_n (pc := 23) e_X2_readJob_23 rfl ?_
        refine V_iconst (pc := 24) e_X2_readJob_24 ?_
        have rn19 := dgN_rg (tx := σ.1 142) (ln := L) (s := (s + dgc (σ.1 142) L s + 2))
        refine V_icmp_ne (pc := 25) e_X2_readJob_25 (by decide) (by omega) (by decide) (fun h25 => ?_) (fun h25 => ?_)
        · refine V_aload_n (pc := 30) e_X2_readJob_30 rfl (Or.inl ⟨_, rfl⟩) ?_
          have j19 := jm_1.mp h_19.2
          have rg19 := dgc_rg (σ.1 142) L (s + dgc (σ.1 142) L s + 2)
          refine V_cV0 (pc := 31) ca_2_77 e_X2_readJob_31 (by decide) (Nat.le_of_ble_eq_true rfl) (by decide) rfl (by decide) (c_X2_readHow (s := ((s + dgc (σ.1 142) L s + 2) + dgc (σ.1 142) L (s + dgc (σ.1 142) L s + 2) + 2)) hJ hl ht a19 (b19.trans (by rw [jl_all.2.1])) (by omega) (fun t31 a31 b31 c31 => ?_))
          refine V_istore (pc := 34) e_X2_readJob_34 (by decide) ?_
          refine V_aload_n (pc := 36) e_X2_readJob_36 rfl (Or.inl ⟨_, rfl⟩) ?_
          have hr := hwE_rg (tx := σ.1 142) (ln := L) (s := ((s + dgc (σ.1 142) L s + 2) + dgc (σ.1 142) L (s + dgc (σ.1 142) L s + 2) + 2)) (by omega) (by omega)
          refine V_cV0 (pc := 37) ca_2_80 e_X2_readJob_37 (by decide) (Nat.le_of_ble_eq_true rfl) (by decide) rfl (by decide) (c_X2_readSize (s := hwE (σ.1 142) L ((s + dgc (σ.1 142) L s + 2) + dgc (σ.1 142) L (s + dgc (σ.1 142) L s + 2) + 2)) hJ hl ht a31 b31 (by omega) (fun i i4 h_37 t37 a37 b37 c37 => ?_) (fun h_37 => ?_))
          · refine V_istore (pc := 40) e_X2_readJob_40 (by decide) ?_
            refine V_iload (pc := 42) e_X2_readJob_42 rfl ?_
            refine V_iconst (pc := 44) e_X2_readJob_44 ?_
            refine V_icmp_ne (pc := 45) e_X2_readJob_45 (by decide) (by omega) (by decide) (fun h45 => ?_) (fun h45 => ?_)
            · refine V_aload_n (pc := 52) e_X2_readJob_52 rfl (Or.inl ⟨_, rfl⟩) ?_
              have jr := jl_rg (6 + i) (by omega)
              have z37 := (h_37 (jl (6 + i) - 1) (by omega) (by omega)).1
              refine V_cV0 (pc := 53) ca_2_83 e_X2_readJob_53 (by decide) (Nat.le_of_ble_eq_true rfl) (by decide) rfl (by decide) (c_X2_readKind (s := hwE (σ.1 142) L ((s + dgc (σ.1 142) L s + 2) + dgc (σ.1 142) L (s + dgc (σ.1 142) L s + 2) + 2) + jl (6 + i)) hJ hl ht a37 b37 (by omega) (fun m m4 h_53 t53 a53 b53 c53 => ?_) (fun h_53 => ?_))
              · refine V_istore (pc := 56) e_X2_readJob_56 (by decide) ?_
                refine V_iload (pc := 58) e_X2_readJob_58 rfl ?_
                refine V_iconst (pc := 60) e_X2_readJob_60 ?_
                refine V_icmp_ne (pc := 61) e_X2_readJob_61 (by decide) (by omega) (by decide) (fun h61 => ?_) (fun h61 => ?_)
                · refine V_aload_n (pc := 66) e_X2_readJob_66 rfl (Or.inl ⟨_, rfl⟩) ?_
                  refine V_iload_n (pc := 67) e_X2_readJob_67 rfl ?_
                  refine V_iload_n (pc := 68) e_X2_readJob_68 rfl ?_
                  refine V_iload (pc := 69) e_X2_readJob_69 rfl ?_
                  refine V_iload (pc := 71) e_X2_readJob_71 rfl ?_
                  refine V_iload (pc := 73) e_X2_readJob_73 rfl ?_
                  refine V_sq (σ' := dst (xst σ t53 d) d) (by rw [xst_dst]) ?_
                  refine V_cV5 (pc := 75) ca_2_86 e_X2_readJob_75 (by decide) (Nat.le_of_ble_eq_true rfl) (by decide) rfl (by decide) (c_X1_describe ⟨dgN_rg, dgN_rg, hwV_rg _ _ _, by omega⟩ (fun d1 y => ?_))
                  refine V_sq (σ' := xst σ t53 d1) xst_dst ?_
                  refine V_iconst (pc := 78) e_X2_readJob_78 ?_
                  refine V_ret (pc := 79) (v := some (zI _)) ⟨e_X2_readJob_79, _, rfl, by decide⟩ ?_
                  obtain ⟨q1, q2, q3, q4, q5, q6, q7⟩ := cj_ok h_3 rfl h_19 rfl i4 m4 h_37 h_53
                  exact k1 q1 t53 d1 a53 (b53.trans q7.symm) (fun k hk => (c53 k hk).trans ((c37 k hk).trans ((c31 k hk).trans ((c19 k hk).trans ((c3 k hk).trans (rfl)))))) (by rw [q2, q3, q4, q5, q6]; exact y)
                · exfalso
                  omega
              · refine V_istore (pc := 56) e_X2_readJob_56 (by decide) ?_
                refine V_iload (pc := 58) e_X2_readJob_58 rfl ?_
                refine V_iconst (pc := 60) e_X2_readJob_60 ?_
                refine V_icmp_ne (pc := 61) e_X2_readJob_61 (by decide) (by decide) (by decide) (fun h => absurd (by decide) h) (fun _ => ?_)
                refine V_iconst (pc := 64) e_X2_readJob_64 ?_
                refine V_ret (pc := 65) (v := some (zI _)) ⟨e_X2_readJob_65, _, rfl, by decide⟩ ?_
                exact k0 (fun z => by
                    obtain ⟨i', m, i4', m4, u1, u2⟩ := ((cj_no z).2 _ rfl).2 _ rfl
                    obtain rfl := jm_sz1 i4 i4' h_37 u1
                    exact h_53 m m4 u2) t37 a37 (by omega) (fun k hk => (c37 k hk).trans ((c31 k hk).trans ((c19 k hk).trans ((c3 k hk).trans (rfl)))))
            · exfalso
              omega
          · refine V_istore (pc := 40) e_X2_readJob_40 (by decide) ?_
            refine V_iload (pc := 42) e_X2_readJob_42 rfl ?_
            refine V_iconst (pc := 44) e_X2_readJob_44 ?_
            refine V_icmp_ne (pc := 45) e_X2_readJob_45 (by decide) (by decide) (by decide) (fun h => absurd (by decide) h) (fun _ => ?_)
            refine V_iconst (pc := 48) e_X2_readJob_48 ?_
            refine V_goto (pc := 49) e_X2_readJob_49 (by decide) ?_
            refine V_istore (pc := 56) e_X2_readJob_56 (by decide) ?_
            refine V_iload (pc := 58) e_X2_readJob_58 rfl ?_
            refine V_iconst (pc := 60) e_X2_readJob_60 ?_
            refine V_icmp_ne (pc := 61) e_X2_readJob_61 (by decide) (by decide) (by decide) (fun h => absurd (by decide) h) (fun _ => ?_)
            refine V_iconst (pc := 64) e_X2_readJob_64 ?_
            refine V_ret (pc := 65) (v := some (zI _)) ⟨e_X2_readJob_65, _, rfl, by decide⟩ ?_
            exact k0 (fun z => by
                obtain ⟨i, m, i4, m4, u1, u2⟩ := ((cj_no z).2 _ rfl).2 _ rfl
                exact h_37 i i4 u1) t31 a31 (by omega) (fun k hk => (c31 k hk).trans ((c19 k hk).trans ((c3 k hk).trans (rfl))))
        · exfalso
          omega
      · refine V_istore_n (pc := 22) e_X2_readJob_22 (by decide) ?_
        refine V_iload_n (pc := 23) e_X2_readJob_23 rfl ?_
        refine V_iconst (pc := 24) e_X2_readJob_24 ?_
        have rn19 := dgN_rg (tx := σ.1 142) (ln := L) (s := (s + dgc (σ.1 142) L s + 2))
        refine V_icmp_ne (pc := 25) e_X2_readJob_25 (by decide) (by decide) (by decide) (fun h => absurd (by decide) h) (fun _ => ?_)
        refine V_iconst (pc := 28) e_X2_readJob_28 ?_
        refine V_ret (pc := 29) (v := some (zI _)) ⟨e_X2_readJob_29, _, rfl, by decide⟩ ?_
        exact k0 (fun z => h_19 ((cj_no z).2 _ rfl).1) t19 a19 (by omega) (fun k hk => (c19 k hk).trans ((c3 k hk).trans (rfl)))
    · exfalso
      omega
  · refine V_istore_n (pc := 6) e_X2_readJob_6 (by decide) ?_
    refine V_iload_n (pc := 7) e_X2_readJob_7 rfl ?_
    refine V_iconst (pc := 8) e_X2_readJob_8 ?_
    have rn3 := dgN_rg (tx := σ.1 142) (ln := L) (s := s)
    refine V_icmp_ne (pc := 9) e_X2_readJob_9 (by decide) (by decide) (by decide) (fun h => absurd (by decide) h) (fun _ => ?_)
    refine V_iconst (pc := 12) e_X2_readJob_12 ?_
    refine V_goto (pc := 13) e_X2_readJob_13 (by decide) ?_
    refine V_istore_n (pc := 22) e_X2_readJob_22 (by decide) ?_
    refine V_iload_n (pc := 23) e_X2_readJob_23 rfl ?_
    refine V_iconst (pc := 24) e_X2_readJob_24 ?_
    have rn19 := dgN_rg (tx := σ.1 142) (ln := L) (s := (s + dgc (σ.1 142) L s + 2))
    refine V_icmp_ne (pc := 25) e_X2_readJob_25 (by decide) (by decide) (by decide) (fun h => absurd (by decide) h) (fun _ => ?_)
    refine V_iconst (pc := 28) e_X2_readJob_28 ?_
    refine V_ret (pc := 29) (v := some (zI _)) ⟨e_X2_readJob_29, _, rfl, by decide⟩ ?_
    exact k0 (fun z => h_3 (cj_no z).1) t3 a3 (by omega) c3
theorem c_X2_reasonOfNext {σ : Sto} {t d : Int → Int} {L s : Int} {Q : Option Value → Sto → Prop} {r : Int → Int} {m l rm : Int} (hJ : σ.2.1 141 0 = some 142) (hl : 0 ≤ L ∧ L ≤ 100) (ht : ∀ k : Int, 0 ≤ k → k < L → 32 ≤ σ.1 142 k ∧ σ.1 142 k ≤ 126) (e1 : t 1 = L) (e2 : t 2 = s) (hp : 0 ≤ s ∧ s ≤ L) (e3 : t 3 = m) (h13 : r 13 = l) (r_l : 0 ≤ l ∧ l < 2147483648) (hr : rm = 10 - r 0) (r_0 : 0 ≤ r 0 ∧ r 0 ≤ 10) (r_m : 0 ≤ m ∧ m ≤ 100) (k : ∀ t' d' : Int → Int, t' 1 = L → 0 ≤ t' 2 ∧ t' 2 ≤ L → (whyJ (σ.1 142) L r s m = 0 → t' 2 = tjE (σ.1 142) L s) → (∀ k : Int, ¬ k = 2 → t' k = t k) → Q (some (zI (whyJ (σ.1 142) L r s m))) (xst σ t' d')) : Con M_X2_reasonOfNext 150 150 (xst σ t d) [.ref 141, .ref 143, zI l, zI rm] Q := by
  refine V_entry ok_X2_reasonOfNext (Nat.le_refl _) (Nat.le_of_ble_eq_true rfl) (V_ls [(0, .ref 141), (1, .ref 143), (2, zI l), (3, zI rm)] ⟨rfl, rfl, rfl, rfl, trivial⟩ ?_)
  refine V_aload_n (pc := 0) e_X2_reasonOfNext_0 rfl (Or.inl ⟨_, rfl⟩) ?_
  refine V_aload_n (pc := 1) e_X2_reasonOfNext_1 rfl (Or.inl ⟨_, rfl⟩) ?_
  refine V_cV1 (pc := 2) ca_2_55 e_X2_reasonOfNext_2 (by decide) (Nat.le_of_ble_eq_true rfl) (by decide) rfl (by decide) (c_X2_readJob hJ hl ht e1 e2 hp (fun h_2 t2 d2 a2 b2 c2 dr => ?_) (fun h_2 t2 a2 b2 c2 => ?_))
  · refine V_if_ne (pc := 5) e_X2_reasonOfNext_5 (by decide) (by decide) (fun _ => ?_) (fun h => absurd h (by decide))
    refine V_aload_n (pc := 10) e_X2_reasonOfNext_10 rfl (Or.inl ⟨_, rfl⟩) ?_
    have rg := tj_rg hp.1 h_2
    refine V_sq (σ' := dst (xst σ t2 d2) d2) (by rw [xst_dst]) ?_
    refine V_cV0 (pc := 11) ca_2_59 e_X2_reasonOfNext_11 (by decide) (Nat.le_of_ble_eq_true rfl) (by decide) rfl (by decide) (c_X1_isInRange ⟨rg.1, rg.2.1, rg.2.2.2.2.1, rg.2.2.2.1⟩ dr (fun h_11 => ?_) (fun h_11 => ?_))
    · refine V_sq (σ' := xst σ t2 d2) xst_dst ?_
      refine V_if_ne (pc := 14) e_X2_reasonOfNext_14 (by decide) (by decide) (fun _ => ?_) (fun h => absurd h (by decide))
      refine V_aload_n (pc := 19) e_X2_reasonOfNext_19 rfl (Or.inl ⟨_, rfl⟩) ?_
      refine V_iload_n (pc := 20) e_X2_reasonOfNext_20 rfl ?_
      refine V_sq (σ' := dst (xst σ t2 d2) d2) (by rw [xst_dst]) ?_
      refine V_cV1 (pc := 21) ca_2_65 e_X2_reasonOfNext_21 (by decide) (Nat.le_of_ble_eq_true rfl) (by decide) rfl (by decide) (c_X1_staplingRefusal ⟨rg.1, rg.2.1, rg.2.2.2.2.1, rg.2.2.2.1⟩ h13 r_l dr ?_)
      refine V_sq (σ' := xst σ t2 d2) xst_dst ?_
      have wb : 0 ≤ wny r (tjP (σ.1 142) L s) (tjK (σ.1 142) L s) (tjH (σ.1 142) L s) ∧ wny r (tjP (σ.1 142) L s) (tjK (σ.1 142) L s) (tjH (σ.1 142) L s) ≤ 4 := by
        unfold wny
        (repeat' split) <;> omega
      refine V_if_eq (pc := 24) e_X2_reasonOfNext_24 (by decide) (by omega) (fun h24 => ?_) (fun h24 => ?_)
      · have c3 := c2 3 (by decide)
        refine V_aload_n (pc := 29) e_X2_reasonOfNext_29 rfl (Or.inl ⟨_, rfl⟩) ?_
        refine Vj_get (pc := 30) (q := 3) fx_2_42 e_X2_reasonOfNext_30 rfl rfl ?_
        refine V_iload_n (pc := 33) e_X2_reasonOfNext_33 rfl ?_
        refine V_icmp_lt (pc := 34) e_X2_reasonOfNext_34 (by decide) (by omega) (by omega) (fun h34 => ?_) (fun h34 => ?_)
        · refine V_iconst (pc := 41) e_X2_reasonOfNext_41 ?_
          refine V_ret (pc := 42) (v := some (zI _)) ⟨e_X2_reasonOfNext_42, _, rfl, rfl⟩ ?_
          have ew : whyJ (σ.1 142) L r s m = 0 := by
            unfold whyJ
            rw [if_neg (fun z => z h_2), if_neg (fun z => z h_11), if_neg (by omega), if_neg (by omega)]
          have kk := k t2 d2 a2 (by omega) (fun _ => b2) c2
          rw [ew] at kk
          exact kk
        · refine V_iconst (pc := 37) e_X2_reasonOfNext_37 ?_
          refine V_goto (pc := 38) e_X2_reasonOfNext_38 (by decide) ?_
          refine V_ret (pc := 42) (v := some (zI _)) ⟨e_X2_reasonOfNext_42, _, rfl, rfl⟩ ?_
          have ew : whyJ (σ.1 142) L r s m = 4 := by
            unfold whyJ
            rw [if_neg (fun z => z h_2), if_neg (fun z => z h_11), if_neg (by omega), if_pos (by omega)]
          have kk := k t2 d2 a2 (by omega) (fun z => absurd z (by rw [ew]; decide)) c2
          rw [ew] at kk
          exact kk
      · refine V_iconst (pc := 27) e_X2_reasonOfNext_27 ?_
        refine V_ret (pc := 28) (v := some (zI _)) ⟨e_X2_reasonOfNext_28, _, rfl, rfl⟩ ?_
        have ew : whyJ (σ.1 142) L r s m = 3 := by
          unfold whyJ
          rw [if_neg (fun z => z h_2), if_neg (fun z => z h_11), if_pos (by omega)]
        have kk := k t2 d2 a2 (by omega) (fun z => absurd z (by rw [ew]; decide)) c2
        rw [ew] at kk
        exact kk
    · refine V_sq (σ' := xst σ t2 d2) xst_dst ?_
      refine V_if_ne (pc := 14) e_X2_reasonOfNext_14 (by decide) (by decide) (fun h => absurd (by decide) h) (fun _ => ?_)
      refine V_iconst (pc := 17) e_X2_reasonOfNext_17 ?_
      refine V_ret (pc := 18) (v := some (zI _)) ⟨e_X2_reasonOfNext_18, _, rfl, rfl⟩ ?_
      have ew : whyJ (σ.1 142) L r s m = 2 := by
        unfold whyJ
        rw [if_neg (fun z => z h_2), if_pos h_11]
      have kk := k t2 d2 a2 (by omega) (fun z => absurd z (by rw [ew]; decide)) c2
      rw [ew] at kk
      exact kk
  · refine V_if_ne (pc := 5) e_X2_reasonOfNext_5 (by decide) (by decide) (fun h => absurd (by decide) h) (fun _ => ?_)
    refine V_iconst (pc := 8) e_X2_reasonOfNext_8 ?_
    refine V_ret (pc := 9) (v := some (zI _)) ⟨e_X2_reasonOfNext_9, _, rfl, rfl⟩ ?_
    have ew : whyJ (σ.1 142) L r s m = 1 := by
      unfold whyJ
      rw [if_pos h_2]
    have kk := k t2 d a2 (by omega) (fun z => absurd z (by rw [ew]; decide)) c2
    rw [ew] at kk
    exact kk
theorem L_X2_examine_x {σ : Sto} {t d : Int → Int} {L l rm : Int} {Q : Option Value → Sto → Prop} {n : Int} (hn : 0 ≤ n ∧ n ≤ 100) (hl : 0 ≤ L ∧ L ≤ 100) {x : Int} (e1 : t 1 = L) (hp : 0 ≤ t 2 ∧ t 2 ≤ L) (e5 : t 5 = x) (hx : 0 < x ∧ x ≤ 4) (k : Q none (xst σ t d)) : V M_X2_examine 150 34 [(0, .ref 141), (1, .ref 143), (2, .ref 1), (3, zI l), (4, zI rm), (5, zI n)] [] 150 (xst σ t d) Q := by
  refine V_iload (pc := 34) e_X2_examine_34 rfl ?_
  refine V_bipush (pc := 36) (by decide) e_X2_examine_36 ?_
  refine V_icmp_ge (pc := 38) e_X2_examine_38 (by decide) (by omega) (by decide) (fun h38 => ?_) (fun h38 => ?_)
  · refine V_ret (pc := 102) (v := none) ⟨e_X2_examine_102, rfl⟩ ?_
    exact k
  · refine V_aload_n (pc := 41) e_X2_examine_41 rfl (Or.inl ⟨_, rfl⟩) ?_
    refine Vj_get (pc := 42) (q := 2) fx_2_39 e_X2_examine_42 rfl rfl ?_
    refine V_aload_n (pc := 45) e_X2_examine_45 rfl (Or.inl ⟨_, rfl⟩) ?_
    refine Vj_get (pc := 46) (q := 1) fx_2_15 e_X2_examine_46 rfl rfl ?_
    refine V_icmp_ge (pc := 49) e_X2_examine_49 (by decide) (by omega) (by omega) (fun h49 => ?_) (fun h49 => ?_)
    · refine V_ret (pc := 102) (v := none) ⟨e_X2_examine_102, rfl⟩ ?_
      exact k
    · refine V_aload_n (pc := 52) e_X2_examine_52 rfl (Or.inl ⟨_, rfl⟩) ?_
      refine Vj_get (pc := 53) (q := 5) fx_2_45 e_X2_examine_53 rfl rfl ?_
      refine V_if_ne (pc := 56) e_X2_examine_56 (by decide) (by omega) (fun h56 => ?_) (fun h56 => ?_)
      · refine V_ret (pc := 102) (v := none) ⟨e_X2_examine_102, rfl⟩ ?_
        exact k
      · exfalso
        omega
theorem L_X2_examine {σ : Sto} {r : Int → Int} {L l rm : Int} {Q : Option Value → Sto → Prop} (hJ : σ.2.1 141 0 = some 142) (hl : 0 ≤ L ∧ L ≤ 100) (ht : ∀ k : Int, 0 ≤ k → k < L → 32 ≤ σ.1 142 k ∧ σ.1 142 k ≤ 126) (h13 : r 13 = l) (r_l : 0 ≤ l ∧ l < 2147483648) (hr : rm = 10 - r 0) (r_0 : 0 ≤ r 0 ∧ r 0 ≤ 10) : ∀ (f : Nat) (t d : Int → Int) (n s m : Int), 0 ≤ n ∧ n + (f : Int) = 100 → t 1 = L → t 2 = s → 0 ≤ s ∧ s ≤ L → t 3 = m → 0 ≤ m ∧ m ≤ n → t 5 = 0 → (∀ t' d' : Int → Int, t' 1 = L → t' 5 = (hfF (σ.1 142) L r f s m).1 → (0 < (hfF (σ.1 142) L r f s m).1 → t' 4 = (hfF (σ.1 142) L r f s m).2.1) → t' 3 = (hfF (σ.1 142) L r f s m).2.2 → Q none (xst σ t' d')) → V M_X2_examine 150 34 [(0, .ref 141), (1, .ref 143), (2, .ref 1), (3, zI l), (4, zI rm), (5, zI n)] [] 150 (xst σ t d) Q := by
  intro f
  induction f with
  | zero =>
    intro t d n s m hn e1 e2 hp e3 hm e5 k
    obtain rfl : n = 100 := by omega
    refine V_iload (pc := 34) e_X2_examine_34 rfl ?_
    refine V_bipush (pc := 36) (by decide) e_X2_examine_36 ?_
    refine V_icmp_ge (pc := 38) e_X2_examine_38 (by decide) (by omega) (by decide) (fun h38 => ?_) (fun h38 => ?_)
    · refine V_ret (pc := 102) (v := none) ⟨e_X2_examine_102, rfl⟩ ?_
      exact k t d e1 e5 (fun z => absurd z (Int.lt_irrefl 0)) e3
    · exact absurd h38 (by omega)
  | succ f ih =>
    intro t d n s m hn e1 e2 hp e3 hm e5 k
    refine V_iload (pc := 34) e_X2_examine_34 rfl ?_
    refine V_bipush (pc := 36) (by decide) e_X2_examine_36 ?_
    refine V_icmp_ge (pc := 38) e_X2_examine_38 (by decide) (by omega) (by decide) (fun h38 => ?_) (fun h38 => ?_)
    · refine V_ret (pc := 102) (v := none) ⟨e_X2_examine_102, rfl⟩ ?_
      rw [hfF_e (by omega)] at k
      exact k t d e1 e5 (fun z => absurd z (Int.lt_irrefl 0)) e3
    · refine V_aload_n (pc := 41) e_X2_examine_41 rfl (Or.inl ⟨_, rfl⟩) ?_
      refine Vj_get (pc := 42) (q := 2) fx_2_39 e_X2_examine_42 rfl rfl ?_
      refine V_aload_n (pc := 45) e_X2_examine_45 rfl (Or.inl ⟨_, rfl⟩) ?_
      refine Vj_get (pc := 46) (q := 1) fx_2_15 e_X2_examine_46 rfl rfl ?_
      refine V_icmp_ge (pc := 49) e_X2_examine_49 (by decide) (by omega) (by omega) (fun h49 => ?_) (fun h49 => ?_)
      · refine V_ret (pc := 102) (v := none) ⟨e_X2_examine_102, rfl⟩ ?_
        rw [hfF_e (by omega)] at k
        exact k t d e1 e5 (fun z => absurd z (Int.lt_irrefl 0)) e3
      · refine V_aload_n (pc := 52) e_X2_examine_52 rfl (Or.inl ⟨_, rfl⟩) ?_
        refine Vj_get (pc := 53) (q := 5) fx_2_45 e_X2_examine_53 rfl rfl ?_
        refine V_if_ne (pc := 56) e_X2_examine_56 (by decide) (by omega) (fun h56 => ?_) (fun h56 => ?_)
        · refine V_ret (pc := 102) (v := none) ⟨e_X2_examine_102, rfl⟩ ?_
          exact absurd e5 h56
        · refine V_aload_n (pc := 59) e_X2_examine_59 rfl (Or.inl ⟨_, rfl⟩) ?_
          refine V_aload_n (pc := 60) e_X2_examine_60 rfl (Or.inl ⟨_, rfl⟩) ?_
          refine Vj_get (pc := 61) (q := 2) fx_2_39 e_X2_examine_61 rfl rfl ?_
          refine Vj_put (pc := 64) (q := 4) fx_2_48 e_X2_examine_64 rfl rfl rfl rfl rfl ?_
          refine V_aload_n (pc := 67) e_X2_examine_67 rfl (Or.inl ⟨_, rfl⟩) ?_
          refine V_aload_n (pc := 68) e_X2_examine_68 rfl (Or.inl ⟨_, rfl⟩) ?_
          refine V_aload_n (pc := 69) e_X2_examine_69 rfl (Or.inl ⟨_, rfl⟩) ?_
          refine V_iload_n (pc := 70) e_X2_examine_70 rfl ?_
          refine V_iload (pc := 71) e_X2_examine_71 rfl ?_
          refine V_cV3 (pc := 73) ca_2_51 e_X2_examine_73 (by decide) (Nat.le_of_ble_eq_true rfl) (by decide) rfl (by decide) (c_X2_reasonOfNext (r := r) (m := m) (s := s) hJ hl ht ((up1_ne (by decide)).trans e1) ((up1_ne (by decide)).trans e2) hp ((up1_ne (by decide)).trans e3) h13 r_l hr r_0 (by omega) (fun t2 d2 a2 p2 b2 c2 => ?_))
          refine Vj_put (pc := 76) (q := 5) fx_2_45 e_X2_examine_76 rfl rfl rfl rfl rfl ?_
          refine V_aload_n (pc := 79) e_X2_examine_79 rfl (Or.inl ⟨_, rfl⟩) ?_
          refine Vj_get (pc := 80) (q := 5) fx_2_45 e_X2_examine_80 rfl rfl ?_
          rw [up1_at]
          have wr := whyJ_rg (σ.1 142) L r s m
          refine V_if_ne (pc := 83) e_X2_examine_83 (by decide) (by omega) (fun h83 => ?_) (fun h83 => ?_)
          · refine V_iinc (pc := 96) e_X2_examine_96 rfl (by decide) ?_
            refine V_goto (pc := 99) e_X2_examine_99 (by decide) ?_
            have ef := hfF_f (tx := σ.1 142) (ln := L) (r := r) (n := f) (s := s) (m := m) (by omega) h83
            rw [ef] at k
            exact V_lq [(0, .ref 141), (1, .ref 143), (2, .ref 1), (3, zI l), (4, zI rm), (5, zI (n + 1))] ⟨⟨_, rfl, rfl⟩, ⟨_, rfl, rfl⟩, ⟨_, rfl, rfl⟩, ⟨_, rfl, rfl⟩, ⟨_, rfl, rfl⟩, ⟨_, rfl, rfl⟩, trivial⟩ (L_X2_examine_x (x := whyJ (σ.1 142) L r s m) (by omega) hl ((up1_ne (by decide)).trans a2) (by rw [up1_ne (by decide)]; exact p2) up1_at (by omega) (k _ d2 ((up1_ne (by decide)).trans a2) up1_at (fun _ => (up1_ne (by decide)).trans ((c2 4 (by decide)).trans (up1_at.trans e2))) ((up1_ne (by decide)).trans ((c2 3 (by decide)).trans ((up1_ne (by decide)).trans e3)))))
          · refine V_aload_n (pc := 86) e_X2_examine_86 rfl (Or.inl ⟨_, rfl⟩) ?_
            refine V_dup (pc := 87) e_X2_examine_87 rfl ?_
            refine Vj_get (pc := 88) (q := 3) fx_2_42 e_X2_examine_88 rfl rfl ?_
            refine V_iconst (pc := 91) e_X2_examine_91 ?_
            refine V_iadd (pc := 92) e_X2_examine_92 ?_
            refine Vj_put (pc := 93) (q := 3) fx_2_42 e_X2_examine_93 rfl rfl rfl rfl rfl ?_
            refine V_iinc (pc := 96) e_X2_examine_96 rfl (by decide) ?_
            refine V_goto (pc := 99) e_X2_examine_99 (by decide) ?_
            have w0 := whyJ_0 h83
            have tr := tj_rg hp.1 w0.1
            exact V_lq [(0, .ref 141), (1, .ref 143), (2, .ref 1), (3, zI l), (4, zI rm), (5, zI (n + 1))] ⟨⟨_, rfl, rfl⟩, ⟨_, rfl, rfl⟩, ⟨_, rfl, rfl⟩, ⟨_, rfl, rfl⟩, ⟨_, rfl, rfl⟩, ⟨_, rfl, rfl⟩, trivial⟩ (ih _ _ (n + 1) (tjE (σ.1 142) L s) (m + 1) (by omega) ((up1_ne (by decide)).trans ((up1_ne (by decide)).trans a2)) ((up1_ne (by decide)).trans ((up1_ne (by decide)).trans (b2 h83))) (by omega) (up1_at.trans (by rw [up1_ne (by decide), c2 3 (by decide), up1_ne (by decide), e3])) (by omega) ((up1_ne (by decide)).trans (up1_at.trans h83)) (by rw [← hfF_s (by omega) h83]; exact k))
theorem xst_kst {σ : Sto} {c : Nat → Int → Int} {π : Int → Nat} {t d : Int → Int} : xst (kst 1 σ c π) t d = kst 1 (xst σ t d) c π := by
  refine Prod.ext (funext fun i => ?_) rfl
  by_cases h : i = 141
  · subst h
    rw [xst_t, kst_o1 (b := 1) (by decide), xst_t]
  · by_cases g : i = 143
    · subst g
      rw [xst_d, kst_o1 (b := 1) (by decide), xst_d]
    · rw [xst_o h g]
      by_cases y : 1 ≤ i ∧ i < 24
      · obtain ⟨m, rfl⟩ := Nat.exists_eq_add_of_le y.1
        rw [kst_1 (by omega), kst_1 (by omega)]
      · rw [kst_o1 (b := 1) (by omega), kst_o1 (b := 1) (by omega), xst_o h g]
theorem c_X2_examine {σ : Sto} {c : Nat → Int → Int} {π : Int → Nat} {r : Int → Int} {Q : Option Value → Sto → Prop} {L : Int} (hM : MR c π r) (hR : RR r) (r13 : 0 ≤ r 13 ∧ r 13 < 2147483648) (hJ : σ.2.1 141 0 = some 142) (eL : σ.1 141 1 = L) (hl : 0 ≤ L ∧ L ≤ 100) (ht : ∀ k : Int, 0 ≤ k → k < L → 32 ≤ σ.1 142 k ∧ σ.1 142 k ≤ 126) (k : (∀ t' d' : Int → Int, t' 1 = L → t' 5 = (hfF (σ.1 142) L r 100 0 0).1 → (0 < (hfF (σ.1 142) L r 100 0 0).1 → t' 4 = (hfF (σ.1 142) L r 100 0 0).2.1) → t' 3 = (hfF (σ.1 142) L r 100 0 0).2.2 → Q none (kst 1 (xst σ t' d') c π))) : Con M_X2_examine 150 150 (kst 1 σ c π) [.ref 141, .ref 143, .ref 1] Q := by
  refine V_entry ok_X2_examine (Nat.le_refl _) (Nat.le_of_ble_eq_true rfl) (V_ls [(0, .ref 141), (1, .ref 143), (2, .ref 1)] ⟨rfl, rfl, rfl, trivial⟩ ?_)
  have hB : MB 1 := Or.inl rfl
  have hQ := hM.2.2.2.2
  have s13 : c 22 3 = r 13 := hM.2.2.1 3 (by decide) (by decide)
  have r0 := hR.2.1
  have k141 : (kst 1 σ c π).1 141 = σ.1 141 := kst_o1 (b := 1) (Or.inr (by decide))
  have k142 : (kst 1 σ c π).1 142 = σ.1 142 := kst_o1 (b := 1) (Or.inr (by decide))
  have hJ2 : (kst 1 σ c π).2.1 141 0 = some 142 := (congrFun (kst_o2 (b := 1) (c := c) (π := π) (Or.inr (by decide))) 0).trans hJ
  refine V_aload_n (pc := 0) e_X2_examine_0 rfl (Or.inl ⟨_, rfl⟩) ?_
  refine Vk_getR (pc := 1) (i := 0) (q := 3) hB rfl (by decide) rfl fx_2_23 e_X2_examine_1 rfl rfl (by decide) rfl ?_
  refine V_iconst (pc := 4) e_X2_examine_4 ?_
  refine Vk_ld (pc := 5) (n := 6) hB rfl (by decide) rfl (by decide) e_X2_examine_5 (by decide) ?_
  refine V_istore_n (pc := 6) e_X2_examine_6 (by decide) ?_
  refine V_aload_n (pc := 7) e_X2_examine_7 rfl (Or.inl ⟨_, rfl⟩) ?_
  refine Vk_getR (pc := 8) (i := 0) (q := 1) hB rfl (by decide) rfl fx_2_29 e_X2_examine_8 rfl rfl (by decide) rfl ?_
  refine V_cV0 (pc := 11) ca_2_33 e_X2_examine_11 (by decide) (Nat.le_of_ble_eq_true rfl) (kb_lt hB (by decide)) ((shB hB (by decide)).trans rfl) (by decide) (c_X5_room hB hQ hR ?_)
  refine V_istore (pc := 14) e_X2_examine_14 (by decide) ?_
  refine V_sq (σ' := xst (kst 1 σ c π) ((kst 1 σ c π).1 141) ((kst 1 σ c π).1 143)) xst_id.symm ?_
  refine V_aload_n (pc := 16) e_X2_examine_16 rfl (Or.inl ⟨_, rfl⟩) ?_
  refine V_iconst (pc := 17) e_X2_examine_17 ?_
  refine Vj_put (pc := 18) (q := 2) fx_2_39 e_X2_examine_18 rfl rfl rfl rfl rfl ?_
  refine V_aload_n (pc := 21) e_X2_examine_21 rfl (Or.inl ⟨_, rfl⟩) ?_
  refine V_iconst (pc := 22) e_X2_examine_22 ?_
  refine Vj_put (pc := 23) (q := 3) fx_2_42 e_X2_examine_23 rfl rfl rfl rfl rfl ?_
  refine V_aload_n (pc := 26) e_X2_examine_26 rfl (Or.inl ⟨_, rfl⟩) ?_
  refine V_iconst (pc := 27) e_X2_examine_27 ?_
  refine Vj_put (pc := 28) (q := 5) fx_2_45 e_X2_examine_28 rfl rfl rfl rfl rfl ?_
  refine V_iconst (pc := 31) e_X2_examine_31 ?_
  refine V_istore (pc := 32) e_X2_examine_32 (by decide) ?_
  exact V_lq [(0, .ref 141), (1, .ref 143), (2, .ref 1), (3, zI (c 22 3)), (4, zI (10 - r 0)), (5, zI 0)] ⟨⟨_, rfl, rfl⟩, ⟨_, rfl, rfl⟩, ⟨_, rfl, rfl⟩, ⟨_, rfl, rfl⟩, ⟨_, rfl, rfl⟩, ⟨_, rfl, rfl⟩, trivial⟩ (L_X2_examine (r := r) (l := c 22 3) (rm := 10 - r 0) (L := L) (σ := kst 1 σ c π) hJ2 hl (by rw [k142]; exact ht) s13.symm (by omega) rfl r0 100 _ _ 0 0 0 (by decide) (by simp (disch := decide) only [up1_ne]; rw [k141]; exact eL) (by simp (disch := decide) only [up1_ne, up1_at]) (by omega) (by simp (disch := decide) only [up1_ne, up1_at]) (by decide) (by simp (disch := decide) only [up1_ne, up1_at]) (by rw [k142]; intro t' d' a1 a2 a3 a4; rw [xst_kst]; exact k t' d' a1 a2 a3 a4))
