/-! texts of the class: numbers, options, sizes, kinds, jobs -/
theorem up1_up1 {f : Int → Int} {k a b : Int} : up1 (up1 f k a) k b = up1 f k b := by
  funext j
  by_cases h : j = k
  · rw [h, up1_at, up1_at]
  · rw [up1_ne h, up1_ne h, up1_ne h]
theorem hwE_rg {tx : Int → Int} {ln s : Int} (h0 : 0 ≤ s) (h : s ≤ ln) : s ≤ hwE tx ln s ∧ hwE tx ln s ≤ ln := by
  have a : s ≤ hwA tx ln s ∧ hwA tx ln s ≤ ln := by
    unfold hwA
    split
    · next q => rw [jm_2] at q; omega
    · omega
  have b : s ≤ hwB tx ln s ∧ hwB tx ln s ≤ ln := by
    unfold hwB
    split
    · next q => rw [jm_3] at q; omega
    · omega
  unfold hwE
  split
  · next q => rw [jm_4, jm_5] at q; omega
  · omega
theorem hwV_rg (tx : Int → Int) (ln s : Int) : 0 ≤ hwV tx ln s ∧ hwV tx ln s ≤ 11 := by
  unfold hwV
  (repeat' split) <;> omega
theorem c_X2_digit {σ : Sto} {t d : Int → Int} {L s : Int} {Q : Option Value → Sto → Prop} (hJ : σ.2.1 141 0 = some 142) (hl : 0 ≤ L ∧ L ≤ 100) (ht : ∀ k : Int, 0 ≤ k → k < L → 32 ≤ σ.1 142 k ∧ σ.1 142 k ≤ 126) (e1 : t 1 = L) (e2 : t 2 = s) (hp : 0 ≤ s ∧ s ≤ L) (k1 : dig (σ.1 142) L s → Q (some (zI (σ.1 142 s - 48))) (xst σ t d)) (k0 : ¬ dig (σ.1 142) L s → Q (some (zI (-1))) (xst σ t d)) : Con M_X2_digitAtPlace 150 150 (xst σ t d) [.ref 141] Q := by
  refine V_entry ok_X2_digitAtPlace (Nat.le_refl _) (Nat.le_of_ble_eq_true rfl) (V_ls [(0, .ref 141)] ⟨rfl, trivial⟩ ?_)
  subst e2
  refine V_aload_n (pc := 0) e_X2_digitAtPlace_0 rfl (Or.inl ⟨_, rfl⟩) ?_
  refine Vj_get (pc := 1) (q := 2) fx_2_39 e_X2_digitAtPlace_1 rfl rfl ?_
  refine V_if_lt (pc := 4) e_X2_digitAtPlace_4 (by decide) (by omega) (fun h4 => ?_) (fun h4 => ?_)
  · refine V_iconst (pc := 27) e_X2_digitAtPlace_27 ?_
    refine V_ret (pc := 28) (v := some (zI _)) ⟨e_X2_digitAtPlace_28, _, rfl, rfl⟩ ?_
    exact k0 (fun z => absurd z.1 (by omega))
  · refine V_aload_n (pc := 7) e_X2_digitAtPlace_7 rfl (Or.inl ⟨_, rfl⟩) ?_
    refine Vj_get (pc := 8) (q := 2) fx_2_39 e_X2_digitAtPlace_8 rfl rfl ?_
    refine V_aload_n (pc := 11) e_X2_digitAtPlace_11 rfl (Or.inl ⟨_, rfl⟩) ?_
    refine Vj_get (pc := 12) (q := 1) fx_2_15 e_X2_digitAtPlace_12 rfl rfl ?_
    refine V_icmp_ge (pc := 15) e_X2_digitAtPlace_15 (by decide) (by omega) (by omega) (fun h15 => ?_) (fun h15 => ?_)
    · refine V_iconst (pc := 27) e_X2_digitAtPlace_27 ?_
      refine V_ret (pc := 28) (v := some (zI _)) ⟨e_X2_digitAtPlace_28, _, rfl, rfl⟩ ?_
      exact k0 (fun z => absurd z.1 (by omega))
    · refine V_aload_n (pc := 18) e_X2_digitAtPlace_18 rfl (Or.inl ⟨_, rfl⟩) ?_
      refine Vj_get (pc := 19) (q := 2) fx_2_39 e_X2_digitAtPlace_19 rfl rfl ?_
      refine V_bipush (pc := 22) (by decide) e_X2_digitAtPlace_22 ?_
      refine V_icmp_lt (pc := 24) e_X2_digitAtPlace_24 (by decide) (by omega) (by decide) (fun h24 => ?_) (fun h24 => ?_)
      · have hc := ht (t 2) (by omega) (by omega)
        refine V_aload_n (pc := 29) e_X2_digitAtPlace_29 rfl (Or.inl ⟨_, rfl⟩) ?_
        refine Vj_getS (pc := 30) hJ fx_2_9 e_X2_digitAtPlace_30 ?_
        refine V_aload_n (pc := 33) e_X2_digitAtPlace_33 rfl (Or.inl ⟨_, rfl⟩) ?_
        refine Vj_get (pc := 34) (q := 2) fx_2_39 e_X2_digitAtPlace_34 rfl rfl ?_
        refine Vj_cald (pc := 37) e_X2_digitAtPlace_37 (by omega) (by omega) ?_
        refine V_bipush (pc := 38) (by decide) e_X2_digitAtPlace_38 ?_
        refine V_isub (pc := 40) e_X2_digitAtPlace_40 ?_
        refine V_istore_n (pc := 41) e_X2_digitAtPlace_41 (by decide) ?_
        refine V_iload_n (pc := 42) e_X2_digitAtPlace_42 rfl ?_
        refine V_if_lt (pc := 43) e_X2_digitAtPlace_43 (by decide) (by omega) (fun h43 => ?_) (fun h43 => ?_)
        · refine V_iconst (pc := 56) e_X2_digitAtPlace_56 ?_
          refine V_ret (pc := 57) (v := some (zI _)) ⟨e_X2_digitAtPlace_57, _, rfl, rfl⟩ ?_
          exact k0 (fun z => by
            have y := z.2
            omega)
        · refine V_iload_n (pc := 46) e_X2_digitAtPlace_46 rfl ?_
          refine V_bipush (pc := 47) (by decide) e_X2_digitAtPlace_47 ?_
          refine V_icmp_gt (pc := 49) e_X2_digitAtPlace_49 (by decide) (by omega) (by decide) (fun h49 => ?_) (fun h49 => ?_)
          · refine V_iconst (pc := 56) e_X2_digitAtPlace_56 ?_
            refine V_ret (pc := 57) (v := some (zI _)) ⟨e_X2_digitAtPlace_57, _, rfl, rfl⟩ ?_
            exact k0 (fun z => by
              have y := z.2
              omega)
          · refine V_iload_n (pc := 52) e_X2_digitAtPlace_52 rfl ?_
            refine V_goto (pc := 53) e_X2_digitAtPlace_53 (by decide) ?_
            refine V_ret (pc := 57) (v := some (zI _)) ⟨e_X2_digitAtPlace_57, _, rfl, rfl⟩ ?_
            exact k1 ⟨by omega, by omega, by omega⟩
      · refine V_iconst (pc := 27) e_X2_digitAtPlace_27 ?_
        refine V_ret (pc := 28) (v := some (zI _)) ⟨e_X2_digitAtPlace_28, _, rfl, rfl⟩ ?_
        exact k0 (fun z => absurd z.1 (by omega))
theorem T_X2_readNumber {σ : Sto} {t d : Int → Int} {L s : Int} {Q : Option Value → Sto → Prop} {j : Nat} (hj : j < 14) (hJ : σ.2.1 141 0 = some 142) (hl : 0 ≤ L ∧ L ≤ 100) (ht : ∀ k : Int, 0 ≤ k → k < L → 32 ≤ σ.1 142 k ∧ σ.1 142 k ≤ 126) (hp : 0 ≤ s ∧ s ≤ L) {g v : Int} (hg : g = dgc (σ.1 142) L s) (hv : v = dgN (σ.1 142) L s) {t2 : Int → Int} (f1 : t2 1 = L) (f2 : t2 2 = s + g) (f3 : ∀ k : Int, ¬ k = 2 → t2 k = t k) (k1 : nuC (σ.1 142) L s j → ∀ t' : Int → Int, t' 1 = L → t' 2 = s + dgc (σ.1 142) L s + jl j → (∀ k : Int, ¬ k = 2 → t' k = t k) → Q (some (zI (dgN (σ.1 142) L s))) (xst σ t' d)) (k0 : ¬ nuC (σ.1 142) L s j → ∀ t' : Int → Int, t' 1 = L → 0 ≤ t' 2 ∧ t' 2 ≤ L → (∀ k : Int, ¬ k = 2 → t' k = t k) → Q (some (zI (-1))) (xst σ t' d)) : V M_X2_readNumber 150 43 [(0, .ref 141), (1, .retAddr (4 + j)), (2, zI v), (3, zI g)] [] 150 (xst σ t2 d) Q := by
  have rg := dgc_rg (σ.1 142) L s
  subst hg
  subst hv
  have jr := jl_rg j hj
  refine V_iload_n (pc := 43) e_X2_readNumber_43 rfl ?_
  refine V_if_le (pc := 44) e_X2_readNumber_44 (by decide) (by omega) (fun h44 => ?_) (fun h44 => ?_)
  · refine V_iconst (pc := 59) e_X2_readNumber_59 ?_
    refine V_ret (pc := 60) (v := some (zI _)) ⟨e_X2_readNumber_60, _, rfl, rfl⟩ ?_
    exact k0 (fun z => absurd z.1 (by omega)) _ f1 (by omega) f3
  · refine V_aload_n (pc := 47) e_X2_readNumber_47 rfl (Or.inl ⟨_, rfl⟩) ?_
    refine V_aload_n (pc := 48) e_X2_readNumber_48 rfl (Or.inr (Or.inr ⟨_, rfl⟩)) ?_
    refine V_cV1 (pc := 49) ca_2_93 e_X2_readNumber_49 (by decide) (Nat.le_of_ble_eq_true rfl) (by decide) rfl (by decide) (c_X2_skips hj hJ hl ht f1 f2 (by omega) (fun h_sk t3 a1 a2 a3 => ?_) (fun h_sk => ?_))
    · refine V_if_eq (pc := 52) e_X2_readNumber_52 (by decide) (by decide) (fun h => absurd h (by decide)) (fun _ => ?_)
      refine V_iload_n (pc := 55) e_X2_readNumber_55 rfl ?_
      refine V_goto (pc := 56) e_X2_readNumber_56 (by decide) ?_
      refine V_ret (pc := 60) (v := some (zI _)) ⟨e_X2_readNumber_60, _, rfl, rfl⟩ ?_
      exact k1 ⟨by omega, h_sk⟩ t3 a1 a2 (fun k hk => (a3 k hk).trans (f3 k hk))
    · refine V_if_eq (pc := 52) e_X2_readNumber_52 (by decide) (by decide) (fun _ => ?_) (fun h => absurd (by decide) h)
      refine V_iconst (pc := 59) e_X2_readNumber_59 ?_
      refine V_ret (pc := 60) (v := some (zI _)) ⟨e_X2_readNumber_60, _, rfl, rfl⟩ ?_
      exact k0 (fun z => h_sk z.2) _ f1 (by omega) f3
theorem L_X2_readNumber {σ : Sto} {t d : Int → Int} {L s : Int} {Q : Option Value → Sto → Prop} {j : Nat} (hj : j < 14) (hJ : σ.2.1 141 0 = some 142) (hl : 0 ≤ L ∧ L ≤ 100) (ht : ∀ k : Int, 0 ≤ k → k < L → 32 ≤ σ.1 142 k ∧ σ.1 142 k ≤ 126) (e1 : t 1 = L) (e2 : t 2 = s) (hp : 0 ≤ s ∧ s ≤ L) (k1 : nuC (σ.1 142) L s j → ∀ t' : Int → Int, t' 1 = L → t' 2 = s + dgc (σ.1 142) L s + jl j → (∀ k : Int, ¬ k = 2 → t' k = t k) → Q (some (zI (dgN (σ.1 142) L s))) (xst σ t' d)) (k0 : ¬ nuC (σ.1 142) L s j → ∀ t' : Int → Int, t' 1 = L → 0 ≤ t' 2 ∧ t' 2 ≤ L → (∀ k : Int, ¬ k = 2 → t' k = t k) → Q (some (zI (-1))) (xst σ t' d)) : ∀ n : Nat, n ≤ 3 → (s + (n : Int) ≤ L ∧ ∀ i : Int, 0 ≤ i → i < (n : Int) → dig (σ.1 142) L (s + i)) → V M_X2_readNumber 150 4 [(0, .ref 141), (1, .retAddr (4 + j)), (2, zI (dgv (σ.1 142) s n)), (3, zI (n : Int))] [] 150 (xst σ (up1 t 2 (s + (n : Int))) d) Q := by
  refine loop_nat (3) (fun n hn ih => ?_)
  intro hv
  refine V_iload_n (pc := 4) e_X2_readNumber_4 rfl ?_
  refine V_iconst (pc := 5) e_X2_readNumber_5 ?_
  refine V_icmp_ge (pc := 6) e_X2_readNumber_6 (by decide) (by omega) (by decide) (fun h6 => ?_) (fun h6 => ?_)
  · have ec : dgc (σ.1 142) L s = (n : Int) := dgc_at (by omega) hv.2 (Or.inl (by omega))
    exact T_X2_readNumber hj hJ hl ht hp ec.symm (by unfold dgN; rw [ec, Int.toNat_natCast]) ((up1_ne (by decide)).trans e1) up1_at (fun k hk => up1_ne hk) k1 k0
  · refine V_aload_n (pc := 9) e_X2_readNumber_9 rfl (Or.inl ⟨_, rfl⟩) ?_
    refine V_cV0 (pc := 10) ca_2_90 e_X2_readNumber_10 (by decide) (Nat.le_of_ble_eq_true rfl) (by decide) rfl (by decide) (c_X2_digit (s := s + (n : Int)) hJ hl ht ((up1_ne (by decide)).trans e1) up1_at (by omega) (fun h_dg => ?_) (fun h_dg => ?_))
    · have hc := h_dg.2
      have hc0 := h_dg.1
      refine V_iconst (pc := 13) e_X2_readNumber_13 ?_
      refine V_icmp_eq (pc := 14) e_X2_readNumber_14 (by decide) (by omega) (by decide) (fun h14 => ?_) (fun h14 => ?_)
      · first
          | (exfalso; omega)
          | (have ec : dgc (σ.1 142) L s = (n : Int) := dgc_at (by omega) hv.2 (Or.inr h_dg); exact T_X2_readNumber hj hJ hl ht hp ec.symm (by unfold dgN; rw [ec, Int.toNat_natCast]) ((up1_ne (by decide)).trans e1) up1_at (fun k hk => up1_ne hk) k1 k0)
      · refine V_iload_n (pc := 17) e_X2_readNumber_17 rfl ?_
        refine V_bipush (pc := 18) (by decide) e_X2_readNumber_18 ?_
        refine V_imul (pc := 20) e_X2_readNumber_20 ?_
        refine V_aload_n (pc := 21) e_X2_readNumber_21 rfl (Or.inl ⟨_, rfl⟩) ?_
        refine V_cV0 (pc := 22) ca_2_90 e_X2_readNumber_22 (by decide) (Nat.le_of_ble_eq_true rfl) (by decide) rfl (by decide) (c_X2_digit (s := s + (n : Int)) hJ hl ht ((up1_ne (by decide)).trans e1) up1_at (by omega) (fun _ => ?_) (fun z => absurd h_dg z))
        refine V_iadd (pc := 25) e_X2_readNumber_25 ?_
        refine V_istore_n (pc := 26) e_X2_readNumber_26 (by decide) ?_
        refine V_iinc (pc := 27) e_X2_readNumber_27 rfl (by decide) ?_
        refine V_aload_n (pc := 30) e_X2_readNumber_30 rfl (Or.inl ⟨_, rfl⟩) ?_
        refine V_dup (pc := 31) e_X2_readNumber_31 rfl ?_
        refine Vj_get (pc := 32) (q := 2) fx_2_39 e_X2_readNumber_32 rfl rfl ?_
        refine V_iconst (pc := 35) e_X2_readNumber_35 ?_
        refine V_iadd (pc := 36) e_X2_readNumber_36 ?_
        refine Vj_put (pc := 37) (q := 2) fx_2_39 e_X2_readNumber_37 rfl rfl rfl rfl rfl ?_
        refine V_goto (pc := 40) e_X2_readNumber_40 (by decide) ?_
        refine V_sq (σ' := xst σ (up1 t 2 (s + ((n + 1 : Nat) : Int))) d) (by rw [up1_at, up1_up1, show s + (n : Int) + 1 = s + ((n + 1 : Nat) : Int) by omega]) ?_
        exact V_lq [(0, .ref 141), (1, .retAddr (4 + j)), (2, zI (dgv (σ.1 142) s (n + 1))), (3, zI ((n + 1 : Nat) : Int))] ⟨⟨_, rfl, rfl⟩, ⟨_, rfl, rfl⟩, ⟨_, rfl, congrArg (fun e : Int => zI e) (show _ = 10 * dgv (σ.1 142) s n + σ.1 142 (s + (n : Int)) - 48 by omega)⟩, ⟨_, rfl, congrArg (fun e : Int => zI e) (by omega)⟩, trivial⟩ (ih (by omega) ⟨by omega, fun i i0 i1 => by
            by_cases y : i = (n : Int)
            · rw [y]; exact h_dg
            · exact hv.2 i i0 (by omega)⟩)
    · refine V_iconst (pc := 13) e_X2_readNumber_13 ?_
      refine V_icmp_eq (pc := 14) e_X2_readNumber_14 (by decide) (by decide) (by decide) (fun _ => ?_) (fun h => absurd (by decide) h)
      first
        | (exfalso; omega)
        | (have ec : dgc (σ.1 142) L s = (n : Int) := dgc_at (by omega) hv.2 (Or.inr h_dg); exact T_X2_readNumber hj hJ hl ht hp ec.symm (by unfold dgN; rw [ec, Int.toNat_natCast]) ((up1_ne (by decide)).trans e1) up1_at (fun k hk => up1_ne hk) k1 k0)
theorem c_X2_readNumber {σ : Sto} {t d : Int → Int} {L s : Int} {Q : Option Value → Sto → Prop} {j : Nat} (hj : j < 14) (hJ : σ.2.1 141 0 = some 142) (hl : 0 ≤ L ∧ L ≤ 100) (ht : ∀ k : Int, 0 ≤ k → k < L → 32 ≤ σ.1 142 k ∧ σ.1 142 k ≤ 126) (e1 : t 1 = L) (e2 : t 2 = s) (hp : 0 ≤ s ∧ s ≤ L) (k1 : nuC (σ.1 142) L s j → ∀ t' : Int → Int, t' 1 = L → t' 2 = s + dgc (σ.1 142) L s + jl j → (∀ k : Int, ¬ k = 2 → t' k = t k) → Q (some (zI (dgN (σ.1 142) L s))) (xst σ t' d)) (k0 : ¬ nuC (σ.1 142) L s j → ∀ t' : Int → Int, t' 1 = L → 0 ≤ t' 2 ∧ t' 2 ≤ L → (∀ k : Int, ¬ k = 2 → t' k = t k) → Q (some (zI (-1))) (xst σ t' d)) : Con M_X2_readNumber 150 150 (xst σ t d) [.ref 141, .retAddr (4 + j)] Q := by
  refine V_entry ok_X2_readNumber (Nat.le_refl _) (Nat.le_of_ble_eq_true rfl) (V_ls [(0, .ref 141), (1, .retAddr (4 + j))] ⟨rfl, rfl, trivial⟩ ?_)
  refine V_iconst (pc := 0) e_X2_readNumber_0 ?_
  refine V_istore_n (pc := 1) e_X2_readNumber_1 (by decide) ?_
  refine V_iconst (pc := 2) e_X2_readNumber_2 ?_
  refine V_istore_n (pc := 3) e_X2_readNumber_3 (by decide) ?_
  refine V_sq (σ' := xst σ (up1 t 2 (s + ((0 : Nat) : Int))) d) (by rw [up1_id (by rw [e2]; exact Int.add_zero s)]) ?_
  exact V_lq [(0, .ref 141), (1, .retAddr (4 + j)), (2, zI (dgv (σ.1 142) s 0)), (3, zI ((0 : Nat) : Int))] ⟨⟨_, rfl, rfl⟩, ⟨_, rfl, rfl⟩, ⟨_, rfl, rfl⟩, ⟨_, rfl, rfl⟩, trivial⟩ (L_X2_readNumber hj hJ hl ht e1 e2 hp k1 k0 0 (by decide) ⟨by omega, fun i a c => absurd a (by omega)⟩)
theorem c_X2_readHow {σ : Sto} {t d : Int → Int} {L s : Int} {Q : Option Value → Sto → Prop} (hJ : σ.2.1 141 0 = some 142) (hl : 0 ≤ L ∧ L ≤ 100) (ht : ∀ k : Int, 0 ≤ k → k < L → 32 ≤ σ.1 142 k ∧ σ.1 142 k ≤ 126) (e1 : t 1 = L) (e2 : t 2 = s) (hp : 0 ≤ s ∧ s ≤ L) (k : ∀ t' : Int → Int, t' 1 = L → t' 2 = hwE (σ.1 142) L s → (∀ k : Int, ¬ k = 2 → t' k = t k) → Q (some (zI (hwV (σ.1 142) L s))) (xst σ t' d)) : Con M_X2_readHow 150 150 (xst σ t d) [.ref 141] Q := by
  refine V_entry ok_X2_readHow (Nat.le_refl _) (Nat.le_of_ble_eq_true rfl) (V_ls [(0, .ref 141)] ⟨rfl, trivial⟩ ?_)
  refine V_iconst (pc := 0) e_X2_readHow_0 ?_
  refine V_istore_n (pc := 1) e_X2_readHow_1 (by decide) ?_
  refine V_aload_n (pc := 2) e_X2_readHow_2 rfl (Or.inl ⟨_, rfl⟩) ?_
  refine V_ldcS (pc := 3) (j := 2) (by decide) rfl rfl e_X2_readHow_3 ?_
  refine V_cV1 (pc := 5) ca_2_93 e_X2_readHow_5 (by decide) (Nat.le_of_ble_eq_true rfl) (by decide) rfl (by decide) (c_X2_skips (j := 2) (s := s) (by decide) hJ hl ht e1 e2 (by omega) (fun h_5 t5 a5 y5 c5 => ?_) (fun h_5 => ?_))
  · refine V_if_eq (pc := 8) e_X2_readHow_8 (by decide) (by decide) (fun h => absurd h (by decide)) (fun _ => ?_)
    have b5 : t5 2 = s + 5 := y5.trans (by rw [show jl 2 = 5 by decide +kernel])
    have g5 := (jm_2 (tx := σ.1 142) (ln := L) (s := s)).mp h_5
    refine V_iinc (pc := 11) e_X2_readHow_11 rfl (by decide) ?_
    refine V_aload_n (pc := 14) e_X2_readHow_14 rfl (Or.inl ⟨_, rfl⟩) ?_
    refine V_ldcS (pc := 15) (j := 3) (by decide) rfl rfl e_X2_readHow_15 ?_
    refine V_cV1 (pc := 17) ca_2_93 e_X2_readHow_17 (by decide) (Nat.le_of_ble_eq_true rfl) (by decide) rfl (by decide) (c_X2_skips (j := 3) (s := s + 5) (by decide) hJ hl ht a5 b5 (by omega) (fun h_17 t17 a17 y17 c17 => ?_) (fun h_17 => ?_))
    · refine V_if_eq (pc := 20) e_X2_readHow_20 (by decide) (by decide) (fun h => absurd h (by decide)) (fun _ => ?_)
      have b17 : t17 2 = s + 5 + 7 := y17.trans (by rw [show jl 3 = 7 by decide +kernel])
      have g17 := (jm_3 (tx := σ.1 142) (ln := L) (s := s + 5)).mp h_17
      refine V_iinc (pc := 23) e_X2_readHow_23 rfl (by decide) ?_
      refine V_aload_n (pc := 26) e_X2_readHow_26 rfl (Or.inl ⟨_, rfl⟩) ?_
      refine V_ldcS (pc := 27) (j := 4) (by decide) rfl rfl e_X2_readHow_27 ?_
      refine V_cV1 (pc := 29) ca_2_93 e_X2_readHow_29 (by decide) (Nat.le_of_ble_eq_true rfl) (by decide) rfl (by decide) (c_X2_skips (j := 4) (s := s + 5 + 7) (by decide) hJ hl ht a17 b17 (by omega) (fun h_29 t29 a29 y29 c29 => ?_) (fun h_29 => ?_))
      · refine V_if_eq (pc := 32) e_X2_readHow_32 (by decide) (by decide) (fun h => absurd h (by decide)) (fun _ => ?_)
        have b29 : t29 2 = s + 5 + 7 + 8 := y29.trans (by rw [show jl 4 = 8 by decide +kernel])
        have g29 := (jm_4 (tx := σ.1 142) (ln := L) (s := s + 5 + 7)).mp h_29
        refine V_iinc (pc := 35) e_X2_readHow_35 rfl (by decide) ?_
        refine V_goto (pc := 38) e_X2_readHow_38 (by decide) ?_
        refine V_iload_n (pc := 53) e_X2_readHow_53 rfl ?_
        refine V_ret (pc := 54) (v := some (zI _)) ⟨e_X2_readHow_54, _, rfl, rfl⟩ ?_
        have eE : hwE (σ.1 142) L s = s + 5 + 7 + 8 := by
          unfold hwE hwB hwA
          simp only [h_5, h_17, h_29, if_true, if_false, or_true, true_or, or_self, or_false, false_or, reduceIte]
        have eV : hwV (σ.1 142) L s = 7 := by
          unfold hwV hwB hwA
          simp only [h_5, h_17, h_29, if_true, if_false, or_true, true_or, or_self, or_false, false_or, reduceIte]
          try decide
        have kk := k t29 a29 (by rw [eE]; exact b29) (fun k hk => (c29 k hk).trans ((c17 k hk).trans ((c5 k hk).trans (rfl))))
        rw [eV] at kk
        exact kk
      · refine V_if_eq (pc := 32) e_X2_readHow_32 (by decide) (by decide) (fun _ => ?_) (fun h => absurd (by decide) h)
        refine V_aload_n (pc := 41) e_X2_readHow_41 rfl (Or.inl ⟨_, rfl⟩) ?_
        refine V_ldcS (pc := 42) (j := 5) (by decide) rfl rfl e_X2_readHow_42 ?_
        refine V_cV1 (pc := 44) ca_2_93 e_X2_readHow_44 (by decide) (Nat.le_of_ble_eq_true rfl) (by decide) rfl (by decide) (c_X2_skips (j := 5) (s := s + 5 + 7) (by decide) hJ hl ht a17 b17 (by omega) (fun h_44 t44 a44 y44 c44 => ?_) (fun h_44 => ?_))
        · refine V_if_eq (pc := 47) e_X2_readHow_47 (by decide) (by decide) (fun h => absurd h (by decide)) (fun _ => ?_)
          have b44 : t44 2 = s + 5 + 7 + 8 := y44.trans (by rw [show jl 5 = 8 by decide +kernel])
          have g44 := (jm_5 (tx := σ.1 142) (ln := L) (s := s + 5 + 7)).mp h_44
          refine V_iinc (pc := 50) e_X2_readHow_50 rfl (by decide) ?_
          refine V_iload_n (pc := 53) e_X2_readHow_53 rfl ?_
          refine V_ret (pc := 54) (v := some (zI _)) ⟨e_X2_readHow_54, _, rfl, rfl⟩ ?_
          have eE : hwE (σ.1 142) L s = s + 5 + 7 + 8 := by
            unfold hwE hwB hwA
            simp only [h_5, h_17, h_29, h_44, if_true, if_false, or_true, true_or, or_self, or_false, false_or, reduceIte]
          have eV : hwV (σ.1 142) L s = 11 := by
            unfold hwV hwB hwA
            simp only [h_5, h_17, h_29, h_44, if_true, if_false, or_true, true_or, or_self, or_false, false_or, reduceIte]
            try decide
          have kk := k t44 a44 (by rw [eE]; exact b44) (fun k hk => (c44 k hk).trans ((c17 k hk).trans ((c5 k hk).trans (rfl))))
          rw [eV] at kk
          exact kk
        · refine V_if_eq (pc := 47) e_X2_readHow_47 (by decide) (by decide) (fun _ => ?_) (fun h => absurd (by decide) h)
          refine V_iload_n (pc := 53) e_X2_readHow_53 rfl ?_
          refine V_ret (pc := 54) (v := some (zI _)) ⟨e_X2_readHow_54, _, rfl, rfl⟩ ?_
          have eE : hwE (σ.1 142) L s = s + 5 + 7 := by
            unfold hwE hwB hwA
            simp only [h_5, h_17, h_29, h_44, if_true, if_false, or_true, true_or, or_self, or_false, false_or, reduceIte]
          have eV : hwV (σ.1 142) L s = 3 := by
            unfold hwV hwB hwA
            simp only [h_5, h_17, h_29, h_44, if_true, if_false, or_true, true_or, or_self, or_false, false_or, reduceIte]
            try decide
          have kk := k t17 a17 (by rw [eE]; exact b17) (fun k hk => (c17 k hk).trans ((c5 k hk).trans (rfl)))
          rw [eV] at kk
          exact kk
    · refine V_if_eq (pc := 20) e_X2_readHow_20 (by decide) (by decide) (fun _ => ?_) (fun h => absurd (by decide) h)
      refine V_aload_n (pc := 26) e_X2_readHow_26 rfl (Or.inl ⟨_, rfl⟩) ?_
      refine V_ldcS (pc := 27) (j := 4) (by decide) rfl rfl e_X2_readHow_27 ?_
      refine V_cV1 (pc := 29) ca_2_93 e_X2_readHow_29 (by decide) (Nat.le_of_ble_eq_true rfl) (by decide) rfl (by decide) (c_X2_skips (j := 4) (s := s + 5) (by decide) hJ hl ht a5 b5 (by omega) (fun h_29 t29 a29 y29 c29 => ?_) (fun h_29 => ?_))
      · refine V_if_eq (pc := 32) e_X2_readHow_32 (by decide) (by decide) (fun h => absurd h (by decide)) (fun _ => ?_)
        have b29 : t29 2 = s + 5 + 8 := y29.trans (by rw [show jl 4 = 8 by decide +kernel])
        have g29 := (jm_4 (tx := σ.1 142) (ln := L) (s := s + 5)).mp h_29
        refine V_iinc (pc := 35) e_X2_readHow_35 rfl (by decide) ?_
        refine V_goto (pc := 38) e_X2_readHow_38 (by decide) ?_
        refine V_iload_n (pc := 53) e_X2_readHow_53 rfl ?_
        refine V_ret (pc := 54) (v := some (zI _)) ⟨e_X2_readHow_54, _, rfl, rfl⟩ ?_
        have eE : hwE (σ.1 142) L s = s + 5 + 8 := by
          unfold hwE hwB hwA
          simp only [h_5, h_17, h_29, if_true, if_false, or_true, true_or, or_self, or_false, false_or, reduceIte]
        have eV : hwV (σ.1 142) L s = 5 := by
          unfold hwV hwB hwA
          simp only [h_5, h_17, h_29, if_true, if_false, or_true, true_or, or_self, or_false, false_or, reduceIte]
          try decide
        have kk := k t29 a29 (by rw [eE]; exact b29) (fun k hk => (c29 k hk).trans ((c5 k hk).trans (rfl)))
        rw [eV] at kk
        exact kk
      · refine V_if_eq (pc := 32) e_X2_readHow_32 (by decide) (by decide) (fun _ => ?_) (fun h => absurd (by decide) h)
        refine V_aload_n (pc := 41) e_X2_readHow_41 rfl (Or.inl ⟨_, rfl⟩) ?_
        refine V_ldcS (pc := 42) (j := 5) (by decide) rfl rfl e_X2_readHow_42 ?_
        refine V_cV1 (pc := 44) ca_2_93 e_X2_readHow_44 (by decide) (Nat.le_of_ble_eq_true rfl) (by decide) rfl (by decide) (c_X2_skips (j := 5) (s := s + 5) (by decide) hJ hl ht a5 b5 (by omega) (fun h_44 t44 a44 y44 c44 => ?_) (fun h_44 => ?_))
        · refine V_if_eq (pc := 47) e_X2_readHow_47 (by decide) (by decide) (fun h => absurd h (by decide)) (fun _ => ?_)
          have b44 : t44 2 = s + 5 + 8 := y44.trans (by rw [show jl 5 = 8 by decide +kernel])
          have g44 := (jm_5 (tx := σ.1 142) (ln := L) (s := s + 5)).mp h_44
          refine V_iinc (pc := 50) e_X2_readHow_50 rfl (by decide) ?_
          refine V_iload_n (pc := 53) e_X2_readHow_53 rfl ?_
          refine V_ret (pc := 54) (v := some (zI _)) ⟨e_X2_readHow_54, _, rfl, rfl⟩ ?_
          have eE : hwE (σ.1 142) L s = s + 5 + 8 := by
            unfold hwE hwB hwA
            simp only [h_5, h_17, h_29, h_44, if_true, if_false, or_true, true_or, or_self, or_false, false_or, reduceIte]
          have eV : hwV (σ.1 142) L s = 9 := by
            unfold hwV hwB hwA
            simp only [h_5, h_17, h_29, h_44, if_true, if_false, or_true, true_or, or_self, or_false, false_or, reduceIte]
            try decide
          have kk := k t44 a44 (by rw [eE]; exact b44) (fun k hk => (c44 k hk).trans ((c5 k hk).trans (rfl)))
          rw [eV] at kk
          exact kk
        · refine V_if_eq (pc := 47) e_X2_readHow_47 (by decide) (by decide) (fun _ => ?_) (fun h => absurd (by decide) h)
          refine V_iload_n (pc := 53) e_X2_readHow_53 rfl ?_
          refine V_ret (pc := 54) (v := some (zI _)) ⟨e_X2_readHow_54, _, rfl, rfl⟩ ?_
          have eE : hwE (σ.1 142) L s = s + 5 := by
            unfold hwE hwB hwA
            simp only [h_5, h_17, h_29, h_44, if_true, if_false, or_true, true_or, or_self, or_false, false_or, reduceIte]
          have eV : hwV (σ.1 142) L s = 1 := by
            unfold hwV hwB hwA
            simp only [h_5, h_17, h_29, h_44, if_true, if_false, or_true, true_or, or_self, or_false, false_or, reduceIte]
            try decide
          have kk := k t5 a5 (by rw [eE]; exact b5) (fun k hk => (c5 k hk).trans (rfl))
          rw [eV] at kk
          exact kk
  · refine V_if_eq (pc := 8) e_X2_readHow_8 (by decide) (by decide) (fun _ => ?_) (fun h => absurd (by decide) h)
    refine V_aload_n (pc := 14) e_X2_readHow_14 rfl (Or.inl ⟨_, rfl⟩) ?_
    refine V_ldcS (pc := 15) (j := 3) (by decide) rfl rfl e_X2_readHow_15 ?_
    refine V_cV1 (pc := 17) ca_2_93 e_X2_readHow_17 (by decide) (Nat.le_of_ble_eq_true rfl) (by decide) rfl (by decide) (c_X2_skips (j := 3) (s := s) (by decide) hJ hl ht e1 e2 (by omega) (fun h_17 t17 a17 y17 c17 => ?_) (fun h_17 => ?_))
    · refine V_if_eq (pc := 20) e_X2_readHow_20 (by decide) (by decide) (fun h => absurd h (by decide)) (fun _ => ?_)
      have b17 : t17 2 = s + 7 := y17.trans (by rw [show jl 3 = 7 by decide +kernel])
      have g17 := (jm_3 (tx := σ.1 142) (ln := L) (s := s)).mp h_17
      refine V_iinc (pc := 23) e_X2_readHow_23 rfl (by decide) ?_
      refine V_aload_n (pc := 26) e_X2_readHow_26 rfl (Or.inl ⟨_, rfl⟩) ?_
      refine V_ldcS (pc := 27) (j := 4) (by decide) rfl rfl e_X2_readHow_27 ?_
      refine V_cV1 (pc := 29) ca_2_93 e_X2_readHow_29 (by decide) (Nat.le_of_ble_eq_true rfl) (by decide) rfl (by decide) (c_X2_skips (j := 4) (s := s + 7) (by decide) hJ hl ht a17 b17 (by omega) (fun h_29 t29 a29 y29 c29 => ?_) (fun h_29 => ?_))
      · refine V_if_eq (pc := 32) e_X2_readHow_32 (by decide) (by decide) (fun h => absurd h (by decide)) (fun _ => ?_)
        have b29 : t29 2 = s + 7 + 8 := y29.trans (by rw [show jl 4 = 8 by decide +kernel])
        have g29 := (jm_4 (tx := σ.1 142) (ln := L) (s := s + 7)).mp h_29
        refine V_iinc (pc := 35) e_X2_readHow_35 rfl (by decide) ?_
        refine V_goto (pc := 38) e_X2_readHow_38 (by decide) ?_
        refine V_iload_n (pc := 53) e_X2_readHow_53 rfl ?_
        refine V_ret (pc := 54) (v := some (zI _)) ⟨e_X2_readHow_54, _, rfl, rfl⟩ ?_
        have eE : hwE (σ.1 142) L s = s + 7 + 8 := by
          unfold hwE hwB hwA
          simp only [h_5, h_17, h_29, if_true, if_false, or_true, true_or, or_self, or_false, false_or, reduceIte]
        have eV : hwV (σ.1 142) L s = 6 := by
          unfold hwV hwB hwA
          simp only [h_5, h_17, h_29, if_true, if_false, or_true, true_or, or_self, or_false, false_or, reduceIte]
          try decide
        have kk := k t29 a29 (by rw [eE]; exact b29) (fun k hk => (c29 k hk).trans ((c17 k hk).trans (rfl)))
        rw [eV] at kk
        exact kk
      · refine V_if_eq (pc := 32) e_X2_readHow_32 (by decide) (by decide) (fun _ => ?_) (fun h => absurd (by decide) h)
        refine V_aload_n (pc := 41) e_X2_readHow_41 rfl (Or.inl ⟨_, rfl⟩) ?_
        refine V_ldcS (pc := 42) (j := 5) (by decide) rfl rfl e_X2_readHow_42 ?_
        refine V_cV1 (pc := 44) ca_2_93 e_X2_readHow_44 (by decide) (Nat.le_of_ble_eq_true rfl) (by decide) rfl (by decide) (c_X2_skips (j := 5) (s := s + 7) (by decide) hJ hl ht a17 b17 (by omega) (fun h_44 t44 a44 y44 c44 => ?_) (fun h_44 => ?_))
        · refine V_if_eq (pc := 47) e_X2_readHow_47 (by decide) (by decide) (fun h => absurd h (by decide)) (fun _ => ?_)
          have b44 : t44 2 = s + 7 + 8 := y44.trans (by rw [show jl 5 = 8 by decide +kernel])
          have g44 := (jm_5 (tx := σ.1 142) (ln := L) (s := s + 7)).mp h_44
          refine V_iinc (pc := 50) e_X2_readHow_50 rfl (by decide) ?_
          refine V_iload_n (pc := 53) e_X2_readHow_53 rfl ?_
          refine V_ret (pc := 54) (v := some (zI _)) ⟨e_X2_readHow_54, _, rfl, rfl⟩ ?_
          have eE : hwE (σ.1 142) L s = s + 7 + 8 := by
            unfold hwE hwB hwA
            simp only [h_5, h_17, h_29, h_44, if_true, if_false, or_true, true_or, or_self, or_false, false_or, reduceIte]
          have eV : hwV (σ.1 142) L s = 10 := by
            unfold hwV hwB hwA
            simp only [h_5, h_17, h_29, h_44, if_true, if_false, or_true, true_or, or_self, or_false, false_or, reduceIte]
            try decide
          have kk := k t44 a44 (by rw [eE]; exact b44) (fun k hk => (c44 k hk).trans ((c17 k hk).trans (rfl)))
          rw [eV] at kk
          exact kk
        · refine V_if_eq (pc := 47) e_X2_readHow_47 (by decide) (by decide) (fun _ => ?_) (fun h => absurd (by decide) h)
          refine V_iload_n (pc := 53) e_X2_readHow_53 rfl ?_
          refine V_ret (pc := 54) (v := some (zI _)) ⟨e_X2_readHow_54, _, rfl, rfl⟩ ?_
          have eE : hwE (σ.1 142) L s = s + 7 := by
            unfold hwE hwB hwA
            simp only [h_5, h_17, h_29, h_44, if_true, if_false, or_true, true_or, or_self, or_false, false_or, reduceIte]
          have eV : hwV (σ.1 142) L s = 2 := by
            unfold hwV hwB hwA
            simp only [h_5, h_17, h_29, h_44, if_true, if_false, or_true, true_or, or_self, or_false, false_or, reduceIte]
            try decide
          have kk := k t17 a17 (by rw [eE]; exact b17) (fun k hk => (c17 k hk).trans (rfl))
          rw [eV] at kk
          exact kk
    · refine V_if_eq (pc := 20) e_X2_readHow_20 (by decide) (by decide) (fun _ => ?_) (fun h => absurd (by decide) h)
      refine V_aload_n (pc := 26) e_X2_readHow_26 rfl (Or.inl ⟨_, rfl⟩) ?_
      refine V_ldcS (pc := 27) (j := 4) (by decide) rfl rfl e_X2_readHow_27 ?_
      refine V_cV1 (pc := 29) ca_2_93 e_X2_readHow_29 (by decide) (Nat.le_of_ble_eq_true rfl) (by decide) rfl (by decide) (c_X2_skips (j := 4) (s := s) (by decide) hJ hl ht e1 e2 (by omega) (fun h_29 t29 a29 y29 c29 => ?_) (fun h_29 => ?_))
      · refine V_if_eq (pc := 32) e_X2_readHow_32 (by decide) (by decide) (fun h => absurd h (by decide)) (fun _ => ?_)
        have b29 : t29 2 = s + 8 := y29.trans (by rw [show jl 4 = 8 by decide +kernel])
        have g29 := (jm_4 (tx := σ.1 142) (ln := L) (s := s)).mp h_29
        refine V_iinc (pc := 35) e_X2_readHow_35 rfl (by decide) ?_
        refine V_goto (pc := 38) e_X2_readHow_38 (by decide) ?_
        refine V_iload_n (pc := 53) e_X2_readHow_53 rfl ?_
        refine V_ret (pc := 54) (v := some (zI _)) ⟨e_X2_readHow_54, _, rfl, rfl⟩ ?_
        have eE : hwE (σ.1 142) L s = s + 8 := by
          unfold hwE hwB hwA
          simp only [h_5, h_17, h_29, if_true, if_false, or_true, true_or, or_self, or_false, false_or, reduceIte]
        have eV : hwV (σ.1 142) L s = 4 := by
          unfold hwV hwB hwA
          simp only [h_5, h_17, h_29, if_true, if_false, or_true, true_or, or_self, or_false, false_or, reduceIte]
          try decide
        have kk := k t29 a29 (by rw [eE]; exact b29) (fun k hk => (c29 k hk).trans (rfl))
        rw [eV] at kk
        exact kk
      · refine V_if_eq (pc := 32) e_X2_readHow_32 (by decide) (by decide) (fun _ => ?_) (fun h => absurd (by decide) h)
        refine V_aload_n (pc := 41) e_X2_readHow_41 rfl (Or.inl ⟨_, rfl⟩) ?_
        refine V_ldcS (pc := 42) (j := 5) (by decide) rfl rfl e_X2_readHow_42 ?_
        refine V_cV1 (pc := 44) ca_2_93 e_X2_readHow_44 (by decide) (Nat.le_of_ble_eq_true rfl) (by decide) rfl (by decide) (c_X2_skips (j := 5) (s := s) (by decide) hJ hl ht e1 e2 (by omega) (fun h_44 t44 a44 y44 c44 => ?_) (fun h_44 => ?_))
        · refine V_if_eq (pc := 47) e_X2_readHow_47 (by decide) (by decide) (fun h => absurd h (by decide)) (fun _ => ?_)
          have b44 : t44 2 = s + 8 := y44.trans (by rw [show jl 5 = 8 by decide +kernel])
          have g44 := (jm_5 (tx := σ.1 142) (ln := L) (s := s)).mp h_44
          refine V_iinc (pc := 50) e_X2_readHow_50 rfl (by decide) ?_
          refine V_iload_n (pc := 53) e_X2_readHow_53 rfl ?_
          refine V_ret (pc := 54) (v := some (zI _)) ⟨e_X2_readHow_54, _, rfl, rfl⟩ ?_
          have eE : hwE (σ.1 142) L s = s + 8 := by
            unfold hwE hwB hwA
            simp only [h_5, h_17, h_29, h_44, if_true, if_false, or_true, true_or, or_self, or_false, false_or, reduceIte]
          have eV : hwV (σ.1 142) L s = 8 := by
            unfold hwV hwB hwA
            simp only [h_5, h_17, h_29, h_44, if_true, if_false, or_true, true_or, or_self, or_false, false_or, reduceIte]
            try decide
          have kk := k t44 a44 (by rw [eE]; exact b44) (fun k hk => (c44 k hk).trans (rfl))
          rw [eV] at kk
          exact kk
        · refine V_if_eq (pc := 47) e_X2_readHow_47 (by decide) (by decide) (fun _ => ?_) (fun h => absurd (by decide) h)
          refine V_iload_n (pc := 53) e_X2_readHow_53 rfl ?_
          refine V_ret (pc := 54) (v := some (zI _)) ⟨e_X2_readHow_54, _, rfl, rfl⟩ ?_
          have eE : hwE (σ.1 142) L s = s := by
            unfold hwE hwB hwA
            simp only [h_5, h_17, h_29, h_44, if_true, if_false, or_true, true_or, or_self, or_false, false_or, reduceIte]
          have eV : hwV (σ.1 142) L s = 0 := by
            unfold hwV hwB hwA
            simp only [h_5, h_17, h_29, h_44, if_true, if_false, or_true, true_or, or_self, or_false, false_or, reduceIte]
            try decide
          have kk := k t e1 (by rw [eE]; exact e2) (fun k hk => rfl)
          rw [eV] at kk
          exact kk
theorem L_X2_readSize {σ : Sto} {t d : Int → Int} {L s : Int} {Q : Option Value → Sto → Prop} (hJ : σ.2.1 141 0 = some 142) (hl : 0 ≤ L ∧ L ≤ 100) (ht : ∀ k : Int, 0 ≤ k → k < L → 32 ≤ σ.1 142 k ∧ σ.1 142 k ≤ 126) (e1 : t 1 = L) (e2 : t 2 = s) (hp : 0 ≤ s ∧ s ≤ L) (k1 : ∀ i : Nat, i < 4 → jm (σ.1 142) L s (6 + i) → ∀ t' : Int → Int, t' 1 = L → t' 2 = s + jl (6 + i) → (∀ k : Int, ¬ k = 2 → t' k = t k) → Q (some (zI (i : Int))) (xst σ t' d)) (k0 : (∀ i : Nat, i < 4 → ¬ jm (σ.1 142) L s (6 + i)) → Q (some (zI (-1))) (xst σ t d)) : ∀ n : Nat, n ≤ 4 → (∀ i : Nat, i < n → ¬ jm (σ.1 142) L s (6 + i)) → V M_X2_readSize 150 2 [(0, .ref 141), (1, zI (n : Int))] [] 150 (xst σ t d) Q := by
  refine loop_nat (4) (fun n hn ih => ?_)
  intro hv
  refine V_iload_n (pc := 2) e_X2_readSize_2 rfl ?_
  refine V_iconst (pc := 3) e_X2_readSize_3 ?_
  refine V_icmp_ge (pc := 4) e_X2_readSize_4 (by decide) (by omega) (by decide) (fun h4 => ?_) (fun h4 => ?_)
  · refine V_iconst (pc := 26) e_X2_readSize_26 ?_
    refine V_ret (pc := 27) (v := some (zI _)) ⟨e_X2_readSize_27, _, rfl, rfl⟩ ?_
    exact k0 (fun i hi => hv i (by omega))
  · refine V_aload_n (pc := 7) e_X2_readSize_7 rfl (Or.inl ⟨_, rfl⟩) ?_
    refine V_iload_n (pc := 8) e_X2_readSize_8 rfl ?_
    refine V_cS1 (pc := 9) ca_2_105 e_X2_readSize_9 (by decide) (Nat.le_of_ble_eq_true rfl) (c_X2_sizeWord (by omega) (fun m h_m => ?_))
    obtain rfl : m = 6 + n := by omega
    refine V_cV1 (pc := 12) ca_2_93 e_X2_readSize_12 (by decide) (Nat.le_of_ble_eq_true rfl) (by decide) rfl (by decide) (c_X2_skips (j := 6 + n) (by omega) hJ hl ht e1 e2 hp (fun h_sk t1 a1 b1 c1 => ?_) (fun h_sk => ?_))
    · refine V_if_eq (pc := 15) e_X2_readSize_15 (by decide) (by decide) (fun h => absurd h (by decide)) (fun _ => ?_)
      refine V_iload_n (pc := 18) e_X2_readSize_18 rfl ?_
      refine V_ret (pc := 19) (v := some (zI _)) ⟨e_X2_readSize_19, _, rfl, rfl⟩ ?_
      exact k1 n (by omega) h_sk t1 a1 b1 c1
    · refine V_if_eq (pc := 15) e_X2_readSize_15 (by decide) (by decide) (fun _ => ?_) (fun h => absurd (by decide) h)
      refine V_iinc (pc := 20) e_X2_readSize_20 rfl (by decide) ?_
      refine V_goto (pc := 23) e_X2_readSize_23 (by decide) ?_
      exact V_lq [(0, .ref 141), (1, zI ((n + 1 : Nat) : Int))] ⟨⟨_, rfl, rfl⟩, ⟨_, rfl, congrArg (fun e : Int => zI e) (by omega)⟩, trivial⟩ (ih (by omega) (fun i hi => by
          by_cases y : i = n
          · rw [y]; exact h_sk
          · exact hv i (by omega)))
theorem c_X2_readSize {σ : Sto} {t d : Int → Int} {L s : Int} {Q : Option Value → Sto → Prop} (hJ : σ.2.1 141 0 = some 142) (hl : 0 ≤ L ∧ L ≤ 100) (ht : ∀ k : Int, 0 ≤ k → k < L → 32 ≤ σ.1 142 k ∧ σ.1 142 k ≤ 126) (e1 : t 1 = L) (e2 : t 2 = s) (hp : 0 ≤ s ∧ s ≤ L) (k1 : ∀ i : Nat, i < 4 → jm (σ.1 142) L s (6 + i) → ∀ t' : Int → Int, t' 1 = L → t' 2 = s + jl (6 + i) → (∀ k : Int, ¬ k = 2 → t' k = t k) → Q (some (zI (i : Int))) (xst σ t' d)) (k0 : (∀ i : Nat, i < 4 → ¬ jm (σ.1 142) L s (6 + i)) → Q (some (zI (-1))) (xst σ t d)) : Con M_X2_readSize 150 150 (xst σ t d) [.ref 141] Q := by
  refine V_entry ok_X2_readSize (Nat.le_refl _) (Nat.le_of_ble_eq_true rfl) (V_ls [(0, .ref 141)] ⟨rfl, trivial⟩ ?_)
  refine V_iconst (pc := 0) e_X2_readSize_0 ?_
  refine V_istore_n (pc := 1) e_X2_readSize_1 (by decide) ?_
  exact V_lq [(0, .ref 141), (1, zI ((0 : Nat) : Int))] ⟨⟨_, rfl, rfl⟩, ⟨_, rfl, rfl⟩, trivial⟩ (L_X2_readSize hJ hl ht e1 e2 hp k1 k0 0 (by decide) (fun i hi => absurd hi (by omega)))
theorem L_X2_readKind {σ : Sto} {t d : Int → Int} {L s : Int} {Q : Option Value → Sto → Prop} (hJ : σ.2.1 141 0 = some 142) (hl : 0 ≤ L ∧ L ≤ 100) (ht : ∀ k : Int, 0 ≤ k → k < L → 32 ≤ σ.1 142 k ∧ σ.1 142 k ≤ 126) (e1 : t 1 = L) (e2 : t 2 = s) (hp : 0 ≤ s ∧ s ≤ L) (k1 : ∀ i : Nat, i < 4 → jm (σ.1 142) L s (10 + i) → ∀ t' : Int → Int, t' 1 = L → t' 2 = s + jl (10 + i) → (∀ k : Int, ¬ k = 2 → t' k = t k) → Q (some (zI (i : Int))) (xst σ t' d)) (k0 : (∀ i : Nat, i < 4 → ¬ jm (σ.1 142) L s (10 + i)) → Q (some (zI (-1))) (xst σ t d)) : ∀ n : Nat, n ≤ 4 → (∀ i : Nat, i < n → ¬ jm (σ.1 142) L s (10 + i)) → V M_X2_readKind 150 2 [(0, .ref 141), (1, zI (n : Int))] [] 150 (xst σ t d) Q := by
  refine loop_nat (4) (fun n hn ih => ?_)
  intro hv
  refine V_iload_n (pc := 2) e_X2_readKind_2 rfl ?_
  refine V_iconst (pc := 3) e_X2_readKind_3 ?_
  refine V_icmp_ge (pc := 4) e_X2_readKind_4 (by decide) (by omega) (by decide) (fun h4 => ?_) (fun h4 => ?_)
  · refine V_iconst (pc := 26) e_X2_readKind_26 ?_
    refine V_ret (pc := 27) (v := some (zI _)) ⟨e_X2_readKind_27, _, rfl, rfl⟩ ?_
    exact k0 (fun i hi => hv i (by omega))
  · refine V_aload_n (pc := 7) e_X2_readKind_7 rfl (Or.inl ⟨_, rfl⟩) ?_
    refine V_iload_n (pc := 8) e_X2_readKind_8 rfl ?_
    refine V_cS1 (pc := 9) ca_2_109 e_X2_readKind_9 (by decide) (Nat.le_of_ble_eq_true rfl) (c_X2_kindWord (by omega) (fun m h_m => ?_))
    obtain rfl : m = 10 + n := by omega
    refine V_cV1 (pc := 12) ca_2_93 e_X2_readKind_12 (by decide) (Nat.le_of_ble_eq_true rfl) (by decide) rfl (by decide) (c_X2_skips (j := 10 + n) (by omega) hJ hl ht e1 e2 hp (fun h_sk t1 a1 b1 c1 => ?_) (fun h_sk => ?_))
    · refine V_if_eq (pc := 15) e_X2_readKind_15 (by decide) (by decide) (fun h => absurd h (by decide)) (fun _ => ?_)
      refine V_iload_n (pc := 18) e_X2_readKind_18 rfl ?_
      refine V_ret (pc := 19) (v := some (zI _)) ⟨e_X2_readKind_19, _, rfl, rfl⟩ ?_
      exact k1 n (by omega) h_sk t1 a1 b1 c1
    · refine V_if_eq (pc := 15) e_X2_readKind_15 (by decide) (by decide) (fun _ => ?_) (fun h => absurd (by decide) h)
      refine V_iinc (pc := 20) e_X2_readKind_20 rfl (by decide) ?_
      refine V_goto (pc := 23) e_X2_readKind_23 (by decide) ?_
      exact V_lq [(0, .ref 141), (1, zI ((n + 1 : Nat) : Int))] ⟨⟨_, rfl, rfl⟩, ⟨_, rfl, congrArg (fun e : Int => zI e) (by omega)⟩, trivial⟩ (ih (by omega) (fun i hi => by
          by_cases y : i = n
          · rw [y]; exact h_sk
          · exact hv i (by omega)))
theorem c_X2_readKind {σ : Sto} {t d : Int → Int} {L s : Int} {Q : Option Value → Sto → Prop} (hJ : σ.2.1 141 0 = some 142) (hl : 0 ≤ L ∧ L ≤ 100) (ht : ∀ k : Int, 0 ≤ k → k < L → 32 ≤ σ.1 142 k ∧ σ.1 142 k ≤ 126) (e1 : t 1 = L) (e2 : t 2 = s) (hp : 0 ≤ s ∧ s ≤ L) (k1 : ∀ i : Nat, i < 4 → jm (σ.1 142) L s (10 + i) → ∀ t' : Int → Int, t' 1 = L → t' 2 = s + jl (10 + i) → (∀ k : Int, ¬ k = 2 → t' k = t k) → Q (some (zI (i : Int))) (xst σ t' d)) (k0 : (∀ i : Nat, i < 4 → ¬ jm (σ.1 142) L s (10 + i)) → Q (some (zI (-1))) (xst σ t d)) : Con M_X2_readKind 150 150 (xst σ t d) [.ref 141] Q := by
  refine V_entry ok_X2_readKind (Nat.le_refl _) (Nat.le_of_ble_eq_true rfl) (V_ls [(0, .ref 141)] ⟨rfl, trivial⟩ ?_)
  refine V_iconst (pc := 0) e_X2_readKind_0 ?_
  refine V_istore_n (pc := 1) e_X2_readKind_1 (by decide) ?_
  exact V_lq [(0, .ref 141), (1, zI ((0 : Nat) : Int))] ⟨⟨_, rfl, rfl⟩, ⟨_, rfl, rfl⟩, trivial⟩ (L_X2_readKind hJ hl ht e1 e2 hp k1 k0 0 (by decide) (fun i hi => absurd hi (by omega)))
