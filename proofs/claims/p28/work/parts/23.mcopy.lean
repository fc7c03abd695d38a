/-! the class: a machine copied -/
theorem L_X5_copyFrom {σ : Sto} {b b2 : Nat} {c c2 : Nat → Int → Int} {π π2 : Int → Nat} {Q : Option Value → Sto → Prop} (hB : MB b) (hB2 : MB b2) (hne : ¬ b = b2) (hP : PI π) (hP2 : PI π2) (hs : 0 ≤ c2 5 1 ∧ c2 5 1 ≤ 10) (hz : ∀ j : Int, 0 ≤ j → j < c2 5 1 → (c2 (π2 j) 6 = 0 ∨ c2 (π2 j) 6 = 1) ∧ (c2 (π2 j) 7 = 0 ∨ c2 (π2 j) 7 = 1) ∧ (c2 (π2 j) 12 = 0 ∨ c2 (π2 j) 12 = 1)) (k : ∀ c' : Nat → Int → Int, (∀ j : Int, 0 ≤ j → j < c2 5 1 → ∀ m : Int, 0 ≤ m → m < 15 → c' (π j) m = c2 (π2 j) m) → (c' 5 1 = c2 5 1 ∧ c' 5 2 = c2 5 2 ∧ c' 5 3 = c2 5 3) → (∀ a : Nat, ¬ a = 5 → ¬ (7 ≤ a ∧ a ≤ 16) → c' a = c a) → Q none (kst b (kst b2 σ c2 π2) c' π)) : ∀ n : Nat, n ≤ (c2 5 1).toNat → ∀ cn : Nat → Int → Int, (∀ j : Int, 0 ≤ j → j < (n : Int) → ∀ m : Int, 0 ≤ m → m < 15 → cn (π j) m = c2 (π2 j) m) → (cn 5 1 = c2 5 1 ∧ cn 5 2 = c2 5 2 ∧ cn 5 3 = c2 5 3) → (∀ a : Nat, ¬ a = 5 → ¬ (7 ≤ a ∧ a ≤ 16) → cn a = c a) → V M_X5_copyFrom 144 26 [(0, .ref (b + 5)), (1, .ref (b2 + 5)), (2, zI (n : Int))] [] 144 (kst b (kst b2 σ c2 π2) cn π) Q := by
  refine loop_nat ((c2 5 1).toNat) (fun n hn ih => ?_)
  intro cn
  intro hc1 hc5 hc0
  refine V_iload_n (pc := 26) e_X5_copyFrom_26 rfl ?_
  refine V_aload_n (pc := 27) e_X5_copyFrom_27 rfl (Or.inl ⟨_, rfl⟩) ?_
  refine Vk_get (pc := 28) (q := 1) hB rfl (by decide) rfl fx_5_22 e_X5_copyFrom_28 rfl rfl ?_
  refine V_icmp_ge (pc := 31) e_X5_copyFrom_31 (by decide) (by omega) (by omega) (fun h31 => ?_) (fun h31 => ?_)
  · refine V_ret (pc := 61) (v := none) ⟨e_X5_copyFrom_61, rfl⟩ ?_
    exact k cn (fun j a d => hc1 j a (by omega)) hc5 hc0
  · refine V_iload_n (pc := 34) e_X5_copyFrom_34 rfl ?_
    refine V_bipush (pc := 35) (by decide) e_X5_copyFrom_35 ?_
    refine V_icmp_ge (pc := 37) e_X5_copyFrom_37 (by decide) (by omega) (by decide) (fun h37 => ?_) (fun h37 => ?_)
    · refine V_ret (pc := 61) (v := none) ⟨e_X5_copyFrom_61, rfl⟩ ?_
      exact k cn (fun j a d => hc1 j a (by omega)) hc5 hc0
    · have pj := hP.1 (n : Int) (by omega) (by omega)
      have pj2 := hP2.1 (n : Int) (by omega) (by omega)
      have zj := hz (n : Int) (by omega) (by omega)
      refine V_aload_n (pc := 40) e_X5_copyFrom_40 rfl (Or.inl ⟨_, rfl⟩) ?_
      refine Vk_getR (pc := 41) (q := 0) hB rfl (by decide) rfl fx_5_11 e_X5_copyFrom_41 rfl rfl (by decide) rfl ?_
      refine V_iload_n (pc := 44) e_X5_copyFrom_44 rfl ?_
      refine Vk_ald (pc := 45) hB rfl e_X5_copyFrom_45 (by omega) ?_
      refine V_aload_n (pc := 46) e_X5_copyFrom_46 rfl (Or.inl ⟨_, rfl⟩) ?_
      refine Vy_getR (pc := 47) (q := 0) hB hB2 hne rfl (by decide) rfl fx_5_11 e_X5_copyFrom_47 rfl rfl (by decide) rfl ?_
      refine V_iload_n (pc := 50) e_X5_copyFrom_50 rfl ?_
      refine Vy_ald (pc := 51) hB hB2 hne rfl e_X5_copyFrom_51 (by omega) ?_
      refine V_cV1 (pc := 52) ca_5_28 e_X5_copyFrom_52 (by decide) (Nat.le_of_ble_eq_true rfl) (kb_lt hB (by omega)) ((shB hB (by omega)).trans (shM_j (by omega) (by omega))) (by decide) (c_X1_copyFrom (σ := kst b2 σ c2 π2) (x := b2 + π2 (n : Int)) hB pj (MB_ne hB hB2 hne (by omega)) (kb_lt hB2 (by omega)) ((shB hB2 (by omega)).trans (shM_j (by omega) (by omega))) (by rw [kst_1 (by omega)]; exact zj.1) (by rw [kst_1 (by omega)]; exact zj.2.1) (by rw [kst_1 (by omega)]; exact zj.2.2) (fun c1 e1 e2 => ?_))
      refine V_iinc (pc := 55) e_X5_copyFrom_55 rfl (by decide) ?_
      refine V_goto (pc := 58) e_X5_copyFrom_58 (by decide) ?_
      exact V_lq [(0, .ref (b + 5)), (1, .ref (b2 + 5)), (2, zI ((n + 1 : Nat) : Int))] ⟨⟨_, rfl, rfl⟩, ⟨_, rfl, rfl⟩, ⟨_, rfl, rfl⟩, trivial⟩ (ih (by omega) c1 (fun j a d m f g => by
        by_cases y : j = (n : Int)
        · rw [y, e1 m f g, kst_1 (by omega)]
        · have pk := hP.1 j a (by omega)
          have dn : ¬ π j = π (n : Int) := fun z => y (hP.2 _ _ (by omega) (by omega) (by omega) (by omega) z)
          rw [e2 _ dn]
          exact hc1 j a (by omega) m f g) (by rw [e2 5 (by omega)]; exact hc5) (fun a f g => by rw [e2 a (fun z => g (by omega))]; exact hc0 a f g))
theorem c_X5_copyFrom {σ : Sto} {b b2 : Nat} {c c2 : Nat → Int → Int} {π π2 : Int → Nat} {Q : Option Value → Sto → Prop} (hB : MB b) (hB2 : MB b2) (hne : ¬ b = b2) (hP : PI π) (hP2 : PI π2) (hs : 0 ≤ c2 5 1 ∧ c2 5 1 ≤ 10) (hz : ∀ j : Int, 0 ≤ j → j < c2 5 1 → (c2 (π2 j) 6 = 0 ∨ c2 (π2 j) 6 = 1) ∧ (c2 (π2 j) 7 = 0 ∨ c2 (π2 j) 7 = 1) ∧ (c2 (π2 j) 12 = 0 ∨ c2 (π2 j) 12 = 1)) (k : ∀ c' : Nat → Int → Int, (∀ j : Int, 0 ≤ j → j < c2 5 1 → ∀ m : Int, 0 ≤ m → m < 15 → c' (π j) m = c2 (π2 j) m) → (c' 5 1 = c2 5 1 ∧ c' 5 2 = c2 5 2 ∧ c' 5 3 = c2 5 3) → (∀ a : Nat, ¬ a = 5 → ¬ (7 ≤ a ∧ a ≤ 16) → c' a = c a) → Q none (kst b (kst b2 σ c2 π2) c' π)) : Con M_X5_copyFrom 144 144 (kst b (kst b2 σ c2 π2) c π) [.ref (b + 5), .ref (b2 + 5)] Q := by
  refine V_entry ok_X5_copyFrom (Nat.le_refl _) (Nat.le_of_ble_eq_true rfl) (V_ls [(0, .ref (b + 5)), (1, .ref (b2 + 5))] ⟨rfl, rfl, trivial⟩ ?_)
  refine V_aload_n (pc := 0) e_X5_copyFrom_0 rfl (Or.inl ⟨_, rfl⟩) ?_
  refine V_aload_n (pc := 1) e_X5_copyFrom_1 rfl (Or.inl ⟨_, rfl⟩) ?_
  refine Vy_get (pc := 2) (q := 1) hB hB2 hne rfl (by decide) rfl fx_5_22 e_X5_copyFrom_2 rfl rfl ?_
  refine Vk_put (pc := 5) (q := 1) hB rfl (by decide) rfl fx_5_22 e_X5_copyFrom_5 rfl rfl rfl rfl rfl ?_
  refine V_aload_n (pc := 8) e_X5_copyFrom_8 rfl (Or.inl ⟨_, rfl⟩) ?_
  refine V_aload_n (pc := 9) e_X5_copyFrom_9 rfl (Or.inl ⟨_, rfl⟩) ?_
  refine Vy_get (pc := 10) (q := 2) hB hB2 hne rfl (by decide) rfl fx_5_25 e_X5_copyFrom_10 rfl rfl ?_
  refine Vk_put (pc := 13) (q := 2) hB rfl (by decide) rfl fx_5_25 e_X5_copyFrom_13 rfl rfl rfl rfl rfl ?_
  refine V_aload_n (pc := 16) e_X5_copyFrom_16 rfl (Or.inl ⟨_, rfl⟩) ?_
  refine V_aload_n (pc := 17) e_X5_copyFrom_17 rfl (Or.inl ⟨_, rfl⟩) ?_
  refine Vy_get (pc := 18) (q := 3) hB hB2 hne rfl (by decide) rfl fx_5_17 e_X5_copyFrom_18 rfl rfl ?_
  refine Vk_put (pc := 21) (q := 3) hB rfl (by decide) rfl fx_5_17 e_X5_copyFrom_21 rfl rfl rfl rfl rfl ?_
  refine V_iconst (pc := 24) e_X5_copyFrom_24 ?_
  refine V_istore_n (pc := 25) e_X5_copyFrom_25 (by decide) ?_
  exact V_lq [(0, .ref (b + 5)), (1, .ref (b2 + 5)), (2, zI ((0 : Nat) : Int))] ⟨⟨_, rfl, rfl⟩, ⟨_, rfl, rfl⟩, ⟨_, rfl, rfl⟩, trivial⟩ (L_X5_copyFrom hB hB2 hne hP hP2 hs hz k 0 (by omega) _ (fun j a d => absurd d (by omega)) ⟨by simp (disch := omega) only [up2_o, up2_e], by simp (disch := omega) only [up2_o, up2_e], by simp (disch := omega) only [up2_e]⟩ (fun a f g => by funext q; simp (disch := omega) only [up2_o]))
theorem c_X4_copyFrom {σ : Sto} {b b2 : Nat} {c c2 : Nat → Int → Int} {π π2 : Int → Nat} {Q : Option Value → Sto → Prop} (hB : MB b) (hB2 : MB b2) (hne : ¬ b = b2) {r : Int → Int} (hP : PI π) (hM : MR c2 π2 r) (hR : RR r) (k : ∀ c' : Nat → Int → Int, MR c' π r → Q none (kst b (kst b2 σ c2 π2) c' π)) : Con M_X4_copyFrom 144 144 (kst b (kst b2 σ c2 π2) c π) [.ref b, .ref b2] Q := by
  refine V_entry ok_X4_copyFrom (Nat.le_refl _) (Nat.le_of_ble_eq_true rfl) (V_ls [(0, .ref b), (1, .ref b2)] ⟨rfl, rfl, trivial⟩ ?_)
  have h0 := hR.2.1
  obtain ⟨mT, mL, mS, mK, mQ⟩ := id hM
  obtain ⟨q1, q2, q3, q4, q5⟩ := mQ
  have hz : ∀ j : Int, 0 ≤ j → j < c2 5 1 → (c2 (π2 j) 6 = 0 ∨ c2 (π2 j) 6 = 1) ∧ (c2 (π2 j) 7 = 0 ∨ c2 (π2 j) 7 = 1) ∧ (c2 (π2 j) 12 = 0 ∨ c2 (π2 j) 12 = 1) := fun j a d => by
    have jr := q5 j a (by omega)
    have jb := hR.2.2.2 j a (by omega)
    unfold JR at jr
    unfold JB at jb
    omega
  refine V_aload_n (pc := 0) e_X4_copyFrom_0 rfl (Or.inl ⟨_, rfl⟩) ?_
  refine Vk_getR (pc := 1) (i := 0) (q := 0) hB rfl (by decide) rfl fx_4_12 e_X4_copyFrom_1 rfl rfl (by decide) rfl ?_
  refine V_aload_n (pc := 4) e_X4_copyFrom_4 rfl (Or.inl ⟨_, rfl⟩) ?_
  refine Vy_getR (pc := 5) (i := 0) (q := 0) hB hB2 hne rfl (by decide) rfl fx_4_12 e_X4_copyFrom_5 rfl rfl (by decide) rfl ?_
  refine V_cV1 (pc := 8) ca_4_52 e_X4_copyFrom_8 (by decide) (Nat.le_of_ble_eq_true rfl) (kb_lt hB (by decide)) ((shB hB (by decide)).trans rfl) (by decide) (c_X6_copyFrom hB hB2 hne (fun c1 t1 t2 => ?_))
  refine V_aload_n (pc := 11) e_X4_copyFrom_11 rfl (Or.inl ⟨_, rfl⟩) ?_
  refine Vk_getR (pc := 12) (i := 0) (q := 1) hB rfl (by decide) rfl fx_4_21 e_X4_copyFrom_12 rfl rfl (by decide) rfl ?_
  refine V_aload_n (pc := 15) e_X4_copyFrom_15 rfl (Or.inl ⟨_, rfl⟩) ?_
  refine Vy_getR (pc := 16) (i := 0) (q := 1) hB hB2 hne rfl (by decide) rfl fx_4_21 e_X4_copyFrom_16 rfl rfl (by decide) rfl ?_
  refine V_cV1 (pc := 19) ca_4_56 e_X4_copyFrom_19 (by decide) (Nat.le_of_ble_eq_true rfl) (kb_lt hB (by decide)) ((shB hB (by decide)).trans rfl) (by decide) (c_X5_copyFrom hB hB2 hne hP hM.2.2.2.2.2.2.2.1 (by omega) hz (fun c2x u1 u2 u3 => ?_))
  refine V_aload_n (pc := 22) e_X4_copyFrom_22 rfl (Or.inl ⟨_, rfl⟩) ?_
  refine Vk_getR (pc := 23) (i := 0) (q := 2) hB rfl (by decide) rfl fx_4_28 e_X4_copyFrom_23 rfl rfl (by decide) rfl ?_
  refine V_aload_n (pc := 26) e_X4_copyFrom_26 rfl (Or.inl ⟨_, rfl⟩) ?_
  refine Vy_getR (pc := 27) (i := 0) (q := 2) hB hB2 hne rfl (by decide) rfl fx_4_28 e_X4_copyFrom_27 rfl rfl (by decide) rfl ?_
  refine V_cV1 (pc := 30) ca_4_59 e_X4_copyFrom_30 (by decide) (Nat.le_of_ble_eq_true rfl) (kb_lt hB (by decide)) ((shB hB (by decide)).trans rfl) (by decide) (c_X3_copyFrom hB hB2 hne (fun c3 v1 v2 v3 v4 => ?_))
  refine V_aload_n (pc := 33) e_X4_copyFrom_33 rfl (Or.inl ⟨_, rfl⟩) ?_
  refine Vy_getR (pc := 34) (i := 0) (q := 3) hB hB2 hne rfl (by decide) rfl fx_4_32 e_X4_copyFrom_34 rfl rfl (by decide) rfl ?_
  refine V_iconst (pc := 37) e_X4_copyFrom_37 ?_
  refine V_aload_n (pc := 38) e_X4_copyFrom_38 rfl (Or.inl ⟨_, rfl⟩) ?_
  refine Vk_getR (pc := 39) (i := 0) (q := 3) hB rfl (by decide) rfl fx_4_32 e_X4_copyFrom_39 rfl rfl (by decide) rfl ?_
  refine V_iconst (pc := 42) e_X4_copyFrom_42 ?_
  refine V_bipush (pc := 43) (by decide) e_X4_copyFrom_43 ?_
  refine Vy_copy (pc := 45) (n := 6) hB hB2 hne rfl rfl (by decide) (by decide) rfl rfl (by decide) (by decide) rfl (by decide) (Nat.le_of_ble_eq_true rfl) e_X4_copyFrom_45 ?_
  refine V_aload_n (pc := 48) e_X4_copyFrom_48 rfl (Or.inl ⟨_, rfl⟩) ?_
  refine V_aload_n (pc := 49) e_X4_copyFrom_49 rfl (Or.inl ⟨_, rfl⟩) ?_
  refine Vy_get (pc := 50) (i := 0) (q := 4) hB hB2 hne rfl (by decide) rfl fx_4_36 e_X4_copyFrom_50 rfl rfl ?_
  refine Vk_put (pc := 53) (i := 0) (q := 4) hB rfl (by decide) rfl fx_4_36 e_X4_copyFrom_53 rfl rfl rfl rfl rfl ?_
  refine V_aload_n (pc := 56) e_X4_copyFrom_56 rfl (Or.inl ⟨_, rfl⟩) ?_
  refine V_aload_n (pc := 57) e_X4_copyFrom_57 rfl (Or.inl ⟨_, rfl⟩) ?_
  refine Vy_get (pc := 58) (i := 0) (q := 5) hB hB2 hne rfl (by decide) rfl fx_4_62 e_X4_copyFrom_58 rfl rfl ?_
  refine Vk_put (pc := 61) (i := 0) (q := 5) hB rfl (by decide) rfl fx_4_62 e_X4_copyFrom_61 rfl rfl rfl rfl rfl ?_
  refine V_aload_n (pc := 64) e_X4_copyFrom_64 rfl (Or.inl ⟨_, rfl⟩) ?_
  refine V_aload_n (pc := 65) e_X4_copyFrom_65 rfl (Or.inl ⟨_, rfl⟩) ?_
  refine Vy_get (pc := 66) (i := 0) (q := 6) hB hB2 hne rfl (by decide) rfl fx_4_40 e_X4_copyFrom_66 rfl rfl ?_
  refine Vk_put (pc := 69) (i := 0) (q := 6) hB rfl (by decide) rfl fx_4_40 e_X4_copyFrom_69 rfl rfl rfl rfl rfl ?_
  refine V_aload_n (pc := 72) e_X4_copyFrom_72 rfl (Or.inl ⟨_, rfl⟩) ?_
  refine V_aload_n (pc := 73) e_X4_copyFrom_73 rfl (Or.inl ⟨_, rfl⟩) ?_
  refine Vy_get (pc := 74) (i := 0) (q := 7) hB hB2 hne rfl (by decide) rfl fx_4_65 e_X4_copyFrom_74 rfl rfl ?_
  refine Vk_put (pc := 77) (i := 0) (q := 7) hB rfl (by decide) rfl fx_4_65 e_X4_copyFrom_77 rfl rfl rfl rfl rfl ?_
  refine V_aload_n (pc := 80) e_X4_copyFrom_80 rfl (Or.inl ⟨_, rfl⟩) ?_
  refine V_aload_n (pc := 81) e_X4_copyFrom_81 rfl (Or.inl ⟨_, rfl⟩) ?_
  refine Vy_get (pc := 82) (i := 0) (q := 8) hB hB2 hne rfl (by decide) rfl fx_4_68 e_X4_copyFrom_82 rfl rfl ?_
  refine Vk_put (pc := 85) (i := 0) (q := 8) hB rfl (by decide) rfl fx_4_68 e_X4_copyFrom_85 rfl rfl rfl rfl rfl ?_
  refine V_ret (pc := 88) (v := none) ⟨e_X4_copyFrom_88, rfl⟩ ?_
  refine k _ ⟨fun t a d => ?_, ⟨fun t a d => ?_, ?_, ?_, fun t a d => ?_⟩, fun t a d => ?_, ⟨?_, ?_, ?_, ?_, ?_⟩, ?_, ?_, ?_, hP, fun j a d => ?_⟩
  · simp (disch := omega) only [up2_o, upA_o]
    rw [v4 2 (by omega), v4 3 (by omega), v4 4 (by omega), u3 2 (by omega) (by omega), u3 3 (by omega) (by omega), u3 4 (by omega) (by omega)]
    have x := t1 t a d
    have y := mT t a d
    rw [x.1, x.2.1, x.2.2]
    exact y
  · simp (disch := omega) only [up2_o, upA_o]
    rw [v1 t a d]
    exact mL.1 t a d
  · simp (disch := omega) only [up2_o, upA_o]
    rw [v3.1]
    exact mL.2.1
  · simp (disch := omega) only [up2_o, upA_o]
    rw [v3.2]
    exact mL.2.2.1
  · simp (disch := omega) only [up2_o, upA_o]
    have h9 := hR.2.2.1
    have x := v2 t a (by omega)
    rw [x.1, x.2.1, x.2.2]
    exact mL.2.2.2 t a d
  · simp (disch := omega) only [up2_o, upA_e]
    exact (cpy_at a (show t < ((6 : Nat) : Int) from d)).trans (mS t a d)
  · simp (disch := omega) only [up2_o, up2_e]
    exact mK.1
  · simp (disch := omega) only [up2_o, up2_e]
    exact mK.2.1
  · simp (disch := omega) only [up2_o, up2_e]
    exact mK.2.2.1
  · simp (disch := omega) only [up2_o, up2_e]
    exact mK.2.2.2.1
  · simp (disch := omega) only [up2_e]
    exact mK.2.2.2.2
  · simp (disch := omega) only [up2_o, upA_o]
    rw [v4 5 (by omega), u2.1]
    exact q1
  · simp (disch := omega) only [up2_o, upA_o]
    rw [v4 5 (by omega), u2.2.1]
    exact q2
  · simp (disch := omega) only [up2_o, upA_o]
    rw [v4 5 (by omega), u2.2.2]
    exact q3
  · have pk := hP.1 j a (by omega)
    have jr := q5 j a d
    have e : ∀ m : Int, 0 ≤ m → m < 15 → c3 (π j) m = c2 (π2 j) m := fun m f g => by
      rw [v4 _ (by omega)]
      exact u1 j a (by omega) m f g
    unfold JR at jr ⊢
    simp (disch := omega) only [up2_o, upA_o]
    rw [e 0 (by decide) (by decide), e 1 (by decide) (by decide), e 2 (by decide) (by decide), e 3 (by decide) (by decide), e 4 (by decide) (by decide), e 5 (by decide) (by decide), e 6 (by decide) (by decide), e 7 (by decide) (by decide), e 8 (by decide) (by decide), e 9 (by decide) (by decide), e 10 (by decide) (by decide), e 11 (by decide) (by decide), e 12 (by decide) (by decide), e 13 (by decide) (by decide), e 14 (by decide) (by decide)]
    exact jr
