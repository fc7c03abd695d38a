/-! paper -/
theorem c_X7_paper {σ : Sto} {c : Nat → Int → Int} {π : Int → Nat} {r : Int → Int} {Q : Option Value → Sto → Prop} (hZ : HZ σ) (hM : MR c π r) (hI : RI r) {j w : Int} (r_j : -2147483648 ≤ j ∧ j < 2147483648) (r_w : -2147483648 ≤ w ∧ w < 2147483648) (k1 : ¬ (0 ≤ j ∧ 0 ≤ w ∧ w ≤ 2) → Q (some (zI (-1))) (kst 1 σ c π)) (k2 : 0 ≤ j ∧ 0 ≤ w ∧ w ≤ 2 → r 9 ≤ j → Q (some (zI (-4))) (kst 1 σ c π)) (k3 : 0 ≤ j ∧ 0 ≤ w ∧ w ≤ 2 → j < r 9 → Q (some (zI (r (37 + 3 * j + w)))) (kst 1 σ c π)) : Con M_X7_paper 144 144 (kst 1 σ c π) [.ref 0, zI j, zI w] Q := by
  refine V_entry ok_X7_paper (Nat.le_refl _) (Nat.le_of_ble_eq_true rfl) (V_ls [(0, .ref 0), (1, zI j), (2, zI w)] ⟨rfl, rfl, rfl, trivial⟩ ?_)
  have hB : MB 1 := Or.inl rfl
  have hR := hI.rr
  obtain ⟨ni, hRB, hRT, hPA, hS, hJI, hWI⟩ := id hI
  obtain ⟨mT, mL, mS, mK, hQ⟩ := id hM
  have hT := mT
  unfold NI at ni
  have l4 := mL.2.1
  refine V_iload_n (pc := 0) e_X7_paper_0 rfl ?_
  refine V_if_lt (pc := 1) e_X7_paper_1 (by decide) (by omega) (fun h1 => ?_) (fun h1 => ?_)
  · refine V_iconst (pc := 13) e_X7_paper_13 ?_
    refine V_ret (pc := 14) (v := some (zI _)) ⟨e_X7_paper_14, _, rfl, rfl⟩ ?_
    exact k1 (by omega)
  · refine V_iload_n (pc := 4) e_X7_paper_4 rfl ?_
    refine V_iconst (pc := 5) e_X7_paper_5 ?_
    refine V_iconst (pc := 6) e_X7_paper_6 ?_
    refine V_cS3 (pc := 7) ca_7_44 e_X7_paper_7 (by decide) (Nat.le_of_ble_eq_true rfl) (c_X7_isWithin (by omega) (by omega) (by omega) (fun h_wi => ?_) (fun h_wi => ?_))
    · refine V_if_ne (pc := 10) e_X7_paper_10 (by decide) (by decide) (fun _ => ?_) (fun h => absurd h (by decide))
      refine V_aload_n (pc := 15) e_X7_paper_15 rfl (Or.inl ⟨_, rfl⟩) ?_
      refine Vp_getR (pc := 16) (q := 0) (j := 1) hZ.1 fx_7_12 e_X7_paper_16 rfl rfl ?_
      refine Vk_getR (pc := 19) (i := 0) (q := 2) hB rfl (by decide) rfl fx_7_142 e_X7_paper_19 rfl rfl (by decide) rfl ?_
      refine V_astore_n (pc := 22) e_X7_paper_22 (Or.inl ⟨_, rfl⟩) (by decide) ?_
      refine V_iload_n (pc := 23) e_X7_paper_23 rfl ?_
      refine V_aload_n (pc := 24) e_X7_paper_24 rfl (Or.inl ⟨_, rfl⟩) ?_
      refine Vk_get (pc := 25) (q := 4) hB rfl (by decide) rfl fx_7_196 e_X7_paper_25 rfl rfl ?_
      refine V_icmp_ge (pc := 28) e_X7_paper_28 (by decide) (by omega) (by omega) (fun h28 => ?_) (fun h28 => ?_)
      · refine V_bipush (pc := 37) (by decide) e_X7_paper_37 ?_
        refine V_ret (pc := 39) (v := some (zI _)) ⟨e_X7_paper_39, _, rfl, rfl⟩ ?_
        exact k2 (by omega) (by omega)
      · refine V_iload_n (pc := 31) e_X7_paper_31 rfl ?_
        refine V_bipush (pc := 32) (by decide) e_X7_paper_32 ?_
        refine V_icmp_lt (pc := 34) e_X7_paper_34 (by decide) (by omega) (by decide) (fun h34 => ?_) (fun h34 => ?_)
        · have lp := mL.2.2.2 j (by omega) (by omega)
          refine V_iload_n (pc := 40) e_X7_paper_40 rfl ?_
          by_cases h41_0 : w = 0
          · refine V_lookup (pc := 41) (off := 27) e_X7_paper_41 rfl (by omega) (by rw [h41_0]; rfl) (by decide) ?_
            refine V_aload_n (pc := 68) e_X7_paper_68 rfl (Or.inl ⟨_, rfl⟩) ?_
            refine Vk_getR (pc := 69) (q := 1) hB rfl (by decide) rfl fx_7_208 e_X7_paper_69 rfl rfl (by decide) rfl ?_
            refine V_iload_n (pc := 72) e_X7_paper_72 rfl ?_
            refine Vk_ld (pc := 73) (n := 16) hB rfl (by decide) rfl (by decide) e_X7_paper_73 (by omega) ?_
            refine V_ret (pc := 74) (v := some (zI _)) ⟨e_X7_paper_74, _, rfl, rfl⟩ ?_
            rw [lp.1]
            have z := k3 (by omega) (by omega)
            rw [show 37 + 3 * j + w = 37 + 3 * j by omega] at z
            exact z
          by_cases h41_1 : w = 1
          · refine V_lookup (pc := 41) (off := 34) e_X7_paper_41 rfl (by omega) (by rw [h41_1]; rfl) (by decide) ?_
            refine V_aload_n (pc := 75) e_X7_paper_75 rfl (Or.inl ⟨_, rfl⟩) ?_
            refine Vk_getR (pc := 76) (q := 2) hB rfl (by decide) rfl fx_7_211 e_X7_paper_76 rfl rfl (by decide) rfl ?_
            refine V_iload_n (pc := 79) e_X7_paper_79 rfl ?_
            refine Vk_ld (pc := 80) (n := 16) hB rfl (by decide) rfl (by decide) e_X7_paper_80 (by omega) ?_
            refine V_ret (pc := 81) (v := some (zI _)) ⟨e_X7_paper_81, _, rfl, rfl⟩ ?_
            rw [lp.2.1]
            have z := k3 (by omega) (by omega)
            rw [show 37 + 3 * j + w = 37 + 3 * j + 1 by omega] at z
            exact z
          refine V_lookup (pc := 41) (off := 41) e_X7_paper_41 rfl (by omega) (by simp [Op.lookupswitch.offset, Ne.symm h41_0, Ne.symm h41_1]) (by decide) ?_
          refine V_aload_n (pc := 82) e_X7_paper_82 rfl (Or.inl ⟨_, rfl⟩) ?_
          refine Vk_getR (pc := 83) (q := 3) hB rfl (by decide) rfl fx_7_214 e_X7_paper_83 rfl rfl (by decide) rfl ?_
          refine V_iload_n (pc := 86) e_X7_paper_86 rfl ?_
          refine Vk_ld (pc := 87) (n := 16) hB rfl (by decide) rfl (by decide) e_X7_paper_87 (by omega) ?_
          refine V_ret (pc := 88) (v := some (zI _)) ⟨e_X7_paper_88, _, rfl, rfl⟩ ?_
          rw [lp.2.2]
          have z := k3 (by omega) (by omega)
          rw [show 37 + 3 * j + w = 37 + 3 * j + 2 by omega] at z
          exact z
        · refine V_bipush (pc := 37) (by decide) e_X7_paper_37 ?_
          refine V_ret (pc := 39) (v := some (zI _)) ⟨e_X7_paper_39, _, rfl, rfl⟩ ?_
          exact k2 (by omega) (by omega)
    · refine V_if_ne (pc := 10) e_X7_paper_10 (by decide) (by decide) (fun h => absurd (by decide) h) (fun _ => ?_)
      refine V_iconst (pc := 13) e_X7_paper_13 ?_
      refine V_ret (pc := 14) (v := some (zI _)) ⟨e_X7_paper_14, _, rfl, rfl⟩ ?_
      exact k1 (by omega)
