/-! the class: the queue -/
def SO (r : Int → Int) : Prop := ∀ p q : Int, 0 ≤ p → p < q → q < r 0 → jf r p 0 < jf r q 0
theorem L_X5_find {σ : Sto} {b : Nat} {c : Nat → Int → Int} {π : Int → Nat} {r : Int → Int} {Q : Option Value → Sto → Prop} (hB : MB b) (hQ : QR c π r) (hR : RR r) {j : Int} (r_j : -2147483648 ≤ j ∧ j < 2147483648) (k1 : 0 ≤ plc r j → Q (some (.ref (b + π (plc r j)))) (kst b σ c π)) (k0 : plc r j < 0 → Q (some .null) (kst b σ c π)) : ∀ n : Nat, n ≤ (r 0).toNat → (∀ i : Int, 0 ≤ i → i < (n : Int) → ¬ jf r i 0 = j) → V M_X5_find 144 2 [(0, .ref (b + 5)), (1, zI j), (2, zI (n : Int))] [] 144 (kst b σ c π) Q := by
  refine loop_nat ((r 0).toNat) (fun n hn ih => ?_)
  intro hv
  obtain ⟨q1, q2, q3, qp, qj⟩ := hQ
  have h0 := hR.2.1
  refine V_iload_n (pc := 2) e_X5_find_2 rfl ?_
  refine V_aload_n (pc := 3) e_X5_find_3 rfl (Or.inl ⟨_, rfl⟩) ?_
  refine Vk_get (pc := 4) (q := 1) hB rfl (by decide) rfl fx_5_22 e_X5_find_4 rfl rfl ?_
  refine V_icmp_ge (pc := 7) e_X5_find_7 (by decide) (by omega) (by omega) (fun h7 => ?_) (fun h7 => ?_)
  · refine V_null (pc := 42) e_X5_find_42 ?_
    refine V_ret (pc := 43) (v := some .null) ⟨e_X5_find_43, _, rfl⟩ ?_
    exact k0 (by rw [plc_no (fun i a c => hv i a (by omega))]; decide)
  · refine V_iload_n (pc := 10) e_X5_find_10 rfl ?_
    refine V_bipush (pc := 11) (by decide) e_X5_find_11 ?_
    refine V_icmp_ge (pc := 13) e_X5_find_13 (by decide) (by omega) (by decide) (fun h13 => ?_) (fun h13 => ?_)
    · refine V_null (pc := 42) e_X5_find_42 ?_
      refine V_ret (pc := 43) (v := some .null) ⟨e_X5_find_43, _, rfl⟩ ?_
      exact k0 (by rw [plc_no (fun i a c => hv i a (by omega))]; decide)
    · have pj := qp.1 (n : Int) (by omega) (by omega)
      have hj := qj (n : Int) (by omega) (by omega)
      have hJ := hR.2.2.2 (n : Int) (by omega) (by omega)
      have jj := hJ
      unfold JB at jj
      have jr := hj
      unfold JR at jr
      refine V_aload_n (pc := 16) e_X5_find_16 rfl (Or.inl ⟨_, rfl⟩) ?_
      refine Vk_getR (pc := 17) (q := 0) hB rfl (by decide) rfl fx_5_11 e_X5_find_17 rfl rfl (by decide) rfl ?_
      refine V_iload_n (pc := 20) e_X5_find_20 rfl ?_
      refine Vk_ald (pc := 21) hB rfl e_X5_find_21 (by omega) ?_
      refine Vk_get (pc := 22) (q := 0) hB rfl (by omega) (shM_j (by omega) (by omega)) fx_5_32 e_X5_find_22 rfl rfl ?_
      refine V_iload_n (pc := 25) e_X5_find_25 rfl ?_
      refine V_icmp_ne (pc := 26) e_X5_find_26 (by decide) (by omega) (by omega) (fun h26 => ?_) (fun h26 => ?_)
      · refine V_iinc (pc := 36) e_X5_find_36 rfl (by decide) ?_
        refine V_goto (pc := 39) e_X5_find_39 (by decide) ?_
        exact V_lq [(0, .ref (b + 5)), (1, zI j), (2, zI ((n + 1 : Nat) : Int))] ⟨⟨_, rfl, rfl⟩, ⟨_, rfl, rfl⟩, ⟨_, rfl, rfl⟩, trivial⟩ (ih (by omega) (fun i a c => by
          by_cases z : i = (n : Int)
          · rw [z]; omega
          · exact hv i a (by omega)))
      · refine V_aload_n (pc := 29) e_X5_find_29 rfl (Or.inl ⟨_, rfl⟩) ?_
        refine Vk_getR (pc := 30) (q := 0) hB rfl (by decide) rfl fx_5_11 e_X5_find_30 rfl rfl (by decide) rfl ?_
        refine V_iload_n (pc := 33) e_X5_find_33 rfl ?_
        refine Vk_ald (pc := 34) hB rfl e_X5_find_34 (by omega) ?_
        refine V_ret (pc := 35) (v := some (.ref _)) ⟨e_X5_find_35, _, rfl⟩ ?_
        have e := plc_at (r := r) (j := j) (p := (n : Int)) (by omega) (by omega) (by omega) hv
        rw [e] at k1
        exact k1 (by omega)
theorem c_X5_find {σ : Sto} {b : Nat} {c : Nat → Int → Int} {π : Int → Nat} {r : Int → Int} {Q : Option Value → Sto → Prop} (hB : MB b) (hQ : QR c π r) (hR : RR r) {j : Int} (r_j : -2147483648 ≤ j ∧ j < 2147483648) (k1 : 0 ≤ plc r j → Q (some (.ref (b + π (plc r j)))) (kst b σ c π)) (k0 : plc r j < 0 → Q (some .null) (kst b σ c π)) : Con M_X5_find 144 144 (kst b σ c π) [.ref (b + 5), zI j] Q := by
  refine V_entry ok_X5_find (Nat.le_refl _) (Nat.le_of_ble_eq_true rfl) (V_ls [(0, .ref (b + 5)), (1, zI j)] ⟨rfl, rfl, trivial⟩ ?_)
  obtain ⟨q1, q2, q3, qp, qj⟩ := hQ
  have h0 := hR.2.1
  refine V_iconst (pc := 0) e_X5_find_0 ?_
  refine V_istore_n (pc := 1) e_X5_find_1 (by decide) ?_
  exact V_lq [(0, .ref (b + 5)), (1, zI j), (2, zI ((0 : Nat) : Int))] ⟨⟨_, rfl, rfl⟩, ⟨_, rfl, rfl⟩, ⟨_, rfl, rfl⟩, trivial⟩ (L_X5_find hB ⟨q1, q2, q3, qp, qj⟩ hR r_j k1 k0 0 (by omega) (fun i a c => absurd c (by omega)))
theorem L_X5_heldJobs {σ : Sto} {b : Nat} {c : Nat → Int → Int} {π : Int → Nat} {r : Int → Int} {Q : Option Value → Sto → Prop} (hB : MB b) (hQ : QR c π r) (hR : RR r)  (k : Q (some (zI (hdN r (r 0).toNat))) (kst b σ c π)) : ∀ n : Nat, n ≤ (r 0).toNat → V M_X5_heldJobs 144 4 [(0, .ref (b + 5)), (1, zI (hdN r n)), (2, zI (n : Int))] [] 144 (kst b σ c π) Q := by
  refine loop_nat ((r 0).toNat) (fun n hn ih => ?_)
  obtain ⟨q1, q2, q3, qp, qj⟩ := hQ
  have h0 := hR.2.1
  refine V_iload_n (pc := 4) e_X5_heldJobs_4 rfl ?_
  refine V_aload_n (pc := 5) e_X5_heldJobs_5 rfl (Or.inl ⟨_, rfl⟩) ?_
  refine Vk_get (pc := 6) (q := 1) hB rfl (by decide) rfl fx_5_22 e_X5_heldJobs_6 rfl rfl ?_
  refine V_icmp_ge (pc := 9) e_X5_heldJobs_9 (by decide) (by omega) (by omega) (fun h9 => ?_) (fun h9 => ?_)
  · refine V_iload_n (pc := 39) e_X5_heldJobs_39 rfl ?_
    refine V_ret (pc := 40) (v := some (zI _)) ⟨e_X5_heldJobs_40, _, rfl, rfl⟩ ?_
    exact Qv k (by rw [show n = (r 0).toNat by omega]) rfl
  · refine V_iload_n (pc := 12) e_X5_heldJobs_12 rfl ?_
    refine V_bipush (pc := 13) (by decide) e_X5_heldJobs_13 ?_
    refine V_icmp_ge (pc := 15) e_X5_heldJobs_15 (by decide) (by omega) (by decide) (fun h15 => ?_) (fun h15 => ?_)
    · refine V_iload_n (pc := 39) e_X5_heldJobs_39 rfl ?_
      refine V_ret (pc := 40) (v := some (zI _)) ⟨e_X5_heldJobs_40, _, rfl, rfl⟩ ?_
      exact Qv k (by rw [show n = (r 0).toNat by omega]) rfl
    · have pj := qp.1 (n : Int) (by omega) (by omega)
      have hj := qj (n : Int) (by omega) (by omega)
      have hJ := hR.2.2.2 (n : Int) (by omega) (by omega)
      have jj := hJ
      unfold JB at jj
      have jr := hj
      unfold JR at jr
      refine V_aload_n (pc := 18) e_X5_heldJobs_18 rfl (Or.inl ⟨_, rfl⟩) ?_
      refine Vk_getR (pc := 19) (q := 0) hB rfl (by decide) rfl fx_5_11 e_X5_heldJobs_19 rfl rfl (by decide) rfl ?_
      refine V_iload_n (pc := 22) e_X5_heldJobs_22 rfl ?_
      refine Vk_ald (pc := 23) hB rfl e_X5_heldJobs_23 (by omega) ?_
      refine Vk_get (pc := 24) (q := 12) hB rfl (by omega) (shM_j (by omega) (by omega)) fx_5_35 e_X5_heldJobs_24 rfl rfl ?_
      refine V_if_eq (pc := 27) e_X5_heldJobs_27 (by decide) (by omega) (fun h27 => ?_) (fun h27 => ?_)
      · refine V_iinc (pc := 33) e_X5_heldJobs_33 rfl (by decide) ?_
        refine V_goto (pc := 36) e_X5_heldJobs_36 (by decide) ?_
        exact V_lq [(0, .ref (b + 5)), (1, zI (hdN r (n + 1))), (2, zI ((n + 1 : Nat) : Int))] ⟨⟨_, rfl, rfl⟩, ⟨_, rfl, congrArg (fun e : Int => zI e) (by (show _ = hdN r n + jf r (n : Int) 7); omega)⟩, ⟨_, rfl, rfl⟩, trivial⟩ (ih (by omega))
      · refine V_iinc (pc := 30) e_X5_heldJobs_30 rfl (by decide) ?_
        refine V_iinc (pc := 33) e_X5_heldJobs_33 rfl (by decide) ?_
        refine V_goto (pc := 36) e_X5_heldJobs_36 (by decide) ?_
        exact V_lq [(0, .ref (b + 5)), (1, zI (hdN r (n + 1))), (2, zI ((n + 1 : Nat) : Int))] ⟨⟨_, rfl, rfl⟩, ⟨_, rfl, congrArg (fun e : Int => zI e) (by (show _ = hdN r n + jf r (n : Int) 7); omega)⟩, ⟨_, rfl, rfl⟩, trivial⟩ (ih (by omega))
theorem c_X5_heldJobs {σ : Sto} {b : Nat} {c : Nat → Int → Int} {π : Int → Nat} {r : Int → Int} {Q : Option Value → Sto → Prop} (hB : MB b) (hQ : QR c π r) (hR : RR r)  (k : Q (some (zI (hdN r (r 0).toNat))) (kst b σ c π)) : Con M_X5_heldJobs 144 144 (kst b σ c π) [.ref (b + 5)] Q := by
  refine V_entry ok_X5_heldJobs (Nat.le_refl _) (Nat.le_of_ble_eq_true rfl) (V_ls [(0, .ref (b + 5))] ⟨rfl, trivial⟩ ?_)
  obtain ⟨q1, q2, q3, qp, qj⟩ := hQ
  have h0 := hR.2.1
  refine V_iconst (pc := 0) e_X5_heldJobs_0 ?_
  refine V_istore_n (pc := 1) e_X5_heldJobs_1 (by decide) ?_
  refine V_iconst (pc := 2) e_X5_heldJobs_2 ?_
  refine V_istore_n (pc := 3) e_X5_heldJobs_3 (by decide) ?_
  exact V_lq [(0, .ref (b + 5)), (1, zI (hdN r 0)), (2, zI ((0 : Nat) : Int))] ⟨⟨_, rfl, rfl⟩, ⟨_, rfl, rfl⟩, ⟨_, rfl, rfl⟩, trivial⟩ (L_X5_heldJobs hB ⟨q1, q2, q3, qp, qj⟩ hR k 0 (by omega))
theorem c_X5_room {σ : Sto} {b : Nat} {c : Nat → Int → Int} {π : Int → Nat} {r : Int → Int} {Q : Option Value → Sto → Prop} (hB : MB b) (hQ : QR c π r) (hR : RR r)  (k : Q (some (zI (10 - r 0))) (kst b σ c π)) : Con M_X5_room 144 144 (kst b σ c π) [.ref (b + 5)] Q := by
  refine V_entry ok_X5_room (Nat.le_refl _) (Nat.le_of_ble_eq_true rfl) (V_ls [(0, .ref (b + 5))] ⟨rfl, trivial⟩ ?_)
  obtain ⟨q1, q2, q3, qp, qj⟩ := hQ
  have h0 := hR.2.1
  refine V_bipush (pc := 0) (by decide) e_X5_room_0 ?_
  refine V_aload_n (pc := 2) e_X5_room_2 rfl (Or.inl ⟨_, rfl⟩) ?_
  refine Vk_get (pc := 3) (q := 1) hB rfl (by decide) rfl fx_5_22 e_X5_room_3 rfl rfl ?_
  refine V_isub (pc := 6) e_X5_room_6 ?_
  refine V_ret (pc := 7) (v := some (zI _)) ⟨e_X5_room_7, _, rfl, rfl⟩ ?_
  exact Qv k (by omega) rfl
theorem c_X5_isAhead_n {σ : Sto} {b : Nat} {c : Nat → Int → Int} {π : Int → Nat} {r : Int → Int} {Q : Option Value → Sto → Prop} (hB : MB b) (hQ : QR c π r) (hR : RR r) {p q : Int} (hS : SO r) (r7 : -3000000 ≤ r 7 ∧ r 7 ≤ 3000000) (p0 : 0 ≤ p ∧ p < r 0) (q0 : 0 ≤ q ∧ q < r 0) (hne : ¬ p = q) (k1 : ¬ p = q ∧ ahd r p q → Q (some (zI 1)) (kst b σ c π)) (k0 : ¬ (¬ p = q ∧ ahd r p q) → Q (some (zI 0)) (kst b σ c π)) : Con M_X5_isAhead 144 144 (kst b σ c π) [.ref (b + 5), .ref (b + π p), .ref (b + π q)] Q := by
  refine V_entry ok_X5_isAhead (Nat.le_refl _) (Nat.le_of_ble_eq_true rfl) (V_ls [(0, .ref (b + 5)), (1, .ref (b + π p)), (2, .ref (b + π q))] ⟨rfl, rfl, rfl, trivial⟩ ?_)
  obtain ⟨q1, q2, q3, qp, qj⟩ := hQ
  have h0 := hR.2.1
  have pj1 := qp.1 p (by omega) (by omega)
  have f1 : c (π p) 12 = jf r p 7 ∧ c (π p) 0 = jf r p 0 ∧ c (π p) 11 = jf r p 6 := by
    have z := qj p (by omega) (by omega)
    unfold JR at z
    omega
  have b1 : 0 ≤ jf r p 0 ∧ jf r p 0 ≤ 3000000 ∧ 0 ≤ jf r p 6 ∧ jf r p 6 ≤ 9 ∧ 0 ≤ jf r p 7 ∧ jf r p 7 ≤ 1 := by
    have z := hR.2.2.2 p (by omega) (by omega)
    unfold JB at z
    omega
  have pj2 := qp.1 q (by omega) (by omega)
  have f2 : c (π q) 12 = jf r q 7 ∧ c (π q) 0 = jf r q 0 ∧ c (π q) 11 = jf r q 6 := by
    have z := qj q (by omega) (by omega)
    unfold JR at z
    omega
  have b2 : 0 ≤ jf r q 0 ∧ jf r q 0 ≤ 3000000 ∧ 0 ≤ jf r q 6 ∧ jf r q 6 ≤ 9 ∧ 0 ≤ jf r q 7 ∧ jf r q 7 ≤ 1 := by
    have z := hR.2.2.2 q (by omega) (by omega)
    unfold JB at z
    omega
  have s1 : p < q → jf r p 0 < jf r q 0 := fun z => hS p q p0.1 z q0.2
  have s2 : q < p → jf r q 0 < jf r p 0 := fun z => hS q p q0.1 z p0.2
  refine V_aload_n (pc := 0) e_X5_isAhead_0 rfl (Or.inl ⟨_, rfl⟩) ?_
  refine Vk_get (pc := 1) (q := 12) hB rfl (by omega) (shM_j (by omega) (by omega)) fx_5_35 e_X5_isAhead_1 rfl rfl ?_
  refine V_aload_n (pc := 4) e_X5_isAhead_4 rfl (Or.inl ⟨_, rfl⟩) ?_
  refine Vk_get (pc := 5) (q := 12) hB rfl (by omega) (shM_j (by omega) (by omega)) fx_5_35 e_X5_isAhead_5 rfl rfl ?_
  refine V_icmp_eq (pc := 8) e_X5_isAhead_8 (by decide) (by omega) (by omega) (fun h8 => ?_) (fun h8 => ?_)
  · refine V_aload_n (pc := 16) e_X5_isAhead_16 rfl (Or.inl ⟨_, rfl⟩) ?_
    refine Vk_get (pc := 17) (q := 0) hB rfl (by omega) (shM_j (by omega) (by omega)) fx_5_32 e_X5_isAhead_17 rfl rfl ?_
    refine V_aload_n (pc := 20) e_X5_isAhead_20 rfl (Or.inl ⟨_, rfl⟩) ?_
    refine Vk_get (pc := 21) (q := 3) hB rfl (by decide) rfl fx_5_17 e_X5_isAhead_21 rfl rfl ?_
    refine V_icmp_eq (pc := 24) e_X5_isAhead_24 (by decide) (by omega) (by omega) (fun h24 => ?_) (fun h24 => ?_)
    · refine V_aload_n (pc := 38) e_X5_isAhead_38 rfl (Or.inl ⟨_, rfl⟩) ?_
      refine Vk_get (pc := 39) (q := 0) hB rfl (by omega) (shM_j (by omega) (by omega)) fx_5_32 e_X5_isAhead_39 rfl rfl ?_
      refine V_aload_n (pc := 42) e_X5_isAhead_42 rfl (Or.inl ⟨_, rfl⟩) ?_
      refine Vk_get (pc := 43) (q := 3) hB rfl (by decide) rfl fx_5_17 e_X5_isAhead_43 rfl rfl ?_
      refine V_icmp_ne (pc := 46) e_X5_isAhead_46 (by decide) (by omega) (by omega) (fun h46 => ?_) (fun h46 => ?_)
      · refine V_iconst (pc := 64) e_X5_isAhead_64 ?_
        refine V_ret (pc := 65) (v := some (zI _)) ⟨e_X5_isAhead_65, _, rfl, by decide⟩ ?_
        first | exact k1 (by omega) | exact k0 (by omega)
      · refine V_aload_n (pc := 49) e_X5_isAhead_49 rfl (Or.inl ⟨_, rfl⟩) ?_
        refine Vk_get (pc := 50) (q := 0) hB rfl (by omega) (shM_j (by omega) (by omega)) fx_5_32 e_X5_isAhead_50 rfl rfl ?_
        refine V_aload_n (pc := 53) e_X5_isAhead_53 rfl (Or.inl ⟨_, rfl⟩) ?_
        refine Vk_get (pc := 54) (q := 3) hB rfl (by decide) rfl fx_5_17 e_X5_isAhead_54 rfl rfl ?_
        refine V_icmp_eq (pc := 57) e_X5_isAhead_57 (by decide) (by omega) (by omega) (fun h57 => ?_) (fun h57 => ?_)
        · refine V_iconst (pc := 64) e_X5_isAhead_64 ?_
          refine V_ret (pc := 65) (v := some (zI _)) ⟨e_X5_isAhead_65, _, rfl, by decide⟩ ?_
          first | exact k1 (by omega) | exact k0 (by omega)
        · refine V_iconst (pc := 60) e_X5_isAhead_60 ?_
          refine V_goto (pc := 61) e_X5_isAhead_61 (by decide) ?_
          refine V_ret (pc := 65) (v := some (zI _)) ⟨e_X5_isAhead_65, _, rfl, by decide⟩ ?_
          first | exact k1 (by omega) | exact k0 (by omega)
    · refine V_aload_n (pc := 27) e_X5_isAhead_27 rfl (Or.inl ⟨_, rfl⟩) ?_
      refine Vk_get (pc := 28) (q := 0) hB rfl (by omega) (shM_j (by omega) (by omega)) fx_5_32 e_X5_isAhead_28 rfl rfl ?_
      refine V_aload_n (pc := 31) e_X5_isAhead_31 rfl (Or.inl ⟨_, rfl⟩) ?_
      refine Vk_get (pc := 32) (q := 3) hB rfl (by decide) rfl fx_5_17 e_X5_isAhead_32 rfl rfl ?_
      refine V_icmp_ne (pc := 35) e_X5_isAhead_35 (by decide) (by omega) (by omega) (fun h35 => ?_) (fun h35 => ?_)
      · refine V_aload_n (pc := 66) e_X5_isAhead_66 rfl (Or.inl ⟨_, rfl⟩) ?_
        refine Vk_get (pc := 67) (q := 11) hB rfl (by omega) (shM_j (by omega) (by omega)) fx_5_39 e_X5_isAhead_67 rfl rfl ?_
        refine V_aload_n (pc := 70) e_X5_isAhead_70 rfl (Or.inl ⟨_, rfl⟩) ?_
        refine Vk_get (pc := 71) (q := 11) hB rfl (by omega) (shM_j (by omega) (by omega)) fx_5_39 e_X5_isAhead_71 rfl rfl ?_
        refine V_icmp_eq (pc := 74) e_X5_isAhead_74 (by decide) (by omega) (by omega) (fun h74 => ?_) (fun h74 => ?_)
        · refine V_aload_n (pc := 94) e_X5_isAhead_94 rfl (Or.inl ⟨_, rfl⟩) ?_
          refine Vk_get (pc := 95) (q := 0) hB rfl (by omega) (shM_j (by omega) (by omega)) fx_5_32 e_X5_isAhead_95 rfl rfl ?_
          refine V_aload_n (pc := 98) e_X5_isAhead_98 rfl (Or.inl ⟨_, rfl⟩) ?_
          refine Vk_get (pc := 99) (q := 0) hB rfl (by omega) (shM_j (by omega) (by omega)) fx_5_32 e_X5_isAhead_99 rfl rfl ?_
          refine V_icmp_ge (pc := 102) e_X5_isAhead_102 (by decide) (by omega) (by omega) (fun h102 => ?_) (fun h102 => ?_)
          · refine V_iconst (pc := 109) e_X5_isAhead_109 ?_
            refine V_ret (pc := 110) (v := some (zI _)) ⟨e_X5_isAhead_110, _, rfl, by decide⟩ ?_
            first | exact k1 (by omega) | exact k0 (by omega)
          · refine V_iconst (pc := 105) e_X5_isAhead_105 ?_
            refine V_goto (pc := 106) e_X5_isAhead_106 (by decide) ?_
            refine V_ret (pc := 110) (v := some (zI _)) ⟨e_X5_isAhead_110, _, rfl, by decide⟩ ?_
            first | exact k1 (by omega) | exact k0 (by omega)
        · refine V_aload_n (pc := 77) e_X5_isAhead_77 rfl (Or.inl ⟨_, rfl⟩) ?_
          refine Vk_get (pc := 78) (q := 11) hB rfl (by omega) (shM_j (by omega) (by omega)) fx_5_39 e_X5_isAhead_78 rfl rfl ?_
          refine V_aload_n (pc := 81) e_X5_isAhead_81 rfl (Or.inl ⟨_, rfl⟩) ?_
          refine Vk_get (pc := 82) (q := 11) hB rfl (by omega) (shM_j (by omega) (by omega)) fx_5_39 e_X5_isAhead_82 rfl rfl ?_
          refine V_icmp_le (pc := 85) e_X5_isAhead_85 (by decide) (by omega) (by omega) (fun h85 => ?_) (fun h85 => ?_)
          · refine V_iconst (pc := 92) e_X5_isAhead_92 ?_
            refine V_ret (pc := 93) (v := some (zI _)) ⟨e_X5_isAhead_93, _, rfl, by decide⟩ ?_
            first | exact k1 (by omega) | exact k0 (by omega)
          · refine V_iconst (pc := 88) e_X5_isAhead_88 ?_
            refine V_goto (pc := 89) e_X5_isAhead_89 (by decide) ?_
            refine V_ret (pc := 93) (v := some (zI _)) ⟨e_X5_isAhead_93, _, rfl, by decide⟩ ?_
            first | exact k1 (by omega) | exact k0 (by omega)
      · refine V_aload_n (pc := 38) e_X5_isAhead_38 rfl (Or.inl ⟨_, rfl⟩) ?_
        refine Vk_get (pc := 39) (q := 0) hB rfl (by omega) (shM_j (by omega) (by omega)) fx_5_32 e_X5_isAhead_39 rfl rfl ?_
        refine V_aload_n (pc := 42) e_X5_isAhead_42 rfl (Or.inl ⟨_, rfl⟩) ?_
        refine Vk_get (pc := 43) (q := 3) hB rfl (by decide) rfl fx_5_17 e_X5_isAhead_43 rfl rfl ?_
        refine V_icmp_ne (pc := 46) e_X5_isAhead_46 (by decide) (by omega) (by omega) (fun h46 => ?_) (fun h46 => ?_)
        · refine V_iconst (pc := 64) e_X5_isAhead_64 ?_
          refine V_ret (pc := 65) (v := some (zI _)) ⟨e_X5_isAhead_65, _, rfl, by decide⟩ ?_
          first | exact k1 (by omega) | exact k0 (by omega)
        · refine V_aload_n (pc := 49) e_X5_isAhead_49 rfl (Or.inl ⟨_, rfl⟩) ?_
          refine Vk_get (pc := 50) (q := 0) hB rfl (by omega) (shM_j (by omega) (by omega)) fx_5_32 e_X5_isAhead_50 rfl rfl ?_
          refine V_aload_n (pc := 53) e_X5_isAhead_53 rfl (Or.inl ⟨_, rfl⟩) ?_
          refine Vk_get (pc := 54) (q := 3) hB rfl (by decide) rfl fx_5_17 e_X5_isAhead_54 rfl rfl ?_
          refine V_icmp_eq (pc := 57) e_X5_isAhead_57 (by decide) (by omega) (by omega) (fun h57 => ?_) (fun h57 => ?_)
          · refine V_iconst (pc := 64) e_X5_isAhead_64 ?_
            refine V_ret (pc := 65) (v := some (zI _)) ⟨e_X5_isAhead_65, _, rfl, by decide⟩ ?_
            first | exact k1 (by omega) | exact k0 (by omega)
          · refine V_iconst (pc := 60) e_X5_isAhead_60 ?_
            refine V_goto (pc := 61) e_X5_isAhead_61 (by decide) ?_
            refine V_ret (pc := 65) (v := some (zI _)) ⟨e_X5_isAhead_65, _, rfl, by decide⟩ ?_
            first | exact k1 (by omega) | exact k0 (by omega)
  · refine V_aload_n (pc := 11) e_X5_isAhead_11 rfl (Or.inl ⟨_, rfl⟩) ?_
    refine Vk_get (pc := 12) (q := 12) hB rfl (by omega) (shM_j (by omega) (by omega)) fx_5_35 e_X5_isAhead_12 rfl rfl ?_
    refine V_ret (pc := 15) (v := some (zI _)) ⟨e_X5_isAhead_15, _, rfl, (zi_nZ (by omega)).1⟩ ?_
    by_cases hh : c (π q) 12 = 1
    · exact Qv (k1 (by omega)) (by omega) rfl
    · exact Qv (k0 (by omega)) (by omega) rfl
theorem c_X5_isAhead_e {σ : Sto} {b : Nat} {c : Nat → Int → Int} {π : Int → Nat} {r : Int → Int} {Q : Option Value → Sto → Prop} (hB : MB b) (hQ : QR c π r) (hR : RR r) {p : Int} (r7 : -3000000 ≤ r 7 ∧ r 7 ≤ 3000000) (p0 : 0 ≤ p ∧ p < r 0) (k0 : Q (some (zI 0)) (kst b σ c π)) : Con M_X5_isAhead 144 144 (kst b σ c π) [.ref (b + 5), .ref (b + π p), .ref (b + π p)] Q := by
  refine V_entry ok_X5_isAhead (Nat.le_refl _) (Nat.le_of_ble_eq_true rfl) (V_ls [(0, .ref (b + 5)), (1, .ref (b + π p)), (2, .ref (b + π p))] ⟨rfl, rfl, rfl, trivial⟩ ?_)
  obtain ⟨q1, q2, q3, qp, qj⟩ := hQ
  have h0 := hR.2.1
  have pj1 := qp.1 p (by omega) (by omega)
  have f1 : c (π p) 12 = jf r p 7 ∧ c (π p) 0 = jf r p 0 ∧ c (π p) 11 = jf r p 6 := by
    have z := qj p (by omega) (by omega)
    unfold JR at z
    omega
  have b1 : 0 ≤ jf r p 0 ∧ jf r p 0 ≤ 3000000 ∧ 0 ≤ jf r p 6 ∧ jf r p 6 ≤ 9 ∧ 0 ≤ jf r p 7 ∧ jf r p 7 ≤ 1 := by
    have z := hR.2.2.2 p (by omega) (by omega)
    unfold JB at z
    omega
  refine V_aload_n (pc := 0) e_X5_isAhead_0 rfl (Or.inl ⟨_, rfl⟩) ?_
  refine Vk_get (pc := 1) (q := 12) hB rfl (by omega) (shM_j (by omega) (by omega)) fx_5_35 e_X5_isAhead_1 rfl rfl ?_
  refine V_aload_n (pc := 4) e_X5_isAhead_4 rfl (Or.inl ⟨_, rfl⟩) ?_
  refine Vk_get (pc := 5) (q := 12) hB rfl (by omega) (shM_j (by omega) (by omega)) fx_5_35 e_X5_isAhead_5 rfl rfl ?_
  refine V_icmp_eq (pc := 8) e_X5_isAhead_8 (by decide) (by omega) (by omega) (fun h8 => ?_) (fun h8 => ?_)
  · refine V_aload_n (pc := 16) e_X5_isAhead_16 rfl (Or.inl ⟨_, rfl⟩) ?_
    refine Vk_get (pc := 17) (q := 0) hB rfl (by omega) (shM_j (by omega) (by omega)) fx_5_32 e_X5_isAhead_17 rfl rfl ?_
    refine V_aload_n (pc := 20) e_X5_isAhead_20 rfl (Or.inl ⟨_, rfl⟩) ?_
    refine Vk_get (pc := 21) (q := 3) hB rfl (by decide) rfl fx_5_17 e_X5_isAhead_21 rfl rfl ?_
    refine V_icmp_eq (pc := 24) e_X5_isAhead_24 (by decide) (by omega) (by omega) (fun h24 => ?_) (fun h24 => ?_)
    · refine V_aload_n (pc := 38) e_X5_isAhead_38 rfl (Or.inl ⟨_, rfl⟩) ?_
      refine Vk_get (pc := 39) (q := 0) hB rfl (by omega) (shM_j (by omega) (by omega)) fx_5_32 e_X5_isAhead_39 rfl rfl ?_
      refine V_aload_n (pc := 42) e_X5_isAhead_42 rfl (Or.inl ⟨_, rfl⟩) ?_
      refine Vk_get (pc := 43) (q := 3) hB rfl (by decide) rfl fx_5_17 e_X5_isAhead_43 rfl rfl ?_
      refine V_icmp_ne (pc := 46) e_X5_isAhead_46 (by decide) (by omega) (by omega) (fun h46 => ?_) (fun h46 => ?_)
      · refine V_iconst (pc := 64) e_X5_isAhead_64 ?_
        refine V_ret (pc := 65) (v := some (zI _)) ⟨e_X5_isAhead_65, _, rfl, by decide⟩ ?_
        first | exact k0 | exact Qv k0 (by omega) rfl | (exfalso; omega)
      · refine V_aload_n (pc := 49) e_X5_isAhead_49 rfl (Or.inl ⟨_, rfl⟩) ?_
        refine Vk_get (pc := 50) (q := 0) hB rfl (by omega) (shM_j (by omega) (by omega)) fx_5_32 e_X5_isAhead_50 rfl rfl ?_
        refine V_aload_n (pc := 53) e_X5_isAhead_53 rfl (Or.inl ⟨_, rfl⟩) ?_
        refine Vk_get (pc := 54) (q := 3) hB rfl (by decide) rfl fx_5_17 e_X5_isAhead_54 rfl rfl ?_
        refine V_icmp_eq (pc := 57) e_X5_isAhead_57 (by decide) (by omega) (by omega) (fun h57 => ?_) (fun h57 => ?_)
        · refine V_iconst (pc := 64) e_X5_isAhead_64 ?_
          refine V_ret (pc := 65) (v := some (zI _)) ⟨e_X5_isAhead_65, _, rfl, by decide⟩ ?_
          first | exact k0 | exact Qv k0 (by omega) rfl | (exfalso; omega)
        · refine V_iconst (pc := 60) e_X5_isAhead_60 ?_
          refine V_goto (pc := 61) e_X5_isAhead_61 (by decide) ?_
          refine V_ret (pc := 65) (v := some (zI _)) ⟨e_X5_isAhead_65, _, rfl, by decide⟩ ?_
          first | exact k0 | exact Qv k0 (by omega) rfl | (exfalso; omega)
    · refine V_aload_n (pc := 27) e_X5_isAhead_27 rfl (Or.inl ⟨_, rfl⟩) ?_
      refine Vk_get (pc := 28) (q := 0) hB rfl (by omega) (shM_j (by omega) (by omega)) fx_5_32 e_X5_isAhead_28 rfl rfl ?_
      refine V_aload_n (pc := 31) e_X5_isAhead_31 rfl (Or.inl ⟨_, rfl⟩) ?_
      refine Vk_get (pc := 32) (q := 3) hB rfl (by decide) rfl fx_5_17 e_X5_isAhead_32 rfl rfl ?_
      refine V_icmp_ne (pc := 35) e_X5_isAhead_35 (by decide) (by omega) (by omega) (fun h35 => ?_) (fun h35 => ?_)
      · refine V_aload_n (pc := 66) e_X5_isAhead_66 rfl (Or.inl ⟨_, rfl⟩) ?_
        refine Vk_get (pc := 67) (q := 11) hB rfl (by omega) (shM_j (by omega) (by omega)) fx_5_39 e_X5_isAhead_67 rfl rfl ?_
        refine V_aload_n (pc := 70) e_X5_isAhead_70 rfl (Or.inl ⟨_, rfl⟩) ?_
        refine Vk_get (pc := 71) (q := 11) hB rfl (by omega) (shM_j (by omega) (by omega)) fx_5_39 e_X5_isAhead_71 rfl rfl ?_
        refine V_icmp_eq (pc := 74) e_X5_isAhead_74 (by decide) (by omega) (by omega) (fun h74 => ?_) (fun h74 => ?_)
        · refine V_aload_n (pc := 94) e_X5_isAhead_94 rfl (Or.inl ⟨_, rfl⟩) ?_
          refine Vk_get (pc := 95) (q := 0) hB rfl (by omega) (shM_j (by omega) (by omega)) fx_5_32 e_X5_isAhead_95 rfl rfl ?_
          refine V_aload_n (pc := 98) e_X5_isAhead_98 rfl (Or.inl ⟨_, rfl⟩) ?_
          refine Vk_get (pc := 99) (q := 0) hB rfl (by omega) (shM_j (by omega) (by omega)) fx_5_32 e_X5_isAhead_99 rfl rfl ?_
          refine V_icmp_ge (pc := 102) e_X5_isAhead_102 (by decide) (by omega) (by omega) (fun h102 => ?_) (fun h102 => ?_)
          · refine V_iconst (pc := 109) e_X5_isAhead_109 ?_
            refine V_ret (pc := 110) (v := some (zI _)) ⟨e_X5_isAhead_110, _, rfl, by decide⟩ ?_
            first | exact k0 | exact Qv k0 (by omega) rfl | (exfalso; omega)
          · refine V_iconst (pc := 105) e_X5_isAhead_105 ?_
            refine V_goto (pc := 106) e_X5_isAhead_106 (by decide) ?_
            refine V_ret (pc := 110) (v := some (zI _)) ⟨e_X5_isAhead_110, _, rfl, by decide⟩ ?_
            first | exact k0 | exact Qv k0 (by omega) rfl | (exfalso; omega)
        · refine V_aload_n (pc := 77) e_X5_isAhead_77 rfl (Or.inl ⟨_, rfl⟩) ?_
          refine Vk_get (pc := 78) (q := 11) hB rfl (by omega) (shM_j (by omega) (by omega)) fx_5_39 e_X5_isAhead_78 rfl rfl ?_
          refine V_aload_n (pc := 81) e_X5_isAhead_81 rfl (Or.inl ⟨_, rfl⟩) ?_
          refine Vk_get (pc := 82) (q := 11) hB rfl (by omega) (shM_j (by omega) (by omega)) fx_5_39 e_X5_isAhead_82 rfl rfl ?_
          refine V_icmp_le (pc := 85) e_X5_isAhead_85 (by decide) (by omega) (by omega) (fun h85 => ?_) (fun h85 => ?_)
          · refine V_iconst (pc := 92) e_X5_isAhead_92 ?_
            refine V_ret (pc := 93) (v := some (zI _)) ⟨e_X5_isAhead_93, _, rfl, by decide⟩ ?_
            first | exact k0 | exact Qv k0 (by omega) rfl | (exfalso; omega)
          · refine V_iconst (pc := 88) e_X5_isAhead_88 ?_
            refine V_goto (pc := 89) e_X5_isAhead_89 (by decide) ?_
            refine V_ret (pc := 93) (v := some (zI _)) ⟨e_X5_isAhead_93, _, rfl, by decide⟩ ?_
            first | exact k0 | exact Qv k0 (by omega) rfl | (exfalso; omega)
      · refine V_aload_n (pc := 38) e_X5_isAhead_38 rfl (Or.inl ⟨_, rfl⟩) ?_
        refine Vk_get (pc := 39) (q := 0) hB rfl (by omega) (shM_j (by omega) (by omega)) fx_5_32 e_X5_isAhead_39 rfl rfl ?_
        refine V_aload_n (pc := 42) e_X5_isAhead_42 rfl (Or.inl ⟨_, rfl⟩) ?_
        refine Vk_get (pc := 43) (q := 3) hB rfl (by decide) rfl fx_5_17 e_X5_isAhead_43 rfl rfl ?_
        refine V_icmp_ne (pc := 46) e_X5_isAhead_46 (by decide) (by omega) (by omega) (fun h46 => ?_) (fun h46 => ?_)
        · refine V_iconst (pc := 64) e_X5_isAhead_64 ?_
          refine V_ret (pc := 65) (v := some (zI _)) ⟨e_X5_isAhead_65, _, rfl, by decide⟩ ?_
          first | exact k0 | exact Qv k0 (by omega) rfl | (exfalso; omega)
        · refine V_aload_n (pc := 49) e_X5_isAhead_49 rfl (Or.inl ⟨_, rfl⟩) ?_
          refine Vk_get (pc := 50) (q := 0) hB rfl (by omega) (shM_j (by omega) (by omega)) fx_5_32 e_X5_isAhead_50 rfl rfl ?_
          refine V_aload_n (pc := 53) e_X5_isAhead_53 rfl (Or.inl ⟨_, rfl⟩) ?_
          refine Vk_get (pc := 54) (q := 3) hB rfl (by decide) rfl fx_5_17 e_X5_isAhead_54 rfl rfl ?_
          refine V_icmp_eq (pc := 57) e_X5_isAhead_57 (by decide) (by omega) (by omega) (fun h57 => ?_) (fun h57 => ?_)
          · refine V_iconst (pc := 64) e_X5_isAhead_64 ?_
            refine V_ret (pc := 65) (v := some (zI _)) ⟨e_X5_isAhead_65, _, rfl, by decide⟩ ?_
            first | exact k0 | exact Qv k0 (by omega) rfl | (exfalso; omega)
          · refine V_iconst (pc := 60) e_X5_isAhead_60 ?_
            refine V_goto (pc := 61) e_X5_isAhead_61 (by decide) ?_
            refine V_ret (pc := 65) (v := some (zI _)) ⟨e_X5_isAhead_65, _, rfl, by decide⟩ ?_
            first | exact k0 | exact Qv k0 (by omega) rfl | (exfalso; omega)
  · refine V_aload_n (pc := 11) e_X5_isAhead_11 rfl (Or.inl ⟨_, rfl⟩) ?_
    refine Vk_get (pc := 12) (q := 12) hB rfl (by omega) (shM_j (by omega) (by omega)) fx_5_35 e_X5_isAhead_12 rfl rfl ?_
    refine V_ret (pc := 15) (v := some (zI _)) ⟨e_X5_isAhead_15, _, rfl, (zi_nZ (by omega)).1⟩ ?_
    first | exact k0 | exact Qv k0 (by omega) rfl | (exfalso; omega)
theorem c_X5_isAhead {σ : Sto} {b : Nat} {c : Nat → Int → Int} {π : Int → Nat} {r : Int → Int} {Q : Option Value → Sto → Prop} (hB : MB b) (hQ : QR c π r) (hR : RR r) {p q : Int} (hS : SO r) (r7 : -3000000 ≤ r 7 ∧ r 7 ≤ 3000000) (p0 : 0 ≤ p ∧ p < r 0) (q0 : 0 ≤ q ∧ q < r 0) (k1 : ¬ p = q ∧ ahd r p q → Q (some (zI 1)) (kst b σ c π)) (k0 : ¬ (¬ p = q ∧ ahd r p q) → Q (some (zI 0)) (kst b σ c π)) : Con M_X5_isAhead 144 144 (kst b σ c π) [.ref (b + 5), .ref (b + π p), .ref (b + π q)] Q := by
  by_cases z : p = q
  · subst z
    exact c_X5_isAhead_e hB hQ hR r7 p0 (k0 (fun y => y.1 rfl))
  · exact c_X5_isAhead_n hB hQ hR hS r7 p0 q0 z k1 k0
theorem L_X5_jobsAheadOf {σ : Sto} {b : Nat} {c : Nat → Int → Int} {π : Int → Nat} {r : Int → Int} {Q : Option Value → Sto → Prop} (hB : MB b) (hQ : QR c π r) (hR : RR r) (hS : SO r) (r7 : -3000000 ≤ r 7 ∧ r 7 ≤ 3000000) {p : Int} (p0 : 0 ≤ p ∧ p < r 0) (k : Q (some (zI (ahN r p (r 0).toNat))) (kst b σ c π)) : ∀ n : Nat, n ≤ (r 0).toNat → V M_X5_jobsAheadOf 144 4 [(0, .ref (b + 5)), (1, .ref (b + π p)), (2, zI (ahN r p n)), (3, zI (n : Int))] [] 144 (kst b σ c π) Q := by
  refine loop_nat ((r 0).toNat) (fun n hn ih => ?_)
  obtain ⟨q1, q2, q3, qp, qj⟩ := hQ
  have h0 := hR.2.1
  have hQ0 : QR c π r := ⟨q1, q2, q3, qp, qj⟩
  have pj1 := qp.1 p (by omega) (by omega)
  have hj1 := qj p (by omega) (by omega)
  have hJ1 := hR.2.2.2 p (by omega) (by omega)
  have jj1 := hJ1
  unfold JB at jj1
  have jr1 := hj1
  unfold JR at jr1
  refine V_iload_n (pc := 4) e_X5_jobsAheadOf_4 rfl ?_
  refine V_aload_n (pc := 5) e_X5_jobsAheadOf_5 rfl (Or.inl ⟨_, rfl⟩) ?_
  refine Vk_get (pc := 6) (q := 1) hB rfl (by decide) rfl fx_5_22 e_X5_jobsAheadOf_6 rfl rfl ?_
  refine V_icmp_ge (pc := 9) e_X5_jobsAheadOf_9 (by decide) (by omega) (by omega) (fun h9 => ?_) (fun h9 => ?_)
  · refine V_iload_n (pc := 41) e_X5_jobsAheadOf_41 rfl ?_
    refine V_ret (pc := 42) (v := some (zI _)) ⟨e_X5_jobsAheadOf_42, _, rfl, rfl⟩ ?_
    exact Qv k (by rw [show n = (r 0).toNat by omega]) rfl
  · refine V_iload_n (pc := 12) e_X5_jobsAheadOf_12 rfl ?_
    refine V_bipush (pc := 13) (by decide) e_X5_jobsAheadOf_13 ?_
    refine V_icmp_ge (pc := 15) e_X5_jobsAheadOf_15 (by decide) (by omega) (by decide) (fun h15 => ?_) (fun h15 => ?_)
    · refine V_iload_n (pc := 41) e_X5_jobsAheadOf_41 rfl ?_
      refine V_ret (pc := 42) (v := some (zI _)) ⟨e_X5_jobsAheadOf_42, _, rfl, rfl⟩ ?_
      exact Qv k (by rw [show n = (r 0).toNat by omega]) rfl
    · have pj := qp.1 (n : Int) (by omega) (by omega)
      have hj := qj (n : Int) (by omega) (by omega)
      have hJ := hR.2.2.2 (n : Int) (by omega) (by omega)
      have jj := hJ
      unfold JB at jj
      have jr := hj
      unfold JR at jr
      refine V_aload_n (pc := 18) e_X5_jobsAheadOf_18 rfl (Or.inl ⟨_, rfl⟩) ?_
      refine V_aload_n (pc := 19) e_X5_jobsAheadOf_19 rfl (Or.inl ⟨_, rfl⟩) ?_
      refine Vk_getR (pc := 20) (q := 0) hB rfl (by decide) rfl fx_5_11 e_X5_jobsAheadOf_20 rfl rfl (by decide) rfl ?_
      refine V_iload_n (pc := 23) e_X5_jobsAheadOf_23 rfl ?_
      refine Vk_ald (pc := 24) hB rfl e_X5_jobsAheadOf_24 (by omega) ?_
      refine V_aload_n (pc := 25) e_X5_jobsAheadOf_25 rfl (Or.inl ⟨_, rfl⟩) ?_
      refine V_cV2 (pc := 26) ca_5_42 e_X5_jobsAheadOf_26 (by decide) (Nat.le_of_ble_eq_true rfl) (kb_lt hB (by decide)) ((shB hB (by decide)).trans rfl) (by decide) (c_X5_isAhead hB hQ0 hR hS r7 (by omega) (by omega) (fun h_ia => ?_) (fun h_ia => ?_))
      · refine V_if_eq (pc := 29) e_X5_jobsAheadOf_29 (by decide) (by decide) (fun h => absurd h (by decide)) (fun _ => ?_)
        refine V_iinc (pc := 32) e_X5_jobsAheadOf_32 rfl (by decide) ?_
        refine V_iinc (pc := 35) e_X5_jobsAheadOf_35 rfl (by decide) ?_
        refine V_goto (pc := 38) e_X5_jobsAheadOf_38 (by decide) ?_
        exact V_lq [(0, .ref (b + 5)), (1, .ref (b + π p)), (2, zI (ahN r p (n + 1))), (3, zI ((n + 1 : Nat) : Int))] ⟨⟨_, rfl, rfl⟩, ⟨_, rfl, rfl⟩, ⟨_, rfl, congrArg (fun e : Int => zI e) (by (show _ = ahN r p n + (if ¬ (n : Int) = p ∧ ahd r (n : Int) p then 1 else 0)); split <;> omega)⟩, ⟨_, rfl, rfl⟩, trivial⟩ (ih (by omega))
      · refine V_if_eq (pc := 29) e_X5_jobsAheadOf_29 (by decide) (by decide) (fun _ => ?_) (fun h => absurd (by decide) h)
        refine V_iinc (pc := 35) e_X5_jobsAheadOf_35 rfl (by decide) ?_
        refine V_goto (pc := 38) e_X5_jobsAheadOf_38 (by decide) ?_
        exact V_lq [(0, .ref (b + 5)), (1, .ref (b + π p)), (2, zI (ahN r p (n + 1))), (3, zI ((n + 1 : Nat) : Int))] ⟨⟨_, rfl, rfl⟩, ⟨_, rfl, rfl⟩, ⟨_, rfl, congrArg (fun e : Int => zI e) (by (show _ = ahN r p n + (if ¬ (n : Int) = p ∧ ahd r (n : Int) p then 1 else 0)); split <;> omega)⟩, ⟨_, rfl, rfl⟩, trivial⟩ (ih (by omega))
theorem c_X5_jobsAheadOf {σ : Sto} {b : Nat} {c : Nat → Int → Int} {π : Int → Nat} {r : Int → Int} {Q : Option Value → Sto → Prop} (hB : MB b) (hQ : QR c π r) (hR : RR r) (hS : SO r) (r7 : -3000000 ≤ r 7 ∧ r 7 ≤ 3000000) {p : Int} (p0 : 0 ≤ p ∧ p < r 0) (k : Q (some (zI (ahN r p (r 0).toNat))) (kst b σ c π)) : Con M_X5_jobsAheadOf 144 144 (kst b σ c π) [.ref (b + 5), .ref (b + π p)] Q := by
  refine V_entry ok_X5_jobsAheadOf (Nat.le_refl _) (Nat.le_of_ble_eq_true rfl) (V_ls [(0, .ref (b + 5)), (1, .ref (b + π p))] ⟨rfl, rfl, trivial⟩ ?_)
  obtain ⟨q1, q2, q3, qp, qj⟩ := hQ
  have h0 := hR.2.1
  refine V_iconst (pc := 0) e_X5_jobsAheadOf_0 ?_
  refine V_istore_n (pc := 1) e_X5_jobsAheadOf_1 (by decide) ?_
  refine V_iconst (pc := 2) e_X5_jobsAheadOf_2 ?_
  refine V_istore_n (pc := 3) e_X5_jobsAheadOf_3 (by decide) ?_
  exact V_lq [(0, .ref (b + 5)), (1, .ref (b + π p)), (2, zI (ahN r p 0)), (3, zI ((0 : Nat) : Int))] ⟨⟨_, rfl, rfl⟩, ⟨_, rfl, rfl⟩, ⟨_, rfl, rfl⟩, ⟨_, rfl, rfl⟩, trivial⟩ (L_X5_jobsAheadOf hB ⟨q1, q2, q3, qp, qj⟩ hR hS r7 p0 k 0 (by omega))
theorem L_X5_at {σ : Sto} {b : Nat} {c : Nat → Int → Int} {π : Int → Nat} {r : Int → Int} {Q : Option Value → Sto → Prop} (hB : MB b) (hQ : QR c π r) (hR : RR r) (hS : SO r) (r7 : -3000000 ≤ r 7 ∧ r 7 ≤ 3000000) {q : Int} (r_q : -2147483648 ≤ q ∧ q < 2147483648) (k1 : ∀ i : Int, 0 ≤ i → i < r 0 → quF r q (r 0).toNat 0 = jf r i 0 → Q (some (.ref (b + π i))) (kst b σ c π)) (k0 : quF r q (r 0).toNat 0 = -4 → Q (some .null) (kst b σ c π)) : ∀ n : Nat, n ≤ (r 0).toNat → quF r q (r 0).toNat 0 = quF r q ((r 0).toNat - n) n → V M_X5_at 144 2 [(0, .ref (b + 5)), (1, zI q), (2, zI (n : Int))] [] 144 (kst b σ c π) Q := by
  refine loop_nat ((r 0).toNat) (fun n hn ih => ?_)
  intro hv
  obtain ⟨q1, q2, q3, qp, qj⟩ := hQ
  have h0 := hR.2.1
  have hQ0 : QR c π r := ⟨q1, q2, q3, qp, qj⟩
  refine V_iload_n (pc := 2) e_X5_at_2 rfl ?_
  refine V_aload_n (pc := 3) e_X5_at_3 rfl (Or.inl ⟨_, rfl⟩) ?_
  refine Vk_get (pc := 4) (q := 1) hB rfl (by decide) rfl fx_5_22 e_X5_at_4 rfl rfl ?_
  refine V_icmp_ge (pc := 7) e_X5_at_7 (by decide) (by omega) (by omega) (fun h7 => ?_) (fun h7 => ?_)
  · refine V_null (pc := 43) e_X5_at_43 ?_
    refine V_ret (pc := 44) (v := some .null) ⟨e_X5_at_44, _, rfl⟩ ?_
    exact k0 (by rw [hv, show (r 0).toNat - n = 0 by omega]; rfl)
  · refine V_iload_n (pc := 10) e_X5_at_10 rfl ?_
    refine V_bipush (pc := 11) (by decide) e_X5_at_11 ?_
    refine V_icmp_ge (pc := 13) e_X5_at_13 (by decide) (by omega) (by decide) (fun h13 => ?_) (fun h13 => ?_)
    · refine V_null (pc := 43) e_X5_at_43 ?_
      refine V_ret (pc := 44) (v := some .null) ⟨e_X5_at_44, _, rfl⟩ ?_
      exact k0 (by rw [hv, show (r 0).toNat - n = 0 by omega]; rfl)
    · have pj := qp.1 (n : Int) (by omega) (by omega)
      have hj := qj (n : Int) (by omega) (by omega)
      have hJ := hR.2.2.2 (n : Int) (by omega) (by omega)
      have jj := hJ
      unfold JB at jj
      have jr := hj
      unfold JR at jr
      have ar := ahN_rg r (n : Int) (r 0).toNat
      have e : (r 0).toNat - n = ((r 0).toNat - (n + 1)) + 1 := by omega
      refine V_aload_n (pc := 16) e_X5_at_16 rfl (Or.inl ⟨_, rfl⟩) ?_
      refine V_aload_n (pc := 17) e_X5_at_17 rfl (Or.inl ⟨_, rfl⟩) ?_
      refine Vk_getR (pc := 18) (q := 0) hB rfl (by decide) rfl fx_5_11 e_X5_at_18 rfl rfl (by decide) rfl ?_
      refine V_iload_n (pc := 21) e_X5_at_21 rfl ?_
      refine Vk_ald (pc := 22) hB rfl e_X5_at_22 (by omega) ?_
      refine V_cV1 (pc := 23) ca_5_46 e_X5_at_23 (by decide) (Nat.le_of_ble_eq_true rfl) (kb_lt hB (by decide)) ((shB hB (by decide)).trans rfl) (by decide) (c_X5_jobsAheadOf hB hQ0 hR hS r7 (by omega) ?_)
      refine V_iload_n (pc := 26) e_X5_at_26 rfl ?_
      refine V_icmp_ne (pc := 27) e_X5_at_27 (by decide) (by omega) (by omega) (fun h27 => ?_) (fun h27 => ?_)
      · refine V_iinc (pc := 37) e_X5_at_37 rfl (by decide) ?_
        refine V_goto (pc := 40) e_X5_at_40 (by decide) ?_
        exact V_lq [(0, .ref (b + 5)), (1, zI q), (2, zI ((n + 1 : Nat) : Int))] ⟨⟨_, rfl, rfl⟩, ⟨_, rfl, rfl⟩, ⟨_, rfl, rfl⟩, trivial⟩ (ih (by omega) (by rw [hv, e, quF, if_neg h27]))
      · refine V_aload_n (pc := 30) e_X5_at_30 rfl (Or.inl ⟨_, rfl⟩) ?_
        refine Vk_getR (pc := 31) (q := 0) hB rfl (by decide) rfl fx_5_11 e_X5_at_31 rfl rfl (by decide) rfl ?_
        refine V_iload_n (pc := 34) e_X5_at_34 rfl ?_
        refine Vk_ald (pc := 35) hB rfl e_X5_at_35 (by omega) ?_
        refine V_ret (pc := 36) (v := some (.ref _)) ⟨e_X5_at_36, _, rfl⟩ ?_
        exact k1 (n : Int) (by omega) (by omega) (by rw [hv, e, quF, if_pos h27])
theorem c_X5_at {σ : Sto} {b : Nat} {c : Nat → Int → Int} {π : Int → Nat} {r : Int → Int} {Q : Option Value → Sto → Prop} (hB : MB b) (hQ : QR c π r) (hR : RR r) (hS : SO r) (r7 : -3000000 ≤ r 7 ∧ r 7 ≤ 3000000) {q : Int} (r_q : -2147483648 ≤ q ∧ q < 2147483648) (k1 : ∀ i : Int, 0 ≤ i → i < r 0 → quF r q (r 0).toNat 0 = jf r i 0 → Q (some (.ref (b + π i))) (kst b σ c π)) (k0 : quF r q (r 0).toNat 0 = -4 → Q (some .null) (kst b σ c π)) : Con M_X5_at 144 144 (kst b σ c π) [.ref (b + 5), zI q] Q := by
  refine V_entry ok_X5_at (Nat.le_refl _) (Nat.le_of_ble_eq_true rfl) (V_ls [(0, .ref (b + 5)), (1, zI q)] ⟨rfl, rfl, trivial⟩ ?_)
  obtain ⟨q1, q2, q3, qp, qj⟩ := hQ
  have h0 := hR.2.1
  refine V_iconst (pc := 0) e_X5_at_0 ?_
  refine V_istore_n (pc := 1) e_X5_at_1 (by decide) ?_
  exact V_lq [(0, .ref (b + 5)), (1, zI q), (2, zI ((0 : Nat) : Int))] ⟨⟨_, rfl, rfl⟩, ⟨_, rfl, rfl⟩, ⟨_, rfl, rfl⟩, trivial⟩ (L_X5_at hB ⟨q1, q2, q3, qp, qj⟩ hR hS r7 r_q k1 k0 0 (by omega) rfl)
/-- the first in the order among the first n, held ones too -/
def fxF (r : Int → Int) : Nat → Int
  | 0 => 0
  | n + 1 => if n = 0 ∨ (¬ (n : Int) = fxF r n ∧ ahd r (n : Int) (fxF r n)) then (n : Int) else fxF r n
theorem fxF_rg (r : Int → Int) : ∀ n : Nat, 1 ≤ n → 0 ≤ fxF r n ∧ fxF r n < (n : Int)
  | 0, h => absurd h (by decide)
  | n + 1, _ => by
    unfold fxF
    split
    · omega
    · next z =>
      have := fxF_rg r n (by omega)
      omega
theorem fx_nx {r : Int → Int} (hR : RR r) : ∀ n : Nat, 1 ≤ n → (n : Int) ≤ r 0 → (0 ≤ nxF r n → fxF r n = nxF r n) ∧ (nxF r n < 0 → jf r (fxF r n) 7 = 1)
  | 0, h, _ => absurd h (by decide)
  | n + 1, _, hn => by
    have hJ := hR.2.2.2 (n : Int) (by omega) (by omega)
    unfold JB at hJ
    have x := nxF_rg r n
    have b7 : 0 ≤ jf r (n : Int) 7 ∧ jf r (n : Int) 7 ≤ 1 := by omega
    clear hJ
    by_cases z : n = 0
    · have e2 : nxF r n = -1 := by rw [z]; rfl
      unfold nxF fxF
      rw [if_pos (Or.inl z)]
      split
      · next y => exact ⟨fun _ => rfl, fun q => absurd q (by omega)⟩
      · next y => exact ⟨fun q => absurd q (by omega), fun _ => by omega⟩
    · have i := fx_nx hR n (by omega) (by omega)
      have f := fxF_rg r n (by omega)
      have hK := hR.2.2.2 (fxF r n) (by omega) (by omega)
      unfold JB at hK
      have b8 : 0 ≤ jf r (fxF r n) 7 ∧ jf r (fxF r n) 7 ≤ 1 := by omega
      clear hK
      unfold nxF fxF
      by_cases w : nxF r n < 0
      · have i2 := i.2 w
        by_cases y : jf r (n : Int) 7 = 0
        · rw [if_pos (by omega), if_pos (by omega)]
          exact ⟨fun _ => rfl, fun q => absurd q (by omega)⟩
        · rw [if_neg (fun q => y q.1)]
          refine ⟨fun q => absurd q (by omega), fun _ => ?_⟩
          split
          · omega
          · exact i2
      · have i1 := i.1 (by omega)
        rw [i1] at b8 ⊢
        have x3 := x.2.2 (by omega)
        by_cases y : jf r (n : Int) 7 = 0 ∧ ahd r (n : Int) (nxF r n)
        · rw [if_pos (by omega), if_pos (by omega)]
          exact ⟨fun _ => rfl, fun q => absurd q (by omega)⟩
        · rw [if_neg (by omega), if_neg (by omega)]
          exact ⟨fun _ => rfl, fun q => absurd q w⟩
theorem L_X5_next {σ : Sto} {b : Nat} {c : Nat → Int → Int} {π : Int → Nat} {r : Int → Int} {Q : Option Value → Sto → Prop} (hB : MB b) (hQ : QR c π r) (hR : RR r) (hS : SO r) (r7 : -3000000 ≤ r 7 ∧ r 7 ≤ 3000000) (k1 : 0 ≤ nxj r → Q (some (.ref (b + π (nxj r)))) (kst b σ c π)) (k0 : nxj r < 0 → Q (some .null) (kst b σ c π)) : ∀ n : Nat, n ≤ (r 0).toNat → 1 ≤ n → V M_X5_next 144 4 [(0, .ref (b + 5)), (1, .ref (b + π (fxF r n))), (2, zI (n : Int))] [] 144 (kst b σ c π) Q := by
  refine loop_nat ((r 0).toNat) (fun n hn ih => ?_)
  intro hv
  obtain ⟨q1, q2, q3, qp, qj⟩ := hQ
  have h0 := hR.2.1
  have hQ0 : QR c π r := ⟨q1, q2, q3, qp, qj⟩
  have fr := fxF_rg r n
  refine V_iload_n (pc := 4) e_X5_next_4 rfl ?_
  refine V_aload_n (pc := 5) e_X5_next_5 rfl (Or.inl ⟨_, rfl⟩) ?_
  refine Vk_get (pc := 6) (q := 1) hB rfl (by decide) rfl fx_5_22 e_X5_next_6 rfl rfl ?_
  refine V_icmp_ge (pc := 9) e_X5_next_9 (by decide) (by omega) (by omega) (fun h9 => ?_) (fun h9 => ?_)
  · refine V_aload_n (pc := 49) e_X5_next_49 rfl (Or.inl ⟨_, rfl⟩) ?_
    refine V_ifnull (pc := 50) e_X5_next_50 (by decide) trivial (fun h => by cases h) (fun _ => ?_)
    have fr := fr hv
    have pj2 := qp.1 (fxF r n) (by omega) (by omega)
    have hj2 := qj (fxF r n) (by omega) (by omega)
    have hJ2 := hR.2.2.2 (fxF r n) (by omega) (by omega)
    have jj2 := hJ2
    unfold JB at jj2
    have jr2 := hj2
    unfold JR at jr2
    refine V_aload_n (pc := 53) e_X5_next_53 rfl (Or.inl ⟨_, rfl⟩) ?_
    refine Vk_get (pc := 54) (q := 12) hB rfl (by omega) (shM_j (by omega) (by omega)) fx_5_35 e_X5_next_54 rfl rfl ?_
    refine V_if_eq (pc := 57) e_X5_next_57 (by decide) (by omega) (fun h57 => ?_) (fun h57 => ?_)
    · refine V_aload_n (pc := 64) e_X5_next_64 rfl (Or.inl ⟨_, rfl⟩) ?_
      refine V_ret (pc := 65) (v := some (.ref _)) ⟨e_X5_next_65, _, rfl⟩ ?_
      have e : n = (r 0).toNat := by omega
      subst e
      have fn := fx_nx hR (r 0).toNat (by omega) (by omega)
      have nr := nxF_rg r (r 0).toNat
      unfold nxj at k1 k0
      have e2 := fn.1 (by omega)
      rw [e2]
      exact k1 (by omega)
    · refine V_null (pc := 60) e_X5_next_60 ?_
      refine V_goto (pc := 61) e_X5_next_61 (by decide) ?_
      refine V_ret (pc := 65) (v := some .null) ⟨e_X5_next_65, _, rfl⟩ ?_
      have e : n = (r 0).toNat := by omega
      subst e
      have fn := fx_nx hR (r 0).toNat (by omega) (by omega)
      have nr := nxF_rg r (r 0).toNat
      unfold nxj at k1 k0
      exact k0 (by
        apply Classical.byContradiction
        intro z
        have e2 := fn.1 (by omega)
        have e3 := nr.2.2 (by omega)
        have e4 : jf r (fxF r (r 0).toNat) 7 = 0 := by rw [e2]; exact e3
        omega)
  · refine V_iload_n (pc := 12) e_X5_next_12 rfl ?_
    refine V_bipush (pc := 13) (by decide) e_X5_next_13 ?_
    refine V_icmp_ge (pc := 15) e_X5_next_15 (by decide) (by omega) (by decide) (fun h15 => ?_) (fun h15 => ?_)
    · refine V_aload_n (pc := 49) e_X5_next_49 rfl (Or.inl ⟨_, rfl⟩) ?_
      refine V_ifnull (pc := 50) e_X5_next_50 (by decide) trivial (fun h => by cases h) (fun _ => ?_)
      have fr := fr hv
      have pj2 := qp.1 (fxF r n) (by omega) (by omega)
      have hj2 := qj (fxF r n) (by omega) (by omega)
      have hJ2 := hR.2.2.2 (fxF r n) (by omega) (by omega)
      have jj2 := hJ2
      unfold JB at jj2
      have jr2 := hj2
      unfold JR at jr2
      refine V_aload_n (pc := 53) e_X5_next_53 rfl (Or.inl ⟨_, rfl⟩) ?_
      refine Vk_get (pc := 54) (q := 12) hB rfl (by omega) (shM_j (by omega) (by omega)) fx_5_35 e_X5_next_54 rfl rfl ?_
      refine V_if_eq (pc := 57) e_X5_next_57 (by decide) (by omega) (fun h57 => ?_) (fun h57 => ?_)
      · refine V_aload_n (pc := 64) e_X5_next_64 rfl (Or.inl ⟨_, rfl⟩) ?_
        refine V_ret (pc := 65) (v := some (.ref _)) ⟨e_X5_next_65, _, rfl⟩ ?_
        have e : n = (r 0).toNat := by omega
        subst e
        have fn := fx_nx hR (r 0).toNat (by omega) (by omega)
        have nr := nxF_rg r (r 0).toNat
        unfold nxj at k1 k0
        have e2 := fn.1 (by omega)
        rw [e2]
        exact k1 (by omega)
      · refine V_null (pc := 60) e_X5_next_60 ?_
        refine V_goto (pc := 61) e_X5_next_61 (by decide) ?_
        refine V_ret (pc := 65) (v := some .null) ⟨e_X5_next_65, _, rfl⟩ ?_
        have e : n = (r 0).toNat := by omega
        subst e
        have fn := fx_nx hR (r 0).toNat (by omega) (by omega)
        have nr := nxF_rg r (r 0).toNat
        unfold nxj at k1 k0
        exact k0 (by
          apply Classical.byContradiction
          intro z
          have e2 := fn.1 (by omega)
          have e3 := nr.2.2 (by omega)
          have e4 : jf r (fxF r (r 0).toNat) 7 = 0 := by rw [e2]; exact e3
          omega)
    · have pj := qp.1 (n : Int) (by omega) (by omega)
      have hj := qj (n : Int) (by omega) (by omega)
      have hJ := hR.2.2.2 (n : Int) (by omega) (by omega)
      have jj := hJ
      unfold JB at jj
      have jr := hj
      unfold JR at jr
      have fr := fr hv
      have pj2 := qp.1 (fxF r n) (by omega) (by omega)
      have hj2 := qj (fxF r n) (by omega) (by omega)
      have hJ2 := hR.2.2.2 (fxF r n) (by omega) (by omega)
      have jj2 := hJ2
      unfold JB at jj2
      have jr2 := hj2
      unfold JR at jr2
      refine V_aload_n (pc := 18) e_X5_next_18 rfl (Or.inl ⟨_, rfl⟩) ?_
      refine V_ifnull (pc := 19) e_X5_next_19 (by decide) trivial (fun h => by cases h) (fun _ => ?_)
      refine V_aload_n (pc := 22) e_X5_next_22 rfl (Or.inl ⟨_, rfl⟩) ?_
      refine V_aload_n (pc := 23) e_X5_next_23 rfl (Or.inl ⟨_, rfl⟩) ?_
      refine Vk_getR (pc := 24) (q := 0) hB rfl (by decide) rfl fx_5_11 e_X5_next_24 rfl rfl (by decide) rfl ?_
      refine V_iload_n (pc := 27) e_X5_next_27 rfl ?_
      refine Vk_ald (pc := 28) hB rfl e_X5_next_28 (by omega) ?_
      refine V_aload_n (pc := 29) e_X5_next_29 rfl (Or.inl ⟨_, rfl⟩) ?_
      refine V_cV2 (pc := 30) ca_5_42 e_X5_next_30 (by decide) (Nat.le_of_ble_eq_true rfl) (kb_lt hB (by decide)) ((shB hB (by decide)).trans rfl) (by decide) (c_X5_isAhead hB hQ0 hR hS r7 (by omega) (by omega) (fun h_ia => ?_) (fun h_ia => ?_))
      · refine V_if_eq (pc := 33) e_X5_next_33 (by decide) (by decide) (fun h => absurd h (by decide)) (fun _ => ?_)
        refine V_aload_n (pc := 36) e_X5_next_36 rfl (Or.inl ⟨_, rfl⟩) ?_
        refine Vk_getR (pc := 37) (q := 0) hB rfl (by decide) rfl fx_5_11 e_X5_next_37 rfl rfl (by decide) rfl ?_
        refine V_iload_n (pc := 40) e_X5_next_40 rfl ?_
        refine Vk_ald (pc := 41) hB rfl e_X5_next_41 (by omega) ?_
        refine V_astore_n (pc := 42) e_X5_next_42 (Or.inl ⟨_, rfl⟩) (by decide) ?_
        refine V_iinc (pc := 43) e_X5_next_43 rfl (by decide) ?_
        refine V_goto (pc := 46) e_X5_next_46 (by decide) ?_
        exact V_lq [(0, .ref (b + 5)), (1, .ref (b + π (fxF r (n + 1)))), (2, zI ((n + 1 : Nat) : Int))] ⟨⟨_, rfl, rfl⟩, ⟨_, rfl, congrArg (fun e : Int => Value.ref (b + π e)) (by (show _ = (if n = 0 ∨ (¬ (n : Int) = fxF r n ∧ ahd r (n : Int) (fxF r n)) then (n : Int) else fxF r n)); split <;> first | rfl | (exfalso; omega))⟩, ⟨_, rfl, rfl⟩, trivial⟩ (ih (by omega) (by omega))
      · refine V_if_eq (pc := 33) e_X5_next_33 (by decide) (by decide) (fun _ => ?_) (fun h => absurd (by decide) h)
        refine V_iinc (pc := 43) e_X5_next_43 rfl (by decide) ?_
        refine V_goto (pc := 46) e_X5_next_46 (by decide) ?_
        exact V_lq [(0, .ref (b + 5)), (1, .ref (b + π (fxF r (n + 1)))), (2, zI ((n + 1 : Nat) : Int))] ⟨⟨_, rfl, rfl⟩, ⟨_, rfl, congrArg (fun e : Int => Value.ref (b + π e)) (by (show _ = (if n = 0 ∨ (¬ (n : Int) = fxF r n ∧ ahd r (n : Int) (fxF r n)) then (n : Int) else fxF r n)); split <;> first | rfl | (exfalso; omega))⟩, ⟨_, rfl, rfl⟩, trivial⟩ (ih (by omega) (by omega))
theorem c_X5_next {σ : Sto} {b : Nat} {c : Nat → Int → Int} {π : Int → Nat} {r : Int → Int} {Q : Option Value → Sto → Prop} (hB : MB b) (hQ : QR c π r) (hR : RR r) (hS : SO r) (r7 : -3000000 ≤ r 7 ∧ r 7 ≤ 3000000) (k1 : 0 ≤ nxj r → Q (some (.ref (b + π (nxj r)))) (kst b σ c π)) (k0 : nxj r < 0 → Q (some .null) (kst b σ c π)) : Con M_X5_next 144 144 (kst b σ c π) [.ref (b + 5)] Q := by
  refine V_entry ok_X5_next (Nat.le_refl _) (Nat.le_of_ble_eq_true rfl) (V_ls [(0, .ref (b + 5))] ⟨rfl, trivial⟩ ?_)
  obtain ⟨q1, q2, q3, qp, qj⟩ := hQ
  have h0 := hR.2.1
  have hQ0 : QR c π r := ⟨q1, q2, q3, qp, qj⟩
  have fz : fxF r 1 = 0 := rfl
  refine V_null (pc := 0) e_X5_next_0 ?_
  refine V_astore_n (pc := 1) e_X5_next_1 (Or.inr (Or.inl rfl)) (by decide) ?_
  refine V_iconst (pc := 2) e_X5_next_2 ?_
  refine V_istore_n (pc := 3) e_X5_next_3 (by decide) ?_
  refine V_iload_n (pc := 4) e_X5_next_4 rfl ?_
  refine V_aload_n (pc := 5) e_X5_next_5 rfl (Or.inl ⟨_, rfl⟩) ?_
  refine Vk_get (pc := 6) (q := 1) hB rfl (by decide) rfl fx_5_22 e_X5_next_6 rfl rfl ?_
  refine V_icmp_ge (pc := 9) e_X5_next_9 (by decide) (by decide) (by omega) (fun h9 => ?_) (fun h9 => ?_)
  · refine V_aload_n (pc := 49) e_X5_next_49 rfl (Or.inr (Or.inl rfl)) ?_
    refine V_ifnull (pc := 50) e_X5_next_50 (by decide) trivial (fun _ => ?_) (fun h => absurd rfl h)
    refine V_null (pc := 60) e_X5_next_60 ?_
    refine V_goto (pc := 61) e_X5_next_61 (by decide) ?_
    refine V_ret (pc := 65) (v := some .null) ⟨e_X5_next_65, _, rfl⟩ ?_
    exact k0 (by unfold nxj; rw [show (r 0).toNat = 0 by omega]; show (-1 : Int) < 0; decide)
  · refine V_iload_n (pc := 12) e_X5_next_12 rfl ?_
    refine V_bipush (pc := 13) (by decide) e_X5_next_13 ?_
    refine V_icmp_ge (pc := 15) e_X5_next_15 (by decide) (by decide) (by decide) (fun h => absurd h (by decide)) (fun _ => ?_)
    refine V_aload_n (pc := 18) e_X5_next_18 rfl (Or.inr (Or.inl rfl)) ?_
    refine V_ifnull (pc := 19) e_X5_next_19 (by decide) trivial (fun _ => ?_) (fun h => absurd rfl h)
    have pj := qp.1 (0 : Int) (by omega) (by omega)
    have hj := qj (0 : Int) (by omega) (by omega)
    have hJ := hR.2.2.2 (0 : Int) (by omega) (by omega)
    have jj := hJ
    unfold JB at jj
    have jr := hj
    unfold JR at jr
    refine V_aload_n (pc := 36) e_X5_next_36 rfl (Or.inl ⟨_, rfl⟩) ?_
    refine Vk_getR (pc := 37) (q := 0) hB rfl (by decide) rfl fx_5_11 e_X5_next_37 rfl rfl (by decide) rfl ?_
    refine V_iload_n (pc := 40) e_X5_next_40 rfl ?_
    refine Vk_ald (pc := 41) hB rfl e_X5_next_41 (by decide) ?_
    refine V_astore_n (pc := 42) e_X5_next_42 (Or.inl ⟨_, rfl⟩) (by decide) ?_
    refine V_iinc (pc := 43) e_X5_next_43 rfl (by decide) ?_
    refine V_goto (pc := 46) e_X5_next_46 (by decide) ?_
    exact V_lq [(0, .ref (b + 5)), (1, .ref (b + π (fxF r 1))), (2, zI ((1 : Nat) : Int))] ⟨⟨_, rfl, rfl⟩, ⟨_, rfl, rfl⟩, ⟨_, rfl, rfl⟩, trivial⟩ (L_X5_next hB hQ0 hR hS r7 k1 k0 1 (by omega) (Nat.le_refl _))
def spN (r : Int → Int) (s q : Int) : Nat → Int
  | 0 => 0
  | n + 1 => spN r s q n + (if jf r (n : Int) 3 = s ∧ jf r (n : Int) 4 = q then als r (n : Int) - jf r (n : Int) 8 else 0)
theorem L_X5_sheetsToPrint {σ : Sto} {b : Nat} {c : Nat → Int → Int} {π : Int → Nat} {r : Int → Int} {Q : Option Value → Sto → Prop} (hB : MB b) (hQ : QR c π r) (hR : RR r) {s q : Int} (r_s : -2147483648 ≤ s ∧ s < 2147483648) (r_q : -2147483648 ≤ q ∧ q < 2147483648) (k : Q (some (zI (spN r s q (r 0).toNat))) (kst b σ c π)) : ∀ n : Nat, n ≤ (r 0).toNat → V M_X5_sheetsToPrint 144 5 [(0, .ref (b + 5)), (1, zI s), (2, zI q), (3, zI (spN r s q n)), (4, zI (n : Int))] [] 144 (kst b σ c π) Q := by
  refine loop_nat ((r 0).toNat) (fun n hn ih => ?_)
  obtain ⟨q1, q2, q3, qp, qj⟩ := hQ
  have h0 := hR.2.1
  refine V_iload (pc := 5) e_X5_sheetsToPrint_5 rfl ?_
  refine V_aload_n (pc := 7) e_X5_sheetsToPrint_7 rfl (Or.inl ⟨_, rfl⟩) ?_
  refine Vk_get (pc := 8) (q := 1) hB rfl (by decide) rfl fx_5_22 e_X5_sheetsToPrint_8 rfl rfl ?_
  refine V_icmp_ge (pc := 11) e_X5_sheetsToPrint_11 (by decide) (by omega) (by omega) (fun h11 => ?_) (fun h11 => ?_)
  · refine V_iload_n (pc := 66) e_X5_sheetsToPrint_66 rfl ?_
    refine V_ret (pc := 67) (v := some (zI _)) ⟨e_X5_sheetsToPrint_67, _, rfl, rfl⟩ ?_
    exact Qv k (by rw [show n = (r 0).toNat by omega]) rfl
  · refine V_iload (pc := 14) e_X5_sheetsToPrint_14 rfl ?_
    refine V_bipush (pc := 16) (by decide) e_X5_sheetsToPrint_16 ?_
    refine V_icmp_ge (pc := 18) e_X5_sheetsToPrint_18 (by decide) (by omega) (by decide) (fun h18 => ?_) (fun h18 => ?_)
    · refine V_iload_n (pc := 66) e_X5_sheetsToPrint_66 rfl ?_
      refine V_ret (pc := 67) (v := some (zI _)) ⟨e_X5_sheetsToPrint_67, _, rfl, rfl⟩ ?_
      exact Qv k (by rw [show n = (r 0).toNat by omega]) rfl
    · have pj := qp.1 (n : Int) (by omega) (by omega)
      have hj := qj (n : Int) (by omega) (by omega)
      have hJ := hR.2.2.2 (n : Int) (by omega) (by omega)
      have jj := hJ
      unfold JB at jj
      have jr := hj
      unfold JR at jr
      refine V_aload_n (pc := 21) e_X5_sheetsToPrint_21 rfl (Or.inl ⟨_, rfl⟩) ?_
      refine Vk_getR (pc := 22) (q := 0) hB rfl (by decide) rfl fx_5_11 e_X5_sheetsToPrint_22 rfl rfl (by decide) rfl ?_
      refine V_iload (pc := 25) e_X5_sheetsToPrint_25 rfl ?_
      refine Vk_ald (pc := 27) hB rfl e_X5_sheetsToPrint_27 (by omega) ?_
      refine V_iload_n (pc := 28) e_X5_sheetsToPrint_28 rfl ?_
      refine V_iload_n (pc := 29) e_X5_sheetsToPrint_29 rfl ?_
      refine V_cV2 (pc := 30) ca_5_50 e_X5_sheetsToPrint_30 (by decide) (Nat.le_of_ble_eq_true rfl) (kb_lt hB (by omega)) ((shB hB (by omega)).trans (shM_j (by omega) (by omega))) (by decide) (c_X1_isOn hB (by omega) (by omega) (by omega) (by omega) (by omega) (fun h_on => ?_) (fun h_on => ?_))
      · refine V_if_eq (pc := 33) e_X5_sheetsToPrint_33 (by decide) (by decide) (fun h => absurd h (by decide)) (fun _ => ?_)
        refine V_iload_n (pc := 36) e_X5_sheetsToPrint_36 rfl ?_
        refine V_aload_n (pc := 37) e_X5_sheetsToPrint_37 rfl (Or.inl ⟨_, rfl⟩) ?_
        refine Vk_getR (pc := 38) (q := 0) hB rfl (by decide) rfl fx_5_11 e_X5_sheetsToPrint_38 rfl rfl (by decide) rfl ?_
        refine V_iload (pc := 41) e_X5_sheetsToPrint_41 rfl ?_
        refine Vk_ald (pc := 43) hB rfl e_X5_sheetsToPrint_43 (by omega) ?_
        refine Vk_get (pc := 44) (q := 10) hB rfl (by omega) (shM_j (by omega) (by omega)) fx_5_54 e_X5_sheetsToPrint_44 rfl rfl ?_
        refine V_aload_n (pc := 47) e_X5_sheetsToPrint_47 rfl (Or.inl ⟨_, rfl⟩) ?_
        refine Vk_getR (pc := 48) (q := 0) hB rfl (by decide) rfl fx_5_11 e_X5_sheetsToPrint_48 rfl rfl (by decide) rfl ?_
        refine V_iload (pc := 51) e_X5_sheetsToPrint_51 rfl ?_
        refine Vk_ald (pc := 53) hB rfl e_X5_sheetsToPrint_53 (by omega) ?_
        refine Vk_get (pc := 54) (q := 13) hB rfl (by omega) (shM_j (by omega) (by omega)) fx_5_57 e_X5_sheetsToPrint_54 rfl rfl ?_
        refine V_isub (pc := 57) e_X5_sheetsToPrint_57 ?_
        refine V_iadd (pc := 58) e_X5_sheetsToPrint_58 ?_
        refine V_istore_n (pc := 59) e_X5_sheetsToPrint_59 (by decide) ?_
        refine V_iinc (pc := 60) e_X5_sheetsToPrint_60 rfl (by decide) ?_
        refine V_goto (pc := 63) e_X5_sheetsToPrint_63 (by decide) ?_
        exact V_lq [(0, .ref (b + 5)), (1, zI s), (2, zI q), (3, zI (spN r s q (n + 1))), (4, zI ((n + 1 : Nat) : Int))] ⟨⟨_, rfl, rfl⟩, ⟨_, rfl, rfl⟩, ⟨_, rfl, rfl⟩, ⟨_, rfl, congrArg (fun e : Int => zI e) (by (show _ = spN r s q n + (if jf r (n : Int) 3 = s ∧ jf r (n : Int) 4 = q then als r (n : Int) - jf r (n : Int) 8 else 0)); split <;> omega)⟩, ⟨_, rfl, rfl⟩, trivial⟩ (ih (by omega))
      · refine V_if_eq (pc := 33) e_X5_sheetsToPrint_33 (by decide) (by decide) (fun _ => ?_) (fun h => absurd (by decide) h)
        refine V_iinc (pc := 60) e_X5_sheetsToPrint_60 rfl (by decide) ?_
        refine V_goto (pc := 63) e_X5_sheetsToPrint_63 (by decide) ?_
        exact V_lq [(0, .ref (b + 5)), (1, zI s), (2, zI q), (3, zI (spN r s q (n + 1))), (4, zI ((n + 1 : Nat) : Int))] ⟨⟨_, rfl, rfl⟩, ⟨_, rfl, rfl⟩, ⟨_, rfl, rfl⟩, ⟨_, rfl, congrArg (fun e : Int => zI e) (by (show _ = spN r s q n + (if jf r (n : Int) 3 = s ∧ jf r (n : Int) 4 = q then als r (n : Int) - jf r (n : Int) 8 else 0)); split <;> omega)⟩, ⟨_, rfl, rfl⟩, trivial⟩ (ih (by omega))
theorem c_X5_sheetsToPrint {σ : Sto} {b : Nat} {c : Nat → Int → Int} {π : Int → Nat} {r : Int → Int} {Q : Option Value → Sto → Prop} (hB : MB b) (hQ : QR c π r) (hR : RR r) {s q : Int} (r_s : -2147483648 ≤ s ∧ s < 2147483648) (r_q : -2147483648 ≤ q ∧ q < 2147483648) (k : Q (some (zI (spN r s q (r 0).toNat))) (kst b σ c π)) : Con M_X5_sheetsToPrint 144 144 (kst b σ c π) [.ref (b + 5), zI s, zI q] Q := by
  refine V_entry ok_X5_sheetsToPrint (Nat.le_refl _) (Nat.le_of_ble_eq_true rfl) (V_ls [(0, .ref (b + 5)), (1, zI s), (2, zI q)] ⟨rfl, rfl, rfl, trivial⟩ ?_)
  obtain ⟨q1, q2, q3, qp, qj⟩ := hQ
  have h0 := hR.2.1
  refine V_iconst (pc := 0) e_X5_sheetsToPrint_0 ?_
  refine V_istore_n (pc := 1) e_X5_sheetsToPrint_1 (by decide) ?_
  refine V_iconst (pc := 2) e_X5_sheetsToPrint_2 ?_
  refine V_istore (pc := 3) e_X5_sheetsToPrint_3 (by decide) ?_
  exact V_lq [(0, .ref (b + 5)), (1, zI s), (2, zI q), (3, zI (spN r s q 0)), (4, zI ((0 : Nat) : Int))] ⟨⟨_, rfl, rfl⟩, ⟨_, rfl, rfl⟩, ⟨_, rfl, rfl⟩, ⟨_, rfl, rfl⟩, ⟨_, rfl, rfl⟩, trivial⟩ (L_X5_sheetsToPrint hB ⟨q1, q2, q3, qp, qj⟩ hR r_s r_q k 0 (by omega))
