/-! the public methods that only ask -/
def HZ (σ : Sto) : Prop := σ.2.1 0 0 = some 1 ∧ σ.2.1 0 1 = some 24 ∧ σ.2.1 0 2 = some 47 ∧ σ.2.1 0 3 = some 141 ∧ σ.2.1 0 4 = some 143 ∧ σ.2.1 141 0 = some 142
section PUB
variable {M : MI} {N1 pc : Nat} {ls : List (Nat × Value)} {st : List Value} {Q : Option Value → Sto → Prop} {σ : Sto} {c : Nat → Int → Int} {π : Int → Nat} {ix ci k j i : Nat} {q : Int}
theorem Vp_getR (hr : σ.2.1 0 q = some j) (hf : fldR (miC M) ix = some (7, k)) (hd : decode (miB M) pc = .ok (.getfield ix, 3)) (ht : isRf (tyXs 7 k) = true) (hq : (k : Int) = q) (kk : V M N1 (pc + 3) ls (.ref j :: st) 150 (kst 1 σ c π) Q) : V M N1 pc ls (.ref 0 :: st) 150 (kst 1 σ c π) Q :=
  V_getR hf hd ht hq (by decide) rfl ((congrFun (kst_o2 (b := 1) (c := c) (π := π) (Or.inl (by decide))) q).trans hr) kk
theorem Vp_get (ho : i < 1 ∨ 1 + 23 ≤ i) (hi : i < 150) (hs : sh i = (0, ci)) (hf : fldR (miC M) ix = some (ci, k)) (hd : decode (miB M) pc = .ok (.getfield ix, 3)) (ht : isRf (tyXs ci k) = false) (hq : (k : Int) = q) (kk : V M N1 (pc + 3) ls (zI (σ.1 i q) :: st) 150 (kst 1 σ c π) Q) : V M N1 pc ls (.ref i :: st) 150 (kst 1 σ c π) Q := by
  refine V_get hf hd ht hq hi hs ?_
  rw [kst_o1 (b := 1) ho]
  exact kk
end PUB
theorem c_X7_settingAt {σ : Sto} {c : Nat → Int → Int} {π : Int → Nat} {r : Int → Int} {Q : Option Value → Sto → Prop} (hZ : HZ σ) (hM : MR c π r) (hI : RI r) {w : Int} (r_w : -2147483648 ≤ w ∧ w < 2147483648) (k1 : ¬ (0 ≤ w ∧ w ≤ 5) → Q (some (zI (-1))) (kst 1 σ c π)) (k2 : 0 ≤ w ∧ w ≤ 5 → Q (some (zI (r (10 + w)))) (kst 1 σ c π)) : Con M_X7_settingAt 150 150 (kst 1 σ c π) [.ref 0, zI w] Q := by
  refine V_entry ok_X7_settingAt (Nat.le_refl _) (Nat.le_of_ble_eq_true rfl) (V_ls [(0, .ref 0), (1, zI w)] ⟨rfl, rfl, trivial⟩ ?_)
  have hB : MB 1 := Or.inl rfl
  have hR := hI.rr
  obtain ⟨ni, hRB, hRT, hPA, hS, hJI, hWI⟩ := id hI
  obtain ⟨mT, mL, mS, mK, hQ⟩ := id hM
  have hT := mT
  unfold NI at ni
  refine V_iload_n (pc := 0) e_X7_settingAt_0 rfl ?_
  refine V_bipush (pc := 1) (by decide) e_X7_settingAt_1 ?_
  refine V_cS2 (pc := 3) ca_7_40 e_X7_settingAt_3 (by decide) (Nat.le_of_ble_eq_true rfl) (c_X7_isBelow (by omega) (by omega) (fun h_bl => ?_) (fun h_bl => ?_))
  · refine V_if_eq (pc := 6) e_X7_settingAt_6 (by decide) (by decide) (fun h => absurd h (by decide)) (fun _ => ?_)
    refine V_aload_n (pc := 9) e_X7_settingAt_9 rfl (Or.inl ⟨_, rfl⟩) ?_
    refine Vp_getR (pc := 10) (q := 0) (j := 1) hZ.1 fx_7_12 e_X7_settingAt_10 rfl rfl ?_
    refine Vk_getR (pc := 13) (i := 0) (q := 3) hB rfl (by decide) rfl fx_7_92 e_X7_settingAt_13 rfl rfl (by decide) rfl ?_
    refine V_iload_n (pc := 16) e_X7_settingAt_16 rfl ?_
    refine Vk_ld (pc := 17) (n := 6) hB rfl (by decide) rfl (by decide) e_X7_settingAt_17 (by omega) ?_
    refine V_goto (pc := 18) e_X7_settingAt_18 (by decide) ?_
    refine V_ret (pc := 22) (v := some (zI _)) ⟨e_X7_settingAt_22, _, rfl, rfl⟩ ?_
    rw [mS w (by omega) (by omega)]
    exact k2 (by omega)
  · refine V_if_eq (pc := 6) e_X7_settingAt_6 (by decide) (by decide) (fun _ => ?_) (fun h => absurd (by decide) h)
    refine V_iconst (pc := 21) e_X7_settingAt_21 ?_
    refine V_ret (pc := 22) (v := some (zI _)) ⟨e_X7_settingAt_22, _, rfl, rfl⟩ ?_
    exact k1 (by omega)
theorem c_X7_account {σ : Sto} {c : Nat → Int → Int} {π : Int → Nat} {r : Int → Int} {Q : Option Value → Sto → Prop} (hZ : HZ σ) (hM : MR c π r) (hI : RI r) {w : Int} (r_w : -2147483648 ≤ w ∧ w < 2147483648) (k1 : ¬ (0 ≤ w ∧ w ≤ 8) → Q (some (zI (-1))) (kst 1 σ c π)) (k2 : 0 ≤ w ∧ w ≤ 8 → Q (some (zI (r (16 + w)))) (kst 1 σ c π)) : Con M_X7_account 150 150 (kst 1 σ c π) [.ref 0, zI w] Q := by
  refine V_entry ok_X7_account (Nat.le_refl _) (Nat.le_of_ble_eq_true rfl) (V_ls [(0, .ref 0), (1, zI w)] ⟨rfl, rfl, trivial⟩ ?_)
  have hB : MB 1 := Or.inl rfl
  have hR := hI.rr
  obtain ⟨ni, hRB, hRT, hPA, hS, hJI, hWI⟩ := id hI
  obtain ⟨mT, mL, mS, mK, hQ⟩ := id hM
  have hT := mT
  unfold NI at ni
  refine V_iload_n (pc := 0) e_X7_account_0 rfl ?_
  refine V_bipush (pc := 1) (by decide) e_X7_account_1 ?_
  refine V_cS2 (pc := 3) ca_7_40 e_X7_account_3 (by decide) (Nat.le_of_ble_eq_true rfl) (c_X7_isBelow (by omega) (by omega) (fun h_bl => ?_) (fun h_bl => ?_))
  · refine V_if_eq (pc := 6) e_X7_account_6 (by decide) (by decide) (fun h => absurd h (by decide)) (fun _ => ?_)
    refine V_aload_n (pc := 9) e_X7_account_9 rfl (Or.inl ⟨_, rfl⟩) ?_
    refine Vp_getR (pc := 10) (q := 0) (j := 1) hZ.1 fx_7_12 e_X7_account_10 rfl rfl ?_
    refine Vk_getR (pc := 13) (i := 0) (q := 2) hB rfl (by decide) rfl fx_7_142 e_X7_account_13 rfl rfl (by decide) rfl ?_
    refine Vk_getR (pc := 16) (q := 0) hB rfl (by decide) rfl fx_7_164 e_X7_account_16 rfl rfl (by decide) rfl ?_
    refine V_iload_n (pc := 19) e_X7_account_19 rfl ?_
    refine Vk_ld (pc := 20) (n := 9) hB rfl (by decide) rfl (by decide) e_X7_account_20 (by omega) ?_
    refine V_goto (pc := 21) e_X7_account_21 (by decide) ?_
    refine V_ret (pc := 25) (v := some (zI _)) ⟨e_X7_account_25, _, rfl, rfl⟩ ?_
    rw [mL.1 w (by omega) (by omega)]
    exact k2 (by omega)
  · refine V_if_eq (pc := 6) e_X7_account_6 (by decide) (by decide) (fun _ => ?_) (fun h => absurd (by decide) h)
    refine V_iconst (pc := 24) e_X7_account_24 ?_
    refine V_ret (pc := 25) (v := some (zI _)) ⟨e_X7_account_25, _, rfl, rfl⟩ ?_
    exact k1 (by omega)
theorem c_X7_lacking {σ : Sto} {c : Nat → Int → Int} {π : Int → Nat} {r : Int → Int} {Q : Option Value → Sto → Prop} (hZ : HZ σ) (hM : MR c π r) (hI : RI r) {s q : Int} (r_s : -2147483648 ≤ s ∧ s < 2147483648) (r_q : -2147483648 ≤ q ∧ q < 2147483648) (k1 : ¬ ((0 ≤ s ∧ s ≤ 3) ∧ 0 ≤ q ∧ q ≤ 3) → Q (some (zI (-1))) (kst 1 σ c π)) (k2 : ((0 ≤ s ∧ s ≤ 3) ∧ 0 ≤ q ∧ q ≤ 3) → Q (some (zI (if lkN r s q (r 0).toNat < 0 then 0 else lkN r s q (r 0).toNat))) (kst 1 σ c π)) : Con M_X7_lacking 150 150 (kst 1 σ c π) [.ref 0, zI s, zI q] Q := by
  refine V_entry ok_X7_lacking (Nat.le_refl _) (Nat.le_of_ble_eq_true rfl) (V_ls [(0, .ref 0), (1, zI s), (2, zI q)] ⟨rfl, rfl, rfl, trivial⟩ ?_)
  have hB : MB 1 := Or.inl rfl
  have hR := hI.rr
  obtain ⟨ni, hRB, hRT, hPA, hS, hJI, hWI⟩ := id hI
  obtain ⟨mT, mL, mS, mK, hQ⟩ := id hM
  have hT := mT
  unfold NI at ni
  refine V_iload_n (pc := 0) e_X7_lacking_0 rfl ?_
  refine V_iload_n (pc := 1) e_X7_lacking_1 rfl ?_
  refine V_cS2 (pc := 2) ca_7_62 e_X7_lacking_2 (by decide) (Nat.le_of_ble_eq_true rfl) (c_X7_isPaper (by omega) (by omega) (fun h_pa => ?_) (fun h_pa => ?_))
  · refine V_if_eq (pc := 5) e_X7_lacking_5 (by decide) (by decide) (fun h => absurd h (by decide)) (fun _ => ?_)
    refine V_aload_n (pc := 8) e_X7_lacking_8 rfl (Or.inl ⟨_, rfl⟩) ?_
    refine Vp_getR (pc := 9) (q := 0) (j := 1) hZ.1 fx_7_12 e_X7_lacking_9 rfl rfl ?_
    refine V_iload_n (pc := 12) e_X7_lacking_12 rfl ?_
    refine V_iload_n (pc := 13) e_X7_lacking_13 rfl ?_
    refine V_cV2 (pc := 14) ca_7_217 e_X7_lacking_14 (by decide) (Nat.le_of_ble_eq_true rfl) (kb_lt (i := 0) hB (by decide)) ((shB (i := 0) hB (by decide)).trans rfl) (by decide) (c_X4_lackingSheets hB hM hI (by omega) (by omega) ?_)
    refine V_goto (pc := 17) e_X7_lacking_17 (by decide) ?_
    refine V_ret (pc := 21) (v := some (zI _)) ⟨e_X7_lacking_21, _, rfl, rfl⟩ ?_
    exact k2 (by omega)
  · refine V_if_eq (pc := 5) e_X7_lacking_5 (by decide) (by decide) (fun _ => ?_) (fun h => absurd (by decide) h)
    refine V_iconst (pc := 20) e_X7_lacking_20 ?_
    refine V_ret (pc := 21) (v := some (zI _)) ⟨e_X7_lacking_21, _, rfl, rfl⟩ ?_
    exact k1 (by omega)
theorem c_X7_refusal {σ : Sto} {c : Nat → Int → Int} {π : Int → Nat} {r : Int → Int} {Q : Option Value → Sto → Prop} (hZ : HZ σ) (hM : MR c π r) (hI : RI r)  (k : Q (some (zI (if σ.1 0 5 = 0 then -4 else σ.1 0 5))) (kst 1 σ c π)) (h5 : 0 ≤ σ.1 0 5 ∧ σ.1 0 5 ≤ 4) : Con M_X7_refusal 150 150 (kst 1 σ c π) [.ref 0] Q := by
  refine V_entry ok_X7_refusal (Nat.le_refl _) (Nat.le_of_ble_eq_true rfl) (V_ls [(0, .ref 0)] ⟨rfl, trivial⟩ ?_)
  have hB : MB 1 := Or.inl rfl
  have hR := hI.rr
  obtain ⟨ni, hRB, hRT, hPA, hS, hJI, hWI⟩ := id hI
  obtain ⟨mT, mL, mS, mK, hQ⟩ := id hM
  have hT := mT
  unfold NI at ni
  refine V_aload_n (pc := 0) e_X7_refusal_0 rfl (Or.inl ⟨_, rfl⟩) ?_
  refine Vp_get (pc := 1) (q := 5) (Or.inl (by decide)) (by decide) rfl fx_7_107 e_X7_refusal_1 rfl rfl ?_
  refine V_if_ne (pc := 4) e_X7_refusal_4 (by decide) (by omega) (fun h4 => ?_) (fun h4 => ?_)
  · refine V_aload_n (pc := 12) e_X7_refusal_12 rfl (Or.inl ⟨_, rfl⟩) ?_
    refine Vp_get (pc := 13) (q := 5) (Or.inl (by decide)) (by decide) rfl fx_7_107 e_X7_refusal_13 rfl rfl ?_
    refine V_ret (pc := 16) (v := some (zI _)) ⟨e_X7_refusal_16, _, rfl, rfl⟩ ?_
    rw [if_neg (by omega)] at k
    exact k
  · refine V_bipush (pc := 7) (by decide) e_X7_refusal_7 ?_
    refine V_goto (pc := 9) e_X7_refusal_9 (by decide) ?_
    refine V_ret (pc := 16) (v := some (zI _)) ⟨e_X7_refusal_16, _, rfl, rfl⟩ ?_
    rw [if_pos (by omega)] at k
    exact k
