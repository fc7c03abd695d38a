/-! the public methods that only ask -/
def HZ (σ : Sto) : Prop := σ.2.1 0 0 = some 1 ∧ σ.2.1 0 1 = some 24 ∧ σ.2.1 0 2 = some 47 ∧ σ.2.1 0 3 = some 141 ∧ σ.2.1 0 4 = some 143 ∧ σ.2.1 141 0 = some 142
section PUB
variable {M : MI} {N1 pc : Nat} {ls : List (Nat × Value)} {st : List Value} {Q : Option Value → Sto → Prop} {σ : Sto} {c : Nat → Int → Int} {π : Int → Nat} {ix ci k j i : Nat} {q : Int}
theorem Vp_getR (hr : σ.2.1 0 q = some j) (hf : fldR (miC M) ix = some (7, k)) (hd : decode (miB M) pc = .ok (.getfield ix, 3)) (ht : isRf (tyXs 7 k) = true) (hq : (k : Int) = q) (kk : V M N1 (pc + 3) ls (.ref j :: st) 144 (kst 1 σ c π) Q) : V M N1 pc ls (.ref 0 :: st) 144 (kst 1 σ c π) Q :=
  V_getR hf hd ht hq (by decide) rfl ((congrFun (kst_o2 (b := 1) (c := c) (π := π) (Or.inl (by decide))) q).trans hr) kk
theorem Vp_get (ho : i < 1 ∨ 1 + 23 ≤ i) (hi : i < 144) (hs : sh i = (0, ci)) (hf : fldR (miC M) ix = some (ci, k)) (hd : decode (miB M) pc = .ok (.getfield ix, 3)) (ht : isRf (tyXs ci k) = false) (hq : (k : Int) = q) (kk : V M N1 (pc + 3) ls (zI (σ.1 i q) :: st) 144 (kst 1 σ c π) Q) : V M N1 pc ls (.ref i :: st) 144 (kst 1 σ c π) Q := by
  refine V_get hf hd ht hq hi hs ?_
  rw [kst_o1 (b := 1) ho]
  exact kk
end PUB
theorem c_X7_settingAt {σ : Sto} {c : Nat → Int → Int} {π : Int → Nat} {r : Int → Int} {Q : Option Value → Sto → Prop} (hZ : HZ σ) (hM : MR c π r) (hI : RI r) {w : Int} (r_w : -2147483648 ≤ w ∧ w < 2147483648) (k1 : ¬ (0 ≤ w ∧ w ≤ 5) → Q (some (zI (-1))) (kst 1 σ c π)) (k2 : 0 ≤ w ∧ w ≤ 5 → Q (some (zI (r (10 + w)))) (kst 1 σ c π)) : Con M_X7_settingAt 144 144 (kst 1 σ c π) [.ref 0, zI w] Q := by
  refine V_entry ok_X7_settingAt (Nat.le_refl _) (Nat.le_of_ble_eq_true rfl) (V_ls [(0, .ref 0), (1, zI w)] ⟨rfl, rfl, trivial⟩ ?_)
  have hB : MB 1 := Or.inl rfl
  have hR := hI.rr
  obtain ⟨ni, hRB, hRT, hPA, hS, hJI, hWI⟩ := id hI
  obtain ⟨mT, mL, mS, mK, hQ⟩ := id hM
  have hT := mT
  unfold NI at ni
  refine V_iload_n (pc := 0) e_X7_settingAt_0 rfl ?_
  refine V_bipush (pc := 1) (by decide) e_X7_settingAt_1 ?_
  refine V_cS2 (pc := 3) ca_7_40 e_X7_settingAt_3 (by decide) (Nat.le_of_ble_eq_true rfl) (c_X7_isBelow (by omega) (by omega) (fun h_bl => ?_) (fun h_bl => ?_))
  · refine V_if_eq (pc := 6) e_X7_settingAt_6 (by decide) (by decide) (fun h => absurd h (by decide)) (fun _ => ?_)
    refine V_aload_n (pc := 9) e_X7_settingAt_9 rfl (Or.inl ⟨_, rfl⟩) ?_
    refine Vp_getR (pc := 10) (q := 0) (j := 1) hZ.1 fx_7_12 e_X7_settingAt_10 rfl rfl ?_
    refine Vk_getR (pc := 13) (i := 0) (q := 3) hB rfl (by decide) rfl fx_7_92 e_X7_settingAt_13 rfl rfl (by decide) rfl ?_
    refine V_iload_n (pc := 16) e_X7_settingAt_16 rfl ?_
    refine Vk_ld (pc := 17) (n := 6) hB rfl (by decide) rfl (by decide) e_X7_settingAt_17 (by omega) ?_
    refine V_goto (pc := 18) e_X7_settingAt_18 (by decide) ?_
    refine V_ret (pc := 22) (v := some (zI _)) ⟨e_X7_settingAt_22, _, rfl, rfl⟩ ?_
    rw [mS w (by omega) (by omega)]
    exact k2 (by omega)
  · refine V_if_eq (pc := 6) e_X7_settingAt_6 (by decide) (by decide) (fun _ => ?_) (fun h => absurd (by decide) h)
    refine V_iconst (pc := 21) e_X7_settingAt_21 ?_
    refine V_ret (pc := 22) (v := some (zI _)) ⟨e_X7_settingAt_22, _, rfl, rfl⟩ ?_
    exact k1 (by omega)
theorem c_X7_account {σ : Sto} {c : Nat → Int → Int} {π : Int → Nat} {r : Int → Int} {Q : Option Value → Sto → Prop} (hZ : HZ σ) (hM : MR c π r) (hI : RI r) {w : Int} (r_w : -2147483648 ≤ w ∧ w < 2147483648) (k1 : ¬ (0 ≤ w ∧ w ≤ 8) → Q (some (zI (-1))) (kst 1 σ c π)) (k2 : 0 ≤ w ∧ w ≤ 8 → Q (some (zI (r (16 + w)))) (kst 1 σ c π)) : Con M_X7_account 144 144 (kst 1 σ c π) [.ref 0, zI w] Q := by
  refine V_entry ok_X7_account (Nat.le_refl _) (Nat.le_of_ble_eq_true rfl) (V_ls [(0, .ref 0), (1, zI w)] ⟨rfl, rfl, trivial⟩ ?_)
  have hB : MB 1 := Or.inl rfl
  have hR := hI.rr
  obtain ⟨ni, hRB, hRT, hPA, hS, hJI, hWI⟩ := id hI
  obtain ⟨mT, mL, mS, mK, hQ⟩ := id hM
  have hT := mT
  unfold NI at ni
  refine V_iload_n (pc := 0) e_X7_account_0 rfl ?_
  refine V_bipush (pc := 1) (by decide) e_X7_account_1 ?_
  refine V_cS2 (pc := 3) ca_7_40 e_X7_account_3 (by decide) (Nat.le_of_ble_eq_true rfl) (c_X7_isBelow (by omega) (by omega) (fun h_bl => ?_) (fun h_bl => ?_))
  · refine V_if_eq (pc := 6) e_X7_account_6 (by decide) (by decide) (fun h => absurd h (by decide)) (fun _ => ?_)
    refine V_aload_n (pc := 9) e_X7_account_9 rfl (Or.inl ⟨_, rfl⟩) ?_
    refine Vp_getR (pc := 10) (q := 0) (j := 1) hZ.1 fx_7_12 e_X7_account_10 rfl rfl ?_
    refine Vk_getR (pc := 13) (i := 0) (q := 2) hB rfl (by decide) rfl fx_7_142 e_X7_account_13 rfl rfl (by decide) rfl ?_
    refine Vk_getR (pc := 16) (q := 0) hB rfl (by decide) rfl fx_7_164 e_X7_account_16 rfl rfl (by decide) rfl ?_
    refine V_iload_n (pc := 19) e_X7_account_19 rfl ?_
    refine Vk_ld (pc := 20) (n := 9) hB rfl (by decide) rfl (by decide) e_X7_account_20 (by omega) ?_
    refine V_goto (pc := 21) e_X7_account_21 (by decide) ?_
    refine V_ret (pc := 25) (v := some (zI _)) ⟨e_X7_account_25, _, rfl, rfl⟩ ?_
    rw [mL.1 w (by omega) (by omega)]
    exact k2 (by omega)
  · refine V_if_eq (pc := 6) e_X7_account_6 (by decide) (by decide) (fun _ => ?_) (fun h => absurd (by decide) h)
    refine V_iconst (pc := 24) e_X7_account_24 ?_
    refine V_ret (pc := 25) (v := some (zI _)) ⟨e_X7_account_25, _, rfl, rfl⟩ ?_
    exact k1 (by omega)
theorem c_X7_lacking {σ : Sto} {c : Nat → Int → Int} {π : Int → Nat} {r : Int → Int} {Q : Option Value → Sto → Prop} (hZ : HZ σ) (hM : MR c π r) (hI : RI r) {s q : Int} (r_s : -2147483648 ≤ s ∧ s < 2147483648) (r_q : -2147483648 ≤ q ∧ q < 2147483648) (k1 : ¬ ((0 ≤ s ∧ s ≤ 3) ∧ 0 ≤ q ∧ q ≤ 3) → Q (some (zI (-1))) (kst 1 σ c π)) (k2 : ((0 ≤ s ∧ s ≤ 3) ∧ 0 ≤ q ∧ q ≤ 3) → Q (some (zI (if lkN r s q (r 0).toNat < 0 then 0 else lkN r s q (r 0).toNat))) (kst 1 σ c π)) : Con M_X7_lacking 144 144 (kst 1 σ c π) [.ref 0, zI s, zI q] Q := by
  refine V_entry ok_X7_lacking (Nat.le_refl _) (Nat.le_of_ble_eq_true rfl) (V_ls [(0, .ref 0), (1, zI s), (2, zI q)] ⟨rfl, rfl, rfl, trivial⟩ ?_)
  have hB : MB 1 := Or.inl rfl
  have hR := hI.rr
  obtain ⟨ni, hRB, hRT, hPA, hS, hJI, hWI⟩ := id hI
  obtain ⟨mT, mL, mS, mK, hQ⟩ := id hM
  have hT := mT
  unfold NI at ni
  refine V_iload_n (pc := 0) e_X7_lacking_0 rfl ?_
  refine V_iload_n (pc := 1) e_X7_lacking_1 rfl ?_
  refine V_cS2 (pc := 2) ca_7_62 e_X7_lacking_2 (by decide) (Nat.le_of_ble_eq_true rfl) (c_X7_isPaper (by omega) (by omega) (fun h_pa => ?_) (fun h_pa => ?_))
  · refine V_if_eq (pc := 5) e_X7_lacking_5 (by decide) (by decide) (fun h => absurd h (by decide)) (fun _ => ?_)
    refine V_aload_n (pc := 8) e_X7_lacking_8 rfl (Or.inl ⟨_, rfl⟩) ?_
    refine Vp_getR (pc := 9) (q := 0) (j := 1) hZ.1 fx_7_12 e_X7_lacking_9 rfl rfl ?_
    refine V_iload_n (pc := 12) e_X7_lacking_12 rfl ?_
    refine V_iload_n (pc := 13) e_X7_lacking_13 rfl ?_
    refine V_cV2 (pc := 14) ca_7_217 e_X7_lacking_14 (by decide) (Nat.le_of_ble_eq_true rfl) (kb_lt (i := 0) hB (by decide)) ((shB (i := 0) hB (by decide)).trans rfl) (by decide) (c_X4_lackingSheets hB hM hI (by omega) (by omega) ?_)
    refine V_goto (pc := 17) e_X7_lacking_17 (by decide) ?_
    refine V_ret (pc := 21) (v := some (zI _)) ⟨e_X7_lacking_21, _, rfl, rfl⟩ ?_
    exact k2 (by omega)
  · refine V_if_eq (pc := 5) e_X7_lacking_5 (by decide) (by decide) (fun _ => ?_) (fun h => absurd (by decide) h)
    refine V_iconst (pc := 20) e_X7_lacking_20 ?_
    refine V_ret (pc := 21) (v := some (zI _)) ⟨e_X7_lacking_21, _, rfl, rfl⟩ ?_
    exact k1 (by omega)
theorem c_X7_refusal {σ : Sto} {c : Nat → Int → Int} {π : Int → Nat} {r : Int → Int} {Q : Option Value → Sto → Prop} (hZ : HZ σ) (hM : MR c π r) (hI : RI r)  (k : Q (some (zI (if σ.1 0 5 = 0 then -4 else σ.1 0 5))) (kst 1 σ c π)) (h5 : 0 ≤ σ.1 0 5 ∧ σ.1 0 5 ≤ 4) : Con M_X7_refusal 144 144 (kst 1 σ c π) [.ref 0] Q := by
  refine V_entry ok_X7_refusal (Nat.le_refl _) (Nat.le_of_ble_eq_true rfl) (V_ls [(0, .ref 0)] ⟨rfl, trivial⟩ ?_)
  have hB : MB 1 := Or.inl rfl
  have hR := hI.rr
  obtain ⟨ni, hRB, hRT, hPA, hS, hJI, hWI⟩ := id hI
  obtain ⟨mT, mL, mS, mK, hQ⟩ := id hM
  have hT := mT
  unfold NI at ni
  refine V_aload_n (pc := 0) e_X7_refusal_0 rfl (Or.inl ⟨_, rfl⟩) ?_
  refine Vp_get (pc := 1) (q := 5) (Or.inl (by decide)) (by decide) rfl fx_7_107 e_X7_refusal_1 rfl rfl ?_
  refine V_if_ne (pc := 4) e_X7_refusal_4 (by decide) (by omega) (fun h4 => ?_) (fun h4 => ?_)
  · refine V_aload_n (pc := 12) e_X7_refusal_12 rfl (Or.inl ⟨_, rfl⟩) ?_
    refine Vp_get (pc := 13) (q := 5) (Or.inl (by decide)) (by decide) rfl fx_7_107 e_X7_refusal_13 rfl rfl ?_
    refine V_ret (pc := 16) (v := some (zI _)) ⟨e_X7_refusal_16, _, rfl, rfl⟩ ?_
    rw [if_neg (by omega)] at k
    exact k
  · refine V_bipush (pc := 7) (by decide) e_X7_refusal_7 ?_
    refine V_goto (pc := 9) e_X7_refusal_9 (by decide) ?_
    refine V_ret (pc := 16) (v := some (zI _)) ⟨e_X7_refusal_16, _, rfl, rfl⟩ ?_
    rw [if_pos (by omega)] at k
    exact k
theorem plc_lt {r : Int → Int} {j : Int} (h : 0 ≤ plc r j) : plc r j < r 0 := by
  rcases plc_sp r j with y | y
  · omega
  · exact y.2.1
theorem c_X7_tray {σ : Sto} {c : Nat → Int → Int} {π : Int → Nat} {r : Int → Int} {Q : Option Value → Sto → Prop} (hZ : HZ σ) (hM : MR c π r) (hI : RI r) {t w : Int} (r_t : -2147483648 ≤ t ∧ t < 2147483648) (r_w : -2147483648 ≤ w ∧ w < 2147483648) (k1 : ¬ ((0 ≤ t ∧ t ≤ 3) ∧ 0 ≤ w ∧ w ≤ 3) → Q (some (zI (-1))) (kst 1 σ c π)) (k2 : (0 ≤ t ∧ t ≤ 3) ∧ 0 ≤ w ∧ w ≤ 3 → Q (some (zI (if w < 3 then r (25 + 3 * t + w) else shA r (r (25 + 3 * t)) (r (25 + 3 * t + 1)) 4))) (kst 1 σ c π)) : Con M_X7_tray 144 144 (kst 1 σ c π) [.ref 0, zI t, zI w] Q := by
  refine V_entry ok_X7_tray (Nat.le_refl _) (Nat.le_of_ble_eq_true rfl) (V_ls [(0, .ref 0), (1, zI t), (2, zI w)] ⟨rfl, rfl, rfl, trivial⟩ ?_)
  have hB : MB 1 := Or.inl rfl
  have hR := hI.rr
  obtain ⟨ni, hRB, hRT, hPA, hS, hJI, hWI⟩ := id hI
  obtain ⟨mT, mL, mS, mK, hQ⟩ := id hM
  have hT := mT
  unfold NI at ni
  refine V_iload_n (pc := 0) e_X7_tray_0 rfl ?_
  refine V_iconst (pc := 1) e_X7_tray_1 ?_
  refine V_cS2 (pc := 2) ca_7_40 e_X7_tray_2 (by decide) (Nat.le_of_ble_eq_true rfl) (c_X7_isBelow (by omega) (by omega) (fun h_bl => ?_) (fun h_bl => ?_))
  · refine V_if_ne (pc := 5) e_X7_tray_5 (by decide) (by decide) (fun _ => ?_) (fun h => absurd h (by decide))
    refine V_aload_n (pc := 10) e_X7_tray_10 rfl (Or.inl ⟨_, rfl⟩) ?_
    refine Vp_getR (pc := 11) (q := 0) (j := 1) hZ.1 fx_7_12 e_X7_tray_11 rfl rfl ?_
    refine Vk_getR (pc := 14) (i := 0) (q := 0) hB rfl (by decide) rfl fx_7_48 e_X7_tray_14 rfl rfl (by decide) rfl ?_
    refine V_astore_n (pc := 17) e_X7_tray_17 (Or.inl ⟨_, rfl⟩) (by decide) ?_
    refine V_iload_n (pc := 18) e_X7_tray_18 rfl ?_
    refine V_table (pc := 19) e_X7_tray_19 (by decide) (by decide) (by decide) (by omega) (fun h19 => ?_) (fun j o h19 ho => ?_)
    · refine V_iconst (pc := 86) e_X7_tray_86 ?_
      refine V_ret (pc := 87) (v := some (zI _)) ⟨e_X7_tray_87, _, rfl, rfl⟩ ?_
      exact k1 (by omega)
    · match j, ho with
      | 0, ho =>
        obtain rfl := Option.some.inj ho
        refine V_aload_n (pc := 48) e_X7_tray_48 rfl (Or.inl ⟨_, rfl⟩) ?_
        refine Vk_getR (pc := 49) (q := 0) hB rfl (by decide) rfl fx_7_69 e_X7_tray_49 rfl rfl (by decide) rfl ?_
        refine V_iload_n (pc := 52) e_X7_tray_52 rfl ?_
        refine Vk_ld (pc := 53) (n := 4) hB rfl (by decide) rfl (by decide) e_X7_tray_53 (by omega) ?_
        refine V_ret (pc := 54) (v := some (zI _)) ⟨e_X7_tray_54, _, rfl, rfl⟩ ?_
        have e := (mT t (by omega) (by omega)).1
        have z := k2 (by omega)
        rw [if_pos (show w < 3 by omega), show 25 + 3 * t + w = 25 + 3 * t by omega] at z
        rw [e]
        exact z
      | 1, ho =>
        obtain rfl := Option.some.inj ho
        refine V_aload_n (pc := 55) e_X7_tray_55 rfl (Or.inl ⟨_, rfl⟩) ?_
        refine Vk_getR (pc := 56) (q := 1) hB rfl (by decide) rfl fx_7_72 e_X7_tray_56 rfl rfl (by decide) rfl ?_
        refine V_iload_n (pc := 59) e_X7_tray_59 rfl ?_
        refine Vk_ld (pc := 60) (n := 4) hB rfl (by decide) rfl (by decide) e_X7_tray_60 (by omega) ?_
        refine V_ret (pc := 61) (v := some (zI _)) ⟨e_X7_tray_61, _, rfl, rfl⟩ ?_
        have e := (mT t (by omega) (by omega)).2.1
        have z := k2 (by omega)
        rw [if_pos (show w < 3 by omega), show 25 + 3 * t + w = 25 + 3 * t + 1 by omega] at z
        rw [e]
        exact z
      | 2, ho =>
        obtain rfl := Option.some.inj ho
        refine V_aload_n (pc := 62) e_X7_tray_62 rfl (Or.inl ⟨_, rfl⟩) ?_
        refine Vk_getR (pc := 63) (q := 2) hB rfl (by decide) rfl fx_7_52 e_X7_tray_63 rfl rfl (by decide) rfl ?_
        refine V_iload_n (pc := 66) e_X7_tray_66 rfl ?_
        refine Vk_ld (pc := 67) (n := 4) hB rfl (by decide) rfl (by decide) e_X7_tray_67 (by omega) ?_
        refine V_ret (pc := 68) (v := some (zI _)) ⟨e_X7_tray_68, _, rfl, rfl⟩ ?_
        have e := (mT t (by omega) (by omega)).2.2
        have z := k2 (by omega)
        rw [if_pos (show w < 3 by omega), show 25 + 3 * t + w = 25 + 3 * t + 2 by omega] at z
        rw [e]
        exact z
      | 3, ho =>
        obtain rfl := Option.some.inj ho
        have e := mT t (by omega) (by omega)
        have f := hRT t (by omega) (by omega)
        refine V_aload_n (pc := 69) e_X7_tray_69 rfl (Or.inl ⟨_, rfl⟩) ?_
        refine V_aload_n (pc := 70) e_X7_tray_70 rfl (Or.inl ⟨_, rfl⟩) ?_
        refine Vk_getR (pc := 71) (q := 0) hB rfl (by decide) rfl fx_7_69 e_X7_tray_71 rfl rfl (by decide) rfl ?_
        refine V_iload_n (pc := 74) e_X7_tray_74 rfl ?_
        refine Vk_ld (pc := 75) (n := 4) hB rfl (by decide) rfl (by decide) e_X7_tray_75 (by omega) ?_
        refine V_aload_n (pc := 76) e_X7_tray_76 rfl (Or.inl ⟨_, rfl⟩) ?_
        refine Vk_getR (pc := 77) (q := 1) hB rfl (by decide) rfl fx_7_72 e_X7_tray_77 rfl rfl (by decide) rfl ?_
        refine V_iload_n (pc := 80) e_X7_tray_80 rfl ?_
        refine Vk_ld (pc := 81) (n := 4) hB rfl (by decide) rfl (by decide) e_X7_tray_81 (by omega) ?_
        refine V_cV2 (pc := 82) ca_7_75 e_X7_tray_82 (by decide) (Nat.le_of_ble_eq_true rfl) (kb_lt hB (by decide)) ((shB hB (by decide)).trans rfl) (by decide) (c_X6_sheetsOf hB hT hRB (by omega) (by omega) ?_)
        refine V_ret (pc := 85) (v := some (zI _)) ⟨e_X7_tray_85, _, rfl, rfl⟩ ?_
        have z := k2 (by omega)
        rw [if_neg (show ¬ w < 3 by omega)] at z
        rw [e.1, e.2.1]
        exact z
      | j + 4, ho => exact absurd ho (by simp)
  · refine V_if_ne (pc := 5) e_X7_tray_5 (by decide) (by decide) (fun h => absurd (by decide) h) (fun _ => ?_)
    refine V_iconst (pc := 8) e_X7_tray_8 ?_
    refine V_ret (pc := 9) (v := some (zI _)) ⟨e_X7_tray_9, _, rfl, rfl⟩ ?_
    exact k1 (by omega)
theorem c_X7_queued {σ : Sto} {c : Nat → Int → Int} {π : Int → Nat} {r : Int → Int} {Q : Option Value → Sto → Prop} (hZ : HZ σ) (hM : MR c π r) (hI : RI r) {q : Int} (r_q : -2147483648 ≤ q ∧ q < 2147483648) (k1 : q < 0 → Q (some (zI (-1))) (kst 1 σ c π)) (k2 : 0 ≤ q → Q (some (zI (quF r q (r 0).toNat 0))) (kst 1 σ c π)) : Con M_X7_queued 144 144 (kst 1 σ c π) [.ref 0, zI q] Q := by
  refine V_entry ok_X7_queued (Nat.le_refl _) (Nat.le_of_ble_eq_true rfl) (V_ls [(0, .ref 0), (1, zI q)] ⟨rfl, rfl, trivial⟩ ?_)
  have hB : MB 1 := Or.inl rfl
  have hR := hI.rr
  obtain ⟨ni, hRB, hRT, hPA, hS, hJI, hWI⟩ := id hI
  obtain ⟨mT, mL, mS, mK, hQ⟩ := id hM
  have hT := mT
  unfold NI at ni
  have r7 : -3000000 ≤ r 7 ∧ r 7 ≤ 3000000 := by omega
  refine V_iload_n (pc := 0) e_X7_queued_0 rfl ?_
  refine V_if_ge (pc := 1) e_X7_queued_1 (by decide) (by omega) (fun h1 => ?_) (fun h1 => ?_)
  · refine V_aload_n (pc := 6) e_X7_queued_6 rfl (Or.inl ⟨_, rfl⟩) ?_
    refine Vp_getR (pc := 7) (q := 0) (j := 1) hZ.1 fx_7_12 e_X7_queued_7 rfl rfl ?_
    refine Vk_getR (pc := 10) (i := 0) (q := 1) hB rfl (by decide) rfl fx_7_110 e_X7_queued_10 rfl rfl (by decide) rfl ?_
    refine V_iload_n (pc := 13) e_X7_queued_13 rfl ?_
    refine V_cV1 (pc := 14) ca_7_158 e_X7_queued_14 (by decide) (Nat.le_of_ble_eq_true rfl) (kb_lt hB (by decide)) ((shB hB (by decide)).trans rfl) (by decide) (c_X5_at hB hQ hR hS r7 (by omega) (fun i i0 i1 iq => ?_) (fun h_at => ?_))
    · refine V_astore_n (pc := 17) e_X7_queued_17 (Or.inl ⟨_, rfl⟩) (by decide) ?_
      refine V_aload_n (pc := 18) e_X7_queued_18 rfl (Or.inl ⟨_, rfl⟩) ?_
      refine V_ifnonnull (pc := 19) e_X7_queued_19 (by decide) trivial (fun _ => ?_) (fun h => by cases h)
      have pj := hQ.2.2.2.1.1 i i0 (by omega)
      refine V_aload_n (pc := 27) e_X7_queued_27 rfl (Or.inl ⟨_, rfl⟩) ?_
      refine Vk_get (pc := 28) (q := 0) hB rfl (by omega) (shM_j (by omega) (by omega)) fx_7_161 e_X7_queued_28 rfl rfl ?_
      refine V_ret (pc := 31) (v := some (zI _)) ⟨e_X7_queued_31, _, rfl, rfl⟩ ?_
      have z := k2 (by omega)
      rw [iq, ← (hQ.2.2.2.2 i i0 i1).1] at z
      exact z
    · refine V_astore_n (pc := 17) e_X7_queued_17 (Or.inr (Or.inl rfl)) (by decide) ?_
      refine V_aload_n (pc := 18) e_X7_queued_18 rfl (Or.inr (Or.inl rfl)) ?_
      refine V_ifnonnull (pc := 19) e_X7_queued_19 (by decide) trivial (fun h => absurd rfl h) (fun _ => ?_)
      refine V_bipush (pc := 22) (by decide) e_X7_queued_22 ?_
      refine V_goto (pc := 24) e_X7_queued_24 (by decide) ?_
      refine V_ret (pc := 31) (v := some (zI _)) ⟨e_X7_queued_31, _, rfl, rfl⟩ ?_
      have z := k2 (by omega)
      rw [h_at] at z
      exact z
  · refine V_iconst (pc := 4) e_X7_queued_4 ?_
    refine V_ret (pc := 5) (v := some (zI _)) ⟨e_X7_queued_5, _, rfl, rfl⟩ ?_
    exact k1 (by omega)
theorem c_X7_jobInfo {σ : Sto} {c : Nat → Int → Int} {π : Int → Nat} {r : Int → Int} {Q : Option Value → Sto → Prop} (hZ : HZ σ) (hM : MR c π r) (hI : RI r) {j w : Int} (r_j : -2147483648 ≤ j ∧ j < 2147483648) (r_w : -2147483648 ≤ w ∧ w < 2147483648) (k1 : ¬ (0 ≤ j ∧ 0 ≤ w ∧ w ≤ 12) → Q (some (zI (-1))) (kst 1 σ c π)) (k2 : 0 ≤ j ∧ 0 ≤ w ∧ w ≤ 12 → plc r j < 0 → Q (some (zI (-4))) (kst 1 σ c π)) (k3 : 0 ≤ j ∧ 0 ≤ w ∧ w ≤ 12 → 0 ≤ plc r j → Q (some (zI (telF r (plc r j) w))) (kst 1 σ c π)) : Con M_X7_jobInfo 144 144 (kst 1 σ c π) [.ref 0, zI j, zI w] Q := by
  refine V_entry ok_X7_jobInfo (Nat.le_refl _) (Nat.le_of_ble_eq_true rfl) (V_ls [(0, .ref 0), (1, zI j), (2, zI w)] ⟨rfl, rfl, rfl, trivial⟩ ?_)
  have hB : MB 1 := Or.inl rfl
  have hR := hI.rr
  obtain ⟨ni, hRB, hRT, hPA, hS, hJI, hWI⟩ := id hI
  obtain ⟨mT, mL, mS, mK, hQ⟩ := id hM
  have hT := mT
  unfold NI at ni
  refine V_iload_n (pc := 0) e_X7_jobInfo_0 rfl ?_
  refine V_if_lt (pc := 1) e_X7_jobInfo_1 (by decide) (by omega) (fun h1 => ?_) (fun h1 => ?_)
  · refine V_iconst (pc := 13) e_X7_jobInfo_13 ?_
    refine V_ret (pc := 14) (v := some (zI _)) ⟨e_X7_jobInfo_14, _, rfl, rfl⟩ ?_
    exact k1 (by omega)
  · refine V_iload_n (pc := 4) e_X7_jobInfo_4 rfl ?_
    refine V_bipush (pc := 5) (by decide) e_X7_jobInfo_5 ?_
    refine V_cS2 (pc := 7) ca_7_40 e_X7_jobInfo_7 (by decide) (Nat.le_of_ble_eq_true rfl) (c_X7_isBelow (by omega) (by omega) (fun h_bl => ?_) (fun h_bl => ?_))
    · refine V_if_ne (pc := 10) e_X7_jobInfo_10 (by decide) (by decide) (fun _ => ?_) (fun h => absurd h (by decide))
      refine V_aload_n (pc := 15) e_X7_jobInfo_15 rfl (Or.inl ⟨_, rfl⟩) ?_
      refine Vp_getR (pc := 16) (q := 0) (j := 1) hZ.1 fx_7_12 e_X7_jobInfo_16 rfl rfl ?_
      refine Vk_getR (pc := 19) (i := 0) (q := 1) hB rfl (by decide) rfl fx_7_110 e_X7_jobInfo_19 rfl rfl (by decide) rfl ?_
      refine V_iload_n (pc := 22) e_X7_jobInfo_22 rfl ?_
      refine V_cV1 (pc := 23) ca_7_124 e_X7_jobInfo_23 (by decide) (Nat.le_of_ble_eq_true rfl) (kb_lt hB (by decide)) ((shB hB (by decide)).trans rfl) (by decide) (c_X5_find hB hQ hR (by omega) (fun h_fd => ?_) (fun h_fd => ?_))
      · refine V_astore_n (pc := 26) e_X7_jobInfo_26 (Or.inl ⟨_, rfl⟩) (by decide) ?_
        refine V_aload_n (pc := 27) e_X7_jobInfo_27 rfl (Or.inl ⟨_, rfl⟩) ?_
        refine V_ifnonnull (pc := 28) e_X7_jobInfo_28 (by decide) trivial (fun _ => ?_) (fun h => by cases h)
        have pl := plc_lt h_fd
        have pj := hQ.2.2.2.1.1 (plc r j) h_fd (by omega)
        have ji := hJI _ h_fd pl
        refine V_aload_n (pc := 36) e_X7_jobInfo_36 rfl (Or.inl ⟨_, rfl⟩) ?_
        refine V_iload_n (pc := 37) e_X7_jobInfo_37 rfl ?_
        refine V_cV1 (pc := 38) ca_7_155 e_X7_jobInfo_38 (by decide) (Nat.le_of_ble_eq_true rfl) (kb_lt hB (by omega)) ((shB hB (by omega)).trans (shM_j (by omega) (by omega))) (by decide) (c_X1_property hB pj (hQ.2.2.2.2 _ h_fd pl) ji.1 ji.2.2.1.1 (by omega) ?_)
        refine V_ret (pc := 41) (v := some (zI _)) ⟨e_X7_jobInfo_41, _, rfl, rfl⟩ ?_
        exact k3 (by omega) h_fd
      · refine V_astore_n (pc := 26) e_X7_jobInfo_26 (Or.inr (Or.inl rfl)) (by decide) ?_
        refine V_aload_n (pc := 27) e_X7_jobInfo_27 rfl (Or.inr (Or.inl rfl)) ?_
        refine V_ifnonnull (pc := 28) e_X7_jobInfo_28 (by decide) trivial (fun h => absurd rfl h) (fun _ => ?_)
        refine V_bipush (pc := 31) (by decide) e_X7_jobInfo_31 ?_
        refine V_goto (pc := 33) e_X7_jobInfo_33 (by decide) ?_
        refine V_ret (pc := 41) (v := some (zI _)) ⟨e_X7_jobInfo_41, _, rfl, rfl⟩ ?_
        exact k2 (by omega) h_fd
    · refine V_if_ne (pc := 10) e_X7_jobInfo_10 (by decide) (by decide) (fun h => absurd (by decide) h) (fun _ => ?_)
      refine V_iconst (pc := 13) e_X7_jobInfo_13 ?_
      refine V_ret (pc := 14) (v := some (zI _)) ⟨e_X7_jobInfo_14, _, rfl, rfl⟩ ?_
      exact k1 (by omega)
theorem cntF_s {r : Int → Int} {a b w : Int} (h : 8 ≤ w ∧ w ≤ 13) : cntF r a b w = r (10 + (w - 8)) := by
  unfold cntF
  rw [if_neg (show ¬ w = 0 by omega), if_neg (show ¬ w = 1 by omega), if_neg (show ¬ w = 2 by omega), if_neg (show ¬ w = 3 by omega), if_neg (show ¬ w = 4 by omega), if_neg (show ¬ w = 5 by omega), if_neg (show ¬ w = 6 by omega), if_neg (show ¬ w = 7 by omega), if_neg (show ¬ w = 14 by omega), if_neg (show ¬ w = 15 by omega), if_neg (show ¬ w = 16 by omega), if_pos h, show 10 + w - 8 = 10 + (w - 8) by omega]
theorem cntF_m {r : Int → Int} {a b w : Int} (h : ¬ (0 ≤ w ∧ w ≤ 16)) : cntF r a b w = -1 := by
  unfold cntF
  rw [if_neg (show ¬ w = 0 by omega), if_neg (show ¬ w = 1 by omega), if_neg (show ¬ w = 2 by omega), if_neg (show ¬ w = 3 by omega), if_neg (show ¬ w = 4 by omega), if_neg (show ¬ w = 5 by omega), if_neg (show ¬ w = 6 by omega), if_neg (show ¬ w = 7 by omega), if_neg (show ¬ w = 14 by omega), if_neg (show ¬ w = 15 by omega), if_neg (show ¬ w = 16 by omega), if_neg (by omega)]
theorem c_X7_count {σ : Sto} {c : Nat → Int → Int} {π : Int → Nat} {r : Int → Int} {Q : Option Value → Sto → Prop} (hZ : HZ σ) (hM : MR c π r) (hI : RI r) {w : Int} (r_w : -2147483648 ≤ w ∧ w < 2147483648) (k : Q (some (zI (cntF r (σ.1 47 1) (σ.1 141 1) w))) (kst 1 σ c π)) : Con M_X7_count 144 144 (kst 1 σ c π) [.ref 0, zI w] Q := by
  refine V_entry ok_X7_count (Nat.le_refl _) (Nat.le_of_ble_eq_true rfl) (V_ls [(0, .ref 0), (1, zI w)] ⟨rfl, rfl, trivial⟩ ?_)
  have hB : MB 1 := Or.inl rfl
  have hR := hI.rr
  obtain ⟨ni, hRB, hRT, hPA, hS, hJI, hWI⟩ := id hI
  obtain ⟨mT, mL, mS, mK, hQ⟩ := id hM
  have hT := mT
  unfold NI at ni
  have ck : ∀ x : Int, x = cntF r (σ.1 47 1) (σ.1 141 1) w → Q (some (zI x)) (kst 1 σ c π) := fun x h => by
    rw [h]
    exact k
  obtain ⟨k1, k2, k3, k4, k5⟩ := mK
  have q1 := hQ.1
  have q2 := hQ.2.1
  have l2 := mL.2.1
  unfold WI at hWI
  refine V_iload_n (pc := 0) e_X7_count_0 rfl ?_
  refine V_bipush (pc := 1) (by decide) e_X7_count_1 ?_
  refine V_cS2 (pc := 3) ca_7_40 e_X7_count_3 (by decide) (Nat.le_of_ble_eq_true rfl) (c_X7_isBelow (by omega) (by omega) (fun h_bl => ?_) (fun h_bl => ?_))
  · refine V_if_ne (pc := 6) e_X7_count_6 (by decide) (by decide) (fun _ => ?_) (fun h => absurd h (by decide))
    refine V_iload_n (pc := 11) e_X7_count_11 rfl ?_
    refine V_table (pc := 12) e_X7_count_12 (by decide) (by decide) (by decide) (by omega) (fun h12 => ?_) (fun j o h12 ho => ?_)
    · refine V_aload_n (pc := 211) e_X7_count_211 rfl (Or.inl ⟨_, rfl⟩) ?_
      refine V_iload_n (pc := 212) e_X7_count_212 rfl ?_
      refine V_bipush (pc := 213) (by decide) e_X7_count_213 ?_
      refine V_isub (pc := 215) e_X7_count_215 ?_
      refine V_cV1 (pc := 216) ca_7_205 e_X7_count_216 (by decide) (Nat.le_of_ble_eq_true rfl) (by decide) rfl (by decide) (c_X7_settingAt hZ hM hI (by omega) (fun h_s1 => ?_) (fun h_s2 => ?_))
      · refine V_ret (pc := 219) (v := some (zI _)) ⟨e_X7_count_219, _, rfl, rfl⟩ ?_
        first
          | (exfalso; omega)
          | exact ck _ (cntF_s (by omega)).symm
      · refine V_ret (pc := 219) (v := some (zI _)) ⟨e_X7_count_219, _, rfl, rfl⟩ ?_
        first
          | (exfalso; omega)
          | exact ck _ (cntF_s (by omega)).symm
    · match j, ho with
      | 0, ho =>
        obtain rfl := Option.some.inj ho
        refine V_aload_n (pc := 96) e_X7_count_96 rfl (Or.inl ⟨_, rfl⟩) ?_
        refine Vp_getR (pc := 97) (q := 0) (j := 1) hZ.1 fx_7_12 e_X7_count_97 rfl rfl ?_
        refine Vk_getR (pc := 100) (i := 0) (q := 1) hB rfl (by decide) rfl fx_7_110 e_X7_count_100 rfl rfl (by decide) rfl ?_
        refine Vk_get (pc := 103) (q := 1) hB rfl (by decide) rfl fx_7_178 e_X7_count_103 rfl rfl ?_
        refine V_ret (pc := 106) (v := some (zI _)) ⟨e_X7_count_106, _, rfl, rfl⟩ ?_
        refine ck _ ?_
        obtain rfl : w = 0 := by omega
        show _ = r 0
        omega
      | 1, ho =>
        obtain rfl := Option.some.inj ho
        refine V_aload_n (pc := 107) e_X7_count_107 rfl (Or.inl ⟨_, rfl⟩) ?_
        refine Vp_getR (pc := 108) (q := 0) (j := 1) hZ.1 fx_7_12 e_X7_count_108 rfl rfl ?_
        refine Vk_getR (pc := 111) (i := 0) (q := 1) hB rfl (by decide) rfl fx_7_110 e_X7_count_111 rfl rfl (by decide) rfl ?_
        refine V_cV0 (pc := 114) ca_7_181 e_X7_count_114 (by decide) (Nat.le_of_ble_eq_true rfl) (kb_lt hB (by decide)) ((shB hB (by decide)).trans rfl) (by decide) (c_X5_heldJobs hB hQ hR ?_)
        refine V_ret (pc := 117) (v := some (zI _)) ⟨e_X7_count_117, _, rfl, rfl⟩ ?_
        refine ck _ ?_
        obtain rfl : w = 1 := by omega
        show _ = hdN r (r 0).toNat
        rfl
      | 2, ho =>
        obtain rfl := Option.some.inj ho
        refine V_aload_n (pc := 118) e_X7_count_118 rfl (Or.inl ⟨_, rfl⟩) ?_
        refine Vp_getR (pc := 119) (q := 0) (j := 1) hZ.1 fx_7_12 e_X7_count_119 rfl rfl ?_
        refine Vk_getR (pc := 122) (i := 0) (q := 1) hB rfl (by decide) rfl fx_7_110 e_X7_count_122 rfl rfl (by decide) rfl ?_
        refine Vk_get (pc := 125) (q := 2) hB rfl (by decide) rfl fx_7_184 e_X7_count_125 rfl rfl ?_
        refine V_ret (pc := 128) (v := some (zI _)) ⟨e_X7_count_128, _, rfl, rfl⟩ ?_
        refine ck _ ?_
        obtain rfl : w = 2 := by omega
        show _ = r 1
        omega
      | 3, ho =>
        obtain rfl := Option.some.inj ho
        refine V_aload_n (pc := 129) e_X7_count_129 rfl (Or.inl ⟨_, rfl⟩) ?_
        refine Vp_getR (pc := 130) (q := 0) (j := 1) hZ.1 fx_7_12 e_X7_count_130 rfl rfl ?_
        refine Vk_get (pc := 133) (i := 0) (q := 5) hB rfl (by decide) rfl fx_7_83 e_X7_count_133 rfl rfl ?_
        refine V_ret (pc := 136) (v := some (zI _)) ⟨e_X7_count_136, _, rfl, rfl⟩ ?_
        refine ck _ ?_
        obtain rfl : w = 3 := by omega
        show _ = r 2
        omega
      | 4, ho =>
        obtain rfl := Option.some.inj ho
        refine V_aload_n (pc := 137) e_X7_count_137 rfl (Or.inl ⟨_, rfl⟩) ?_
        refine Vp_getR (pc := 138) (q := 0) (j := 1) hZ.1 fx_7_12 e_X7_count_138 rfl rfl ?_
        refine Vk_get (pc := 141) (i := 0) (q := 4) hB rfl (by decide) rfl fx_7_79 e_X7_count_141 rfl rfl ?_
        refine V_ret (pc := 144) (v := some (zI _)) ⟨e_X7_count_144, _, rfl, rfl⟩ ?_
        refine ck _ ?_
        obtain rfl : w = 4 := by omega
        show _ = r 3
        omega
      | 5, ho =>
        obtain rfl := Option.some.inj ho
        refine V_aload_n (pc := 145) e_X7_count_145 rfl (Or.inl ⟨_, rfl⟩) ?_
        refine Vp_getR (pc := 146) (q := 0) (j := 1) hZ.1 fx_7_12 e_X7_count_146 rfl rfl ?_
        refine Vk_get (pc := 149) (i := 0) (q := 8) hB rfl (by decide) rfl fx_7_187 e_X7_count_149 rfl rfl ?_
        refine V_ret (pc := 152) (v := some (zI _)) ⟨e_X7_count_152, _, rfl, rfl⟩ ?_
        refine ck _ ?_
        obtain rfl : w = 5 := by omega
        show _ = r 4
        omega
      | 6, ho =>
        obtain rfl := Option.some.inj ho
        refine V_aload_n (pc := 153) e_X7_count_153 rfl (Or.inl ⟨_, rfl⟩) ?_
        refine Vp_getR (pc := 154) (q := 0) (j := 1) hZ.1 fx_7_12 e_X7_count_154 rfl rfl ?_
        refine Vk_get (pc := 157) (i := 0) (q := 6) hB rfl (by decide) rfl fx_7_190 e_X7_count_157 rfl rfl ?_
        refine V_ret (pc := 160) (v := some (zI _)) ⟨e_X7_count_160, _, rfl, rfl⟩ ?_
        refine ck _ ?_
        obtain rfl : w = 6 := by omega
        show _ = r 5
        omega
      | 7, ho =>
        obtain rfl := Option.some.inj ho
        refine V_aload_n (pc := 161) e_X7_count_161 rfl (Or.inl ⟨_, rfl⟩) ?_
        refine Vp_getR (pc := 162) (q := 0) (j := 1) hZ.1 fx_7_12 e_X7_count_162 rfl rfl ?_
        refine Vk_get (pc := 165) (i := 0) (q := 6) hB rfl (by decide) rfl fx_7_190 e_X7_count_165 rfl rfl ?_
        refine V_if_ne (pc := 168) e_X7_count_168 (by decide) (by omega) (fun h168 => ?_) (fun h168 => ?_)
        · refine V_aload_n (pc := 176) e_X7_count_176 rfl (Or.inl ⟨_, rfl⟩) ?_
          refine Vp_getR (pc := 177) (q := 0) (j := 1) hZ.1 fx_7_12 e_X7_count_177 rfl rfl ?_
          refine Vk_get (pc := 180) (i := 0) (q := 7) hB rfl (by decide) rfl fx_7_193 e_X7_count_180 rfl rfl ?_
          refine V_ret (pc := 183) (v := some (zI _)) ⟨e_X7_count_183, _, rfl, rfl⟩ ?_
          refine ck _ ?_
          obtain rfl : w = 7 := by omega
          show _ = r 6
          omega
        · refine V_bipush (pc := 171) (by decide) e_X7_count_171 ?_
          refine V_goto (pc := 173) e_X7_count_173 (by decide) ?_
          refine V_ret (pc := 183) (v := some (zI _)) ⟨e_X7_count_183, _, rfl, rfl⟩ ?_
          refine ck _ ?_
          obtain rfl : w = 7 := by omega
          show _ = r 6
          omega
      | 8, ho =>
        obtain rfl := Option.some.inj ho
        refine V_aload_n (pc := 211) e_X7_count_211 rfl (Or.inl ⟨_, rfl⟩) ?_
        refine V_iload_n (pc := 212) e_X7_count_212 rfl ?_
        refine V_bipush (pc := 213) (by decide) e_X7_count_213 ?_
        refine V_isub (pc := 215) e_X7_count_215 ?_
        refine V_cV1 (pc := 216) ca_7_205 e_X7_count_216 (by decide) (Nat.le_of_ble_eq_true rfl) (by decide) rfl (by decide) (c_X7_settingAt hZ hM hI (by omega) (fun h_s1 => ?_) (fun h_s2 => ?_))
        · refine V_ret (pc := 219) (v := some (zI _)) ⟨e_X7_count_219, _, rfl, rfl⟩ ?_
          first
            | (exfalso; omega)
            | exact ck _ (cntF_s (by omega)).symm
        · refine V_ret (pc := 219) (v := some (zI _)) ⟨e_X7_count_219, _, rfl, rfl⟩ ?_
          first
            | (exfalso; omega)
            | exact ck _ (cntF_s (by omega)).symm
      | 9, ho =>
        obtain rfl := Option.some.inj ho
        refine V_aload_n (pc := 211) e_X7_count_211 rfl (Or.inl ⟨_, rfl⟩) ?_
        refine V_iload_n (pc := 212) e_X7_count_212 rfl ?_
        refine V_bipush (pc := 213) (by decide) e_X7_count_213 ?_
        refine V_isub (pc := 215) e_X7_count_215 ?_
        refine V_cV1 (pc := 216) ca_7_205 e_X7_count_216 (by decide) (Nat.le_of_ble_eq_true rfl) (by decide) rfl (by decide) (c_X7_settingAt hZ hM hI (by omega) (fun h_s1 => ?_) (fun h_s2 => ?_))
        · refine V_ret (pc := 219) (v := some (zI _)) ⟨e_X7_count_219, _, rfl, rfl⟩ ?_
          first
            | (exfalso; omega)
            | exact ck _ (cntF_s (by omega)).symm
        · refine V_ret (pc := 219) (v := some (zI _)) ⟨e_X7_count_219, _, rfl, rfl⟩ ?_
          first
            | (exfalso; omega)
            | exact ck _ (cntF_s (by omega)).symm
      | 10, ho =>
        obtain rfl := Option.some.inj ho
        refine V_aload_n (pc := 211) e_X7_count_211 rfl (Or.inl ⟨_, rfl⟩) ?_
        refine V_iload_n (pc := 212) e_X7_count_212 rfl ?_
        refine V_bipush (pc := 213) (by decide) e_X7_count_213 ?_
        refine V_isub (pc := 215) e_X7_count_215 ?_
        refine V_cV1 (pc := 216) ca_7_205 e_X7_count_216 (by decide) (Nat.le_of_ble_eq_true rfl) (by decide) rfl (by decide) (c_X7_settingAt hZ hM hI (by omega) (fun h_s1 => ?_) (fun h_s2 => ?_))
        · refine V_ret (pc := 219) (v := some (zI _)) ⟨e_X7_count_219, _, rfl, rfl⟩ ?_
          first
            | (exfalso; omega)
            | exact ck _ (cntF_s (by omega)).symm
        · refine V_ret (pc := 219) (v := some (zI _)) ⟨e_X7_count_219, _, rfl, rfl⟩ ?_
          first
            | (exfalso; omega)
            | exact ck _ (cntF_s (by omega)).symm
      | 11, ho =>
        obtain rfl := Option.some.inj ho
        refine V_aload_n (pc := 211) e_X7_count_211 rfl (Or.inl ⟨_, rfl⟩) ?_
        refine V_iload_n (pc := 212) e_X7_count_212 rfl ?_
        refine V_bipush (pc := 213) (by decide) e_X7_count_213 ?_
        refine V_isub (pc := 215) e_X7_count_215 ?_
        refine V_cV1 (pc := 216) ca_7_205 e_X7_count_216 (by decide) (Nat.le_of_ble_eq_true rfl) (by decide) rfl (by decide) (c_X7_settingAt hZ hM hI (by omega) (fun h_s1 => ?_) (fun h_s2 => ?_))
        · refine V_ret (pc := 219) (v := some (zI _)) ⟨e_X7_count_219, _, rfl, rfl⟩ ?_
          first
            | (exfalso; omega)
            | exact ck _ (cntF_s (by omega)).symm
        · refine V_ret (pc := 219) (v := some (zI _)) ⟨e_X7_count_219, _, rfl, rfl⟩ ?_
          first
            | (exfalso; omega)
            | exact ck _ (cntF_s (by omega)).symm
      | 12, ho =>
        obtain rfl := Option.some.inj ho
        refine V_aload_n (pc := 211) e_X7_count_211 rfl (Or.inl ⟨_, rfl⟩) ?_
        refine V_iload_n (pc := 212) e_X7_count_212 rfl ?_
        refine V_bipush (pc := 213) (by decide) e_X7_count_213 ?_
        refine V_isub (pc := 215) e_X7_count_215 ?_
        refine V_cV1 (pc := 216) ca_7_205 e_X7_count_216 (by decide) (Nat.le_of_ble_eq_true rfl) (by decide) rfl (by decide) (c_X7_settingAt hZ hM hI (by omega) (fun h_s1 => ?_) (fun h_s2 => ?_))
        · refine V_ret (pc := 219) (v := some (zI _)) ⟨e_X7_count_219, _, rfl, rfl⟩ ?_
          first
            | (exfalso; omega)
            | exact ck _ (cntF_s (by omega)).symm
        · refine V_ret (pc := 219) (v := some (zI _)) ⟨e_X7_count_219, _, rfl, rfl⟩ ?_
          first
            | (exfalso; omega)
            | exact ck _ (cntF_s (by omega)).symm
      | 13, ho =>
        obtain rfl := Option.some.inj ho
        refine V_aload_n (pc := 211) e_X7_count_211 rfl (Or.inl ⟨_, rfl⟩) ?_
        refine V_iload_n (pc := 212) e_X7_count_212 rfl ?_
        refine V_bipush (pc := 213) (by decide) e_X7_count_213 ?_
        refine V_isub (pc := 215) e_X7_count_215 ?_
        refine V_cV1 (pc := 216) ca_7_205 e_X7_count_216 (by decide) (Nat.le_of_ble_eq_true rfl) (by decide) rfl (by decide) (c_X7_settingAt hZ hM hI (by omega) (fun h_s1 => ?_) (fun h_s2 => ?_))
        · refine V_ret (pc := 219) (v := some (zI _)) ⟨e_X7_count_219, _, rfl, rfl⟩ ?_
          first
            | (exfalso; omega)
            | exact ck _ (cntF_s (by omega)).symm
        · refine V_ret (pc := 219) (v := some (zI _)) ⟨e_X7_count_219, _, rfl, rfl⟩ ?_
          first
            | (exfalso; omega)
            | exact ck _ (cntF_s (by omega)).symm
      | 14, ho =>
        obtain rfl := Option.some.inj ho
        refine V_aload_n (pc := 184) e_X7_count_184 rfl (Or.inl ⟨_, rfl⟩) ?_
        refine Vp_getR (pc := 185) (q := 0) (j := 1) hZ.1 fx_7_12 e_X7_count_185 rfl rfl ?_
        refine Vk_getR (pc := 188) (i := 0) (q := 2) hB rfl (by decide) rfl fx_7_142 e_X7_count_188 rfl rfl (by decide) rfl ?_
        refine Vk_get (pc := 191) (q := 4) hB rfl (by decide) rfl fx_7_196 e_X7_count_191 rfl rfl ?_
        refine V_ret (pc := 194) (v := some (zI _)) ⟨e_X7_count_194, _, rfl, rfl⟩ ?_
        refine ck _ ?_
        obtain rfl : w = 14 := by omega
        show _ = r 9
        omega
      | 15, ho =>
        obtain rfl := Option.some.inj ho
        refine V_aload_n (pc := 195) e_X7_count_195 rfl (Or.inl ⟨_, rfl⟩) ?_
        refine Vp_getR (pc := 196) (q := 2) (j := 47) hZ.2.2.1 fx_7_22 e_X7_count_196 rfl rfl ?_
        refine Vp_get (pc := 199) (q := 1) (Or.inr (by decide)) (by decide) rfl fx_7_199 e_X7_count_199 rfl rfl ?_
        refine V_ret (pc := 202) (v := some (zI _)) ⟨e_X7_count_202, _, rfl, rfl⟩ ?_
        refine ck _ ?_
        obtain rfl : w = 15 := by omega
        show _ = σ.1 47 1
        rfl
      | 16, ho =>
        obtain rfl := Option.some.inj ho
        refine V_aload_n (pc := 203) e_X7_count_203 rfl (Or.inl ⟨_, rfl⟩) ?_
        refine Vp_getR (pc := 204) (q := 3) (j := 141) hZ.2.2.2.1 fx_7_29 e_X7_count_204 rfl rfl ?_
        refine Vp_get (pc := 207) (q := 1) (Or.inr (by decide)) (by decide) rfl fx_7_202 e_X7_count_207 rfl rfl ?_
        refine V_ret (pc := 210) (v := some (zI _)) ⟨e_X7_count_210, _, rfl, rfl⟩ ?_
        refine ck _ ?_
        obtain rfl : w = 16 := by omega
        show _ = σ.1 141 1
        rfl
      | j + 17, ho => exact absurd ho (by simp)
  · refine V_if_ne (pc := 6) e_X7_count_6 (by decide) (by decide) (fun h => absurd (by decide) h) (fun _ => ?_)
    refine V_iconst (pc := 9) e_X7_count_9 ?_
    refine V_ret (pc := 10) (v := some (zI _)) ⟨e_X7_count_10, _, rfl, rfl⟩ ?_
    exact ck _ (cntF_m (by omega)).symm
