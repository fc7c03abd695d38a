/-! type, clearText -/
theorem kst_setO {σ : Sto} {c : Nat → Int → Int} {π : Int → Nat} {i : Nat} {q x : Int} (ho : i < 1 ∨ 1 + 23 ≤ i) : setI (kst 1 σ c π) i q x = kst 1 (setI σ i q x) c π := by
  refine setI_eq rfl ?_ (fun j hj => ?_)
  · rw [kst_o1 (b := 1) ho, kst_o1 (b := 1) ho]
    exact up2_at
  · by_cases g : 1 ≤ j ∧ j < 24
    · obtain ⟨m, rfl⟩ := Nat.exists_eq_add_of_le g.1
      rw [kst_1 (by omega), kst_1 (by omega)]
    · rw [kst_o1 (b := 1) (by omega), kst_o1 (b := 1) (by omega)]
      exact up2_ne hj
section TXT
variable {M : MI} {N1 pc : Nat} {ls : List (Nat × Value)} {st : List Value} {Q : Option Value → Sto → Prop} {σ : Sto} {ix k : Nat} {q : Int}
theorem Vt_put {x : Int} (hf : fldR (miC M) ix = some (2, k)) (hd : decode (miB M) pc = .ok (.putfield ix, 3)) (ht : isRf (tyXs 2 k) = false) (hq : (k : Int) = q) (hn : narrow (tyXs 2 k) (zI x) = zI x) (hfit : fits (tyXs 2 k) (zI x) = true) (hfin : (TXs 2 k).2.2.2 = false) (kk : V M N1 (pc + 3) ls st 144 (setI σ 141 q x) Q) : V M N1 pc ls (zI x :: .ref 141 :: st) 144 σ Q := V_put hf hd ht hq hn hfit hfin (by decide) rfl kk
end TXT
theorem c_X2_append {σ : Sto} {Q : Option Value → Sto → Prop} (hJ : σ.2.1 141 0 = some 142) {x : Int} (hx : 0 ≤ x ∧ x < 65536) (hl : 0 ≤ σ.1 141 1 ∧ σ.1 141 1 < 100) (k : Q none (setI (setI σ 142 (σ.1 141 1) x) 141 1 (σ.1 141 1 + 1))) : Con M_X2_append 144 144 σ [.ref 141, zI x] Q := by
  refine V_entry ok_X2_append (Nat.le_refl _) (Nat.le_of_ble_eq_true rfl) (V_ls [(0, .ref 141), (1, zI x)] ⟨rfl, rfl, trivial⟩ ?_)
  refine V_aload_n (pc := 0) e_X2_append_0 rfl (Or.inl ⟨_, rfl⟩) ?_
  refine V_get (pc := 1) (q := 1) fx_2_15 e_X2_append_1 rfl rfl (by decide) rfl ?_
  refine V_bipush (pc := 4) (by decide) e_X2_append_4 ?_
  refine V_cN2 (pc := 6) ca_2_19 e_X2_append_6 (by decide) (Nat.le_of_ble_eq_true rfl) (c_X7_isBelow (by omega) (by omega) (fun h_bl => ?_) (fun h_bl => ?_))
  · refine V_if_eq (pc := 9) e_X2_append_9 (by decide) (by decide) (fun h => absurd h (by decide)) (fun _ => ?_)
    refine V_aload_n (pc := 12) e_X2_append_12 rfl (Or.inl ⟨_, rfl⟩) ?_
    refine V_getR (pc := 13) (q := 0) (j := 142) fx_2_9 e_X2_append_13 rfl rfl (by decide) rfl hJ ?_
    refine V_aload_n (pc := 16) e_X2_append_16 rfl (Or.inl ⟨_, rfl⟩) ?_
    refine V_get (pc := 17) (q := 1) fx_2_15 e_X2_append_17 rfl rfl (by decide) rfl ?_
    refine V_iload_n (pc := 20) e_X2_append_20 rfl ?_
    refine V_cast (pc := 21) (n := 100) e_X2_append_21 (by decide) rfl (by omega) (by omega) (by decide) (by omega) ?_
    refine V_aload_n (pc := 22) e_X2_append_22 rfl (Or.inl ⟨_, rfl⟩) ?_
    refine V_dup (pc := 23) e_X2_append_23 rfl ?_
    refine V_get (pc := 24) (q := 1) fx_2_15 e_X2_append_24 rfl rfl (by decide) rfl ?_
    refine V_iconst (pc := 27) e_X2_append_27 ?_
    refine V_iadd (pc := 28) e_X2_append_28 ?_
    refine Vt_put (pc := 29) (q := 1) fx_2_15 e_X2_append_29 rfl rfl rfl rfl rfl ?_
    refine V_ret (pc := 32) (v := none) ⟨e_X2_append_32, rfl⟩ ?_
    exact k
  · refine V_if_eq (pc := 9) e_X2_append_9 (by decide) (by decide) (fun _ => ?_) (fun h => absurd (by decide) h)
    refine V_ret (pc := 32) (v := none) ⟨e_X2_append_32, rfl⟩ ?_
    exfalso
    omega
theorem c_X7_type {σ : Sto} {c : Nat → Int → Int} {π : Int → Nat} {Q : Option Value → Sto → Prop} (hZ : HZ σ) {v : Int} (r_v : -2147483648 ≤ v ∧ v < 2147483648) (hl : 0 ≤ σ.1 141 1 ∧ σ.1 141 1 ≤ 100) (k1 : ¬ (32 ≤ v ∧ v ≤ 126) → Q (some (zI (-1))) (kst 1 σ c π)) (k2 : 32 ≤ v ∧ v ≤ 126 → σ.1 141 1 = 100 → Q (some (zI (-3))) (kst 1 σ c π)) (k3 : 32 ≤ v ∧ v ≤ 126 → σ.1 141 1 < 100 → Q (some (zI (σ.1 141 1 + 1))) (kst 1 (setI (setI σ 142 (σ.1 141 1) v) 141 1 (σ.1 141 1 + 1)) c π)) : Con M_X7_type 144 144 (kst 1 σ c π) [.ref 0, zI v] Q := by
  refine V_entry ok_X7_type (Nat.le_refl _) (Nat.le_of_ble_eq_true rfl) (V_ls [(0, .ref 0), (1, zI v)] ⟨rfl, rfl, trivial⟩ ?_)
  have hB : MB 1 := Or.inl rfl
  have o1 : (kst 1 σ c π).1 141 1 = σ.1 141 1 := congrFun (kst_o1 (b := 1) (Or.inr (by decide))) 1
  refine V_iload_n (pc := 0) e_X7_type_0 rfl ?_
  refine V_bipush (pc := 1) (by decide) e_X7_type_1 ?_
  refine V_bipush (pc := 3) (by decide) e_X7_type_3 ?_
  refine V_cS3 (pc := 5) ca_7_44 e_X7_type_5 (by decide) (Nat.le_of_ble_eq_true rfl) (c_X7_isWithin (by omega) (by omega) (by omega) (fun h_wi => ?_) (fun h_wi => ?_))
  · refine V_if_ne (pc := 8) e_X7_type_8 (by decide) (by decide) (fun _ => ?_) (fun h => absurd h (by decide))
    refine V_aload_n (pc := 13) e_X7_type_13 rfl (Or.inl ⟨_, rfl⟩) ?_
    refine Vp_getR (pc := 14) (q := 3) (j := 141) hZ.2.2.2.1 fx_7_29 e_X7_type_14 rfl rfl ?_
    refine Vp_get (pc := 17) (q := 1) (Or.inr (by decide)) (by decide) rfl fx_7_202 e_X7_type_17 rfl rfl ?_
    refine V_bipush (pc := 20) (by decide) e_X7_type_20 ?_
    refine V_icmp_lt (pc := 22) e_X7_type_22 (by decide) (by omega) (by decide) (fun h22 => ?_) (fun h22 => ?_)
    · refine V_aload_n (pc := 28) e_X7_type_28 rfl (Or.inl ⟨_, rfl⟩) ?_
      refine Vp_getR (pc := 29) (q := 3) (j := 141) hZ.2.2.2.1 fx_7_29 e_X7_type_29 rfl rfl ?_
      refine V_iload_n (pc := 32) e_X7_type_32 rfl ?_
      refine V_i2c (pc := 33) (by omega) e_X7_type_33 ?_
      refine V_cV1 (pc := 34) ca_7_227 e_X7_type_34 (by decide) (Nat.le_of_ble_eq_true rfl) (by decide) rfl (by decide) (c_X2_append ((congrFun (kst_o2 (b := 1) (c := c) (π := π) (Or.inr (by decide))) 0).trans hZ.2.2.2.2.2) (by omega) (by omega) ?_)
      refine V_sq (σ' := kst 1 (setI (setI σ 142 (σ.1 141 1) v) 141 1 (σ.1 141 1 + 1)) c π) (by rw [o1, kst_setO (Or.inr (by decide)), kst_setO (Or.inr (by decide))]) ?_
      have hZ : HZ (setI (setI σ 142 (σ.1 141 1) v) 141 1 (σ.1 141 1 + 1)) := hZ
      refine V_aload_n (pc := 37) e_X7_type_37 rfl (Or.inl ⟨_, rfl⟩) ?_
      refine Vp_getR (pc := 38) (q := 3) (j := 141) hZ.2.2.2.1 fx_7_29 e_X7_type_38 rfl rfl ?_
      refine Vp_get (pc := 41) (q := 1) (Or.inr (by decide)) (by decide) rfl fx_7_202 e_X7_type_41 rfl rfl ?_
      refine V_ret (pc := 44) (v := some (zI _)) ⟨e_X7_type_44, _, rfl, rfl⟩ ?_
      rw [setI_e]
      exact k3 h_wi (by omega)
    · refine V_bipush (pc := 25) (by decide) e_X7_type_25 ?_
      refine V_ret (pc := 27) (v := some (zI _)) ⟨e_X7_type_27, _, rfl, rfl⟩ ?_
      exact k2 h_wi (by omega)
  · refine V_if_ne (pc := 8) e_X7_type_8 (by decide) (by decide) (fun h => absurd (by decide) h) (fun _ => ?_)
    refine V_iconst (pc := 11) e_X7_type_11 ?_
    refine V_ret (pc := 12) (v := some (zI _)) ⟨e_X7_type_12, _, rfl, rfl⟩ ?_
    exact k1 (by omega)
