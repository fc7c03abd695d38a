/-! the class is made -/
theorem setR_e {σ : Sto} {i : Nat} {k : Int} {r : Option Nat} : (setR σ i k r).2.1 i k = r := up2_e
theorem setR_q {σ : Sto} {i : Nat} {k q : Int} {r : Option Nat} (h : ¬ q = k) : (setR σ i k r).2.1 i q = σ.2.1 i q := up2_o (fun z => h z.2)
theorem setR_ne {σ : Sto} {i j : Nat} {k : Int} {r : Option Nat} (h : ¬ j = i) : (setR σ i k r).2.1 j = σ.2.1 j := up2_ne h
theorem setR_i {σ : Sto} {i : Nat} {k : Int} {r : Option Nat} : (setR σ i k r).1 = σ.1 := rfl
theorem newR_ne {σ : Sto} {i j : Nat} {f : Int → Option Nat} (h : ¬ j = i) : (newR σ i f).1 j = σ.1 j := if_neg h
theorem newR_ne2 {σ : Sto} {i j : Nat} {f : Int → Option Nat} (h : ¬ j = i) : (newR σ i f).2.1 j = σ.2.1 j := if_neg h
theorem MS.newR_o {a i : Nat} {σ : Sto} {c : Nat → Int → Int} {π : Int → Nat} {f : Int → Option Nat} (h : MS a σ c π) (hd : i < a ∨ a + 23 ≤ i) : MS a (newR σ i f) c π := h.ext (fun _ _ => newR_ne (by omega)) (fun _ _ => newR_ne2 (by omega))
theorem c_X2_init {σ : Sto} {Q : Option Value → Sto → Prop} (k : Q none (setR (newR σ 142 (fun _ => none)) 141 0 (some 142))) : Con M_X2_init 142 143 σ [.ref 141] Q := by
  refine V_entry ok_X2_init (by decide) (Nat.le_of_ble_eq_true rfl) (V_ls [(0, .ref 141)] ⟨rfl, trivial⟩ ?_)
  refine V_aload_n (pc := 0) e_X2_init_0 rfl (Or.inl ⟨_, rfl⟩) ?_
  refine V_objInit (pc := 1) rfl (by decide) (Nat.le_of_ble_eq_true rfl) e_X2_init_1 ?_
  refine V_aload_n (pc := 4) e_X2_init_4 rfl (Or.inl ⟨_, rfl⟩) ?_
  refine V_bipush (pc := 5) (by decide) e_X2_init_5 ?_
  refine V_newc (pc := 7) (N := 142) (n := 100) e_X2_init_7 rfl (by decide) (by decide) ?_
  refine V_putF (pc := 9) (q := 0) fx_2_9 e_X2_init_9 rfl rfl rfl rfl rfl (by decide) rfl ?_
  refine V_ret (pc := 12) (v := none) ⟨e_X2_init_12, rfl⟩ ?_
  exact k
theorem c_X0_init {σ : Sto} {Q : Option Value → Sto → Prop} (k : Q none (setR (kst 118 (setR (kst 95 (setR (kst 72 (setR (kst 49 (setR (newR σ 48 (fun _ => none)) 47 0 (some 48)) cI0 π0) 48 0 (some 49)) cI0 π0) 48 1 (some 72)) cI0 π0) 48 2 (some 95)) cI0 π0) 48 3 (some 118))) : Con M_X0_init 48 141 σ [.ref 47] Q := by
  refine V_entry ok_X0_init (by decide) (Nat.le_of_ble_eq_true rfl) (V_ls [(0, .ref 47)] ⟨rfl, trivial⟩ ?_)
  refine V_aload_n (pc := 0) e_X0_init_0 rfl (Or.inl ⟨_, rfl⟩) ?_
  refine V_objInit (pc := 1) rfl (by decide) (Nat.le_of_ble_eq_true rfl) e_X0_init_1 ?_
  refine V_aload_n (pc := 4) e_X0_init_4 rfl (Or.inl ⟨_, rfl⟩) ?_
  refine V_iconst (pc := 5) e_X0_init_5 ?_
  refine V_anew (pc := 6) (N := 48) (n := 4) (fun _ => none) (Or.inr rfl) rfl e_X0_init_6 rfl (by decide) (fun _ _ => rfl) (by decide) ?_
  refine V_putF (pc := 9) (q := 0) fx_0_11 e_X0_init_9 rfl rfl rfl rfl rfl (by decide) rfl ?_
  refine V_iconst (pc := 12) e_X0_init_12 ?_
  refine V_istore_n (pc := 13) e_X0_init_13 (by decide) ?_
  refine V_iload_n (pc := 14) e_X0_init_14 rfl ?_
  refine V_iconst (pc := 15) e_X0_init_15 ?_
  refine V_icmp_ge (pc := 16) e_X0_init_16 (by decide) (by decide) (by decide) (fun h => absurd h (by decide)) (fun _ => ?_)
  refine V_aload_n (pc := 19) e_X0_init_19 rfl (Or.inl ⟨_, rfl⟩) ?_
  refine V_getR (pc := 20) (q := 0) (j := 48) fx_0_11 e_X0_init_20 rfl rfl (by decide) rfl (by simp (disch := decide) only [setR_ne, setR_e, setR_q, setR_i, newR_ne, newR_ne2, newR_1, newR_2, kst_o1, kst_o2]) ?_
  refine V_iload_n (pc := 23) e_X0_init_23 rfl ?_
  refine V_new (pc := 24) (N := 49) rfl e_X0_init_24 rfl (by decide) ?_
  refine V_dup (pc := 27) e_X0_init_27 rfl ?_
  refine V_cI (pc := 28) (N' := 72) ca_0_17 e_X0_init_28 (by decide) (Nat.le_of_ble_eq_true rfl) (by decide) (c_X4_new (b := 49) (Or.inr (Or.inr (Or.inl rfl))) ?_)
  refine V_aast (pc := 31) (k := 4) (n := 4) e_X0_init_31 (by decide) rfl (Or.inr rfl) (by decide) rfl (by decide) (by decide) (by decide) ?_
  refine V_iincK (pc := 32) (z := 1) e_X0_init_32 rfl rfl (by decide) ?_
  refine V_goto (pc := 35) e_X0_init_35 (by decide) ?_
  refine V_iload_n (pc := 14) e_X0_init_14 rfl ?_
  refine V_iconst (pc := 15) e_X0_init_15 ?_
  refine V_icmp_ge (pc := 16) e_X0_init_16 (by decide) (by decide) (by decide) (fun h => absurd h (by decide)) (fun _ => ?_)
  refine V_aload_n (pc := 19) e_X0_init_19 rfl (Or.inl ⟨_, rfl⟩) ?_
  refine V_getR (pc := 20) (q := 0) (j := 48) fx_0_11 e_X0_init_20 rfl rfl (by decide) rfl (by simp (disch := decide) only [setR_ne, setR_e, setR_q, setR_i, newR_ne, newR_ne2, newR_1, newR_2, kst_o1, kst_o2]) ?_
  refine V_iload_n (pc := 23) e_X0_init_23 rfl ?_
  refine V_new (pc := 24) (N := 72) rfl e_X0_init_24 rfl (by decide) ?_
  refine V_dup (pc := 27) e_X0_init_27 rfl ?_
  refine V_cI (pc := 28) (N' := 95) ca_0_17 e_X0_init_28 (by decide) (Nat.le_of_ble_eq_true rfl) (by decide) (c_X4_new (b := 72) (Or.inr (Or.inr (Or.inr (Or.inl rfl)))) ?_)
  refine V_aast (pc := 31) (k := 4) (n := 4) e_X0_init_31 (by decide) rfl (Or.inr rfl) (by decide) rfl (by decide) (by decide) (by decide) ?_
  refine V_iincK (pc := 32) (z := 2) e_X0_init_32 rfl rfl (by decide) ?_
  refine V_goto (pc := 35) e_X0_init_35 (by decide) ?_
  refine V_iload_n (pc := 14) e_X0_init_14 rfl ?_
  refine V_iconst (pc := 15) e_X0_init_15 ?_
  refine V_icmp_ge (pc := 16) e_X0_init_16 (by decide) (by decide) (by decide) (fun h => absurd h (by decide)) (fun _ => ?_)
  refine V_aload_n (pc := 19) e_X0_init_19 rfl (Or.inl ⟨_, rfl⟩) ?_
  refine V_getR (pc := 20) (q := 0) (j := 48) fx_0_11 e_X0_init_20 rfl rfl (by decide) rfl (by simp (disch := decide) only [setR_ne, setR_e, setR_q, setR_i, newR_ne, newR_ne2, newR_1, newR_2, kst_o1, kst_o2]) ?_
  refine V_iload_n (pc := 23) e_X0_init_23 rfl ?_
  refine V_new (pc := 24) (N := 95) rfl e_X0_init_24 rfl (by decide) ?_
  refine V_dup (pc := 27) e_X0_init_27 rfl ?_
  refine V_cI (pc := 28) (N' := 118) ca_0_17 e_X0_init_28 (by decide) (Nat.le_of_ble_eq_true rfl) (by decide) (c_X4_new (b := 95) (Or.inr (Or.inr (Or.inr (Or.inr (Or.inl rfl))))) ?_)
  refine V_aast (pc := 31) (k := 4) (n := 4) e_X0_init_31 (by decide) rfl (Or.inr rfl) (by decide) rfl (by decide) (by decide) (by decide) ?_
  refine V_iincK (pc := 32) (z := 3) e_X0_init_32 rfl rfl (by decide) ?_
  refine V_goto (pc := 35) e_X0_init_35 (by decide) ?_
  refine V_iload_n (pc := 14) e_X0_init_14 rfl ?_
  refine V_iconst (pc := 15) e_X0_init_15 ?_
  refine V_icmp_ge (pc := 16) e_X0_init_16 (by decide) (by decide) (by decide) (fun h => absurd h (by decide)) (fun _ => ?_)
  refine V_aload_n (pc := 19) e_X0_init_19 rfl (Or.inl ⟨_, rfl⟩) ?_
  refine V_getR (pc := 20) (q := 0) (j := 48) fx_0_11 e_X0_init_20 rfl rfl (by decide) rfl (by simp (disch := decide) only [setR_ne, setR_e, setR_q, setR_i, newR_ne, newR_ne2, newR_1, newR_2, kst_o1, kst_o2]) ?_
  refine V_iload_n (pc := 23) e_X0_init_23 rfl ?_
  refine V_new (pc := 24) (N := 118) rfl e_X0_init_24 rfl (by decide) ?_
  refine V_dup (pc := 27) e_X0_init_27 rfl ?_
  refine V_cI (pc := 28) (N' := 141) ca_0_17 e_X0_init_28 (by decide) (Nat.le_of_ble_eq_true rfl) (by decide) (c_X4_new (b := 118) (Or.inr (Or.inr (Or.inr (Or.inr (Or.inr rfl))))) ?_)
  refine V_aast (pc := 31) (k := 4) (n := 4) e_X0_init_31 (by decide) rfl (Or.inr rfl) (by decide) rfl (by decide) (by decide) (by decide) ?_
  refine V_iincK (pc := 32) (z := 4) e_X0_init_32 rfl rfl (by decide) ?_
  refine V_goto (pc := 35) e_X0_init_35 (by decide) ?_
  refine V_iload_n (pc := 14) e_X0_init_14 rfl ?_
  refine V_iconst (pc := 15) e_X0_init_15 ?_
  refine V_icmp_ge (pc := 16) e_X0_init_16 (by decide) (by decide) (by decide) (fun _ => ?_) (fun h => absurd (by decide) h)
  refine V_ret (pc := 38) (v := none) ⟨e_X0_init_38, rfl⟩ ?_
  exact k
theorem c_X7_init {σ : Sto} {Q : Option Value → Sto → Prop} (k : Q none (setR (newR (setR (setR (newR (newR (setR (setR (kst 118 (setR (kst 95 (setR (kst 72 (setR (kst 49 (setR (newR (newR (setR (kst 24 (setR (kst 1 (newR σ 0 (fun _ => none)) cI0 π0) 0 0 (some 1)) cI0 π0) 0 1 (some 24)) 47 (fun _ => none)) 48 (fun _ => none)) 47 0 (some 48)) cI0 π0) 48 0 (some 49)) cI0 π0) 48 1 (some 72)) cI0 π0) 48 2 (some 95)) cI0 π0) 48 3 (some 118)) 0 2 (some 47)) 141 (fun _ => none)) 142 (fun _ => none)) 141 0 (some 142)) 0 3 (some 141)) 143 (fun _ => none)) 0 4 (some 143))) : Con M_X7_init 1 144 (newR σ 0 (fun _ => none)) [.ref 0] Q := by
  refine V_entry ok_X7_init (by decide) (Nat.le_of_ble_eq_true rfl) (V_ls [(0, .ref 0)] ⟨rfl, trivial⟩ ?_)
  refine V_aload_n (pc := 0) e_X7_init_0 rfl (Or.inl ⟨_, rfl⟩) ?_
  refine V_objInit (pc := 1) rfl (by decide) (Nat.le_of_ble_eq_true rfl) e_X7_init_1 ?_
  refine V_aload_n (pc := 4) e_X7_init_4 rfl (Or.inl ⟨_, rfl⟩) ?_
  refine V_new (pc := 5) (N := 1) rfl e_X7_init_5 rfl (by decide) ?_
  refine V_dup (pc := 8) e_X7_init_8 rfl ?_
  refine V_cI (pc := 9) (N' := 24) ca_7_11 e_X7_init_9 (by decide) (Nat.le_of_ble_eq_true rfl) (by decide) (c_X4_new (b := 1) (Or.inl rfl) ?_)
  refine V_putF (pc := 12) (q := 0) fx_7_12 e_X7_init_12 rfl rfl rfl rfl rfl (by decide) rfl ?_
  refine V_aload_n (pc := 15) e_X7_init_15 rfl (Or.inl ⟨_, rfl⟩) ?_
  refine V_new (pc := 16) (N := 24) rfl e_X7_init_16 rfl (by decide) ?_
  refine V_dup (pc := 19) e_X7_init_19 rfl ?_
  refine V_cI (pc := 20) (N' := 47) ca_7_11 e_X7_init_20 (by decide) (Nat.le_of_ble_eq_true rfl) (by decide) (c_X4_new (b := 24) (Or.inr (Or.inl rfl)) ?_)
  refine V_putF (pc := 23) (q := 1) fx_7_16 e_X7_init_23 rfl rfl rfl rfl rfl (by decide) rfl ?_
  refine V_aload_n (pc := 26) e_X7_init_26 rfl (Or.inl ⟨_, rfl⟩) ?_
  refine V_new (pc := 27) (N := 47) rfl e_X7_init_27 rfl (by decide) ?_
  refine V_dup (pc := 30) e_X7_init_30 rfl ?_
  refine V_cI (pc := 31) (N' := 141) ca_7_21 e_X7_init_31 (by decide) (Nat.le_of_ble_eq_true rfl) (by decide) (c_X0_init ?_)
  refine V_putF (pc := 34) (q := 2) fx_7_22 e_X7_init_34 rfl rfl rfl rfl rfl (by decide) rfl ?_
  refine V_aload_n (pc := 37) e_X7_init_37 rfl (Or.inl ⟨_, rfl⟩) ?_
  refine V_new (pc := 38) (N := 141) rfl e_X7_init_38 rfl (by decide) ?_
  refine V_dup (pc := 41) e_X7_init_41 rfl ?_
  refine V_cIN (pc := 42) (N' := 143) ca_7_28 e_X7_init_42 (by decide) (Nat.le_of_ble_eq_true rfl) (by decide) (c_X2_init ?_)
  refine V_putF (pc := 45) (q := 3) fx_7_29 e_X7_init_45 rfl rfl rfl rfl rfl (by decide) rfl ?_
  refine V_aload_n (pc := 48) e_X7_init_48 rfl (Or.inl ⟨_, rfl⟩) ?_
  refine V_new (pc := 49) (N := 143) rfl e_X7_init_49 rfl (by decide) ?_
  refine V_dup (pc := 52) e_X7_init_52 rfl ?_
  refine V_cIN (pc := 53) (N' := 144) ca_7_35 e_X7_init_53 (by decide) (Nat.le_of_ble_eq_true rfl) (by decide) (c_X1_init ?_)
  refine V_putF (pc := 56) (q := 4) fx_7_36 e_X7_init_56 rfl rfl rfl rfl rfl (by decide) rfl ?_
  refine V_ret (pc := 59) (v := none) ⟨e_X7_init_59, rfl⟩ ?_
  exact k
def sF (σ : Sto) : Sto := (setR (newR (setR (setR (newR (newR (setR (setR (kst 118 (setR (kst 95 (setR (kst 72 (setR (kst 49 (setR (newR (newR (setR (kst 24 (setR (kst 1 (newR σ 0 (fun _ => none)) cI0 π0) 0 0 (some 1)) cI0 π0) 0 1 (some 24)) 47 (fun _ => none)) 48 (fun _ => none)) 47 0 (some 48)) cI0 π0) 48 0 (some 49)) cI0 π0) 48 1 (some 72)) cI0 π0) 48 2 (some 95)) cI0 π0) 48 3 (some 118)) 0 2 (some 47)) 141 (fun _ => none)) 142 (fun _ => none)) 141 0 (some 142)) 0 3 (some 141)) 143 (fun _ => none)) 0 4 (some 143))
theorem sF_HZ {σ : Sto} : HZ (sF σ) := by
  unfold HZ sF
  simp (disch := decide) only [setR_ne, setR_e, setR_q, setR_i, newR_ne, newR_ne2, newR_1, newR_2, kst_o1, kst_o2, and_self]
theorem sF_MS1 {σ : Sto} : MS 1 (sF σ) cI0 π0 := (((((((((((((((((((((MS.setR_o kst_MS (by decide)).kst_o (by decide)).setR_o (by decide)).newR_o (by decide)).newR_o (by decide)).setR_o (by decide)).kst_o (by decide)).setR_o (by decide)).kst_o (by decide)).setR_o (by decide)).kst_o (by decide)).setR_o (by decide)).kst_o (by decide)).setR_o (by decide)).setR_o (by decide)).newR_o (by decide)).newR_o (by decide)).setR_o (by decide)).setR_o (by decide)).newR_o (by decide)).setR_o (by decide))
theorem sF_MS24 {σ : Sto} : MS 24 (sF σ) cI0 π0 := (((((((((((((((((((MS.setR_o kst_MS (by decide)).newR_o (by decide)).newR_o (by decide)).setR_o (by decide)).kst_o (by decide)).setR_o (by decide)).kst_o (by decide)).setR_o (by decide)).kst_o (by decide)).setR_o (by decide)).kst_o (by decide)).setR_o (by decide)).setR_o (by decide)).newR_o (by decide)).newR_o (by decide)).setR_o (by decide)).setR_o (by decide)).newR_o (by decide)).setR_o (by decide))
theorem sF_MS49 {σ : Sto} : MS 49 (sF σ) cI0 π0 := ((((((((((((((MS.setR_o kst_MS (by decide)).kst_o (by decide)).setR_o (by decide)).kst_o (by decide)).setR_o (by decide)).kst_o (by decide)).setR_o (by decide)).setR_o (by decide)).newR_o (by decide)).newR_o (by decide)).setR_o (by decide)).setR_o (by decide)).newR_o (by decide)).setR_o (by decide))
theorem sF_MS72 {σ : Sto} : MS 72 (sF σ) cI0 π0 := ((((((((((((MS.setR_o kst_MS (by decide)).kst_o (by decide)).setR_o (by decide)).kst_o (by decide)).setR_o (by decide)).setR_o (by decide)).newR_o (by decide)).newR_o (by decide)).setR_o (by decide)).setR_o (by decide)).newR_o (by decide)).setR_o (by decide))
theorem sF_MS95 {σ : Sto} : MS 95 (sF σ) cI0 π0 := ((((((((((MS.setR_o kst_MS (by decide)).kst_o (by decide)).setR_o (by decide)).setR_o (by decide)).newR_o (by decide)).newR_o (by decide)).setR_o (by decide)).setR_o (by decide)).newR_o (by decide)).setR_o (by decide))
theorem sF_MS118 {σ : Sto} : MS 118 (sF σ) cI0 π0 := ((((((((MS.setR_o kst_MS (by decide)).setR_o (by decide)).newR_o (by decide)).newR_o (by decide)).setR_o (by decide)).setR_o (by decide)).newR_o (by decide)).setR_o (by decide))
theorem sF_num {σ : Sto} : (sF σ).1 0 5 = 0 ∧ (sF σ).1 141 1 = 0 ∧ (sF σ).1 47 1 = 0 ∧ (sF σ).2.2 = σ.2.2 := by
  refine ⟨?_, ?_, ?_, rfl⟩
  · unfold sF
    simp (disch := decide) only [setR_ne, setR_e, setR_q, setR_i, newR_ne, newR_ne2, newR_1, newR_2, kst_o1, kst_o2]
  · unfold sF
    simp (disch := decide) only [setR_ne, setR_e, setR_q, setR_i, newR_ne, newR_ne2, newR_1, newR_2, kst_o1, kst_o2]
  · unfold sF
    simp (disch := decide) only [setR_ne, setR_e, setR_q, setR_i, newR_ne, newR_ne2, newR_1, newR_2, kst_o1, kst_o2]
theorem sF_h {σ : Sto} : (sF σ).2.1 47 0 = some 48 ∧ (sF σ).2.1 48 0 = some 49 ∧ (sF σ).2.1 48 1 = some 72 ∧ (sF σ).2.1 48 2 = some 95 ∧ (sF σ).2.1 48 3 = some 118 := by
  unfold sF
  simp (disch := decide) only [setR_ne, setR_e, setR_q, setR_i, newR_ne, newR_ne2, newR_1, newR_2, kst_o1, kst_o2, and_self]
theorem sF_HS {σ : Sto} {ρ : Int → Int → Int} : HS (sF σ) 0 ρ := by
  have h := sF_h (σ := σ)
  refine ⟨h.1, sF_num.2.2.1, by decide, fun k => if k = 0 then 49 else if k = 1 then 72 else if k = 2 then 95 else 118, fun k a d => ?_, fun i j a d e f g => ?_, fun k a d => absurd d (by omega)⟩
  · rcases (show k = 0 ∨ k = 1 ∨ k = 2 ∨ k = 3 by omega) with y | y | y | y <;> subst y
    · exact ⟨h.2.1, Or.inl rfl, _, _, sF_MS49, PI_π0⟩
    · exact ⟨h.2.2.1, Or.inr (Or.inl rfl), _, _, sF_MS72, PI_π0⟩
    · exact ⟨h.2.2.2.1, Or.inr (Or.inr (Or.inl rfl)), _, _, sF_MS95, PI_π0⟩
    · exact ⟨h.2.2.2.2, Or.inr (Or.inr (Or.inr rfl)), _, _, sF_MS118, PI_π0⟩
  · dsimp only at g
    (repeat' split at g) <;> omega
