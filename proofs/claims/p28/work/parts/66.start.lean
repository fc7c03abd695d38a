/-! the law from its beginning -/
theorem sF_txt {σ : Sto} : (sF σ).1 142 = fun _ => 0 := by
  unfold sF
  simp (disch := decide) only [setR_i, newR_ne, newR_1, kst_o1]
theorem FS_0 {σ : Sto} {scr : Nat × (Nat → Int32)} (h : σ.2.2 = scr) : FS (sG (sF σ)) 0 (rows (fun _ => 0)) 0 (fun _ => 0) (-4) scr := by
  have n := sF_num (σ := σ)
  have f : FS (sF σ) 0 (rows (fun _ => 0)) 0 (fun _ => 0) (-4) scr := ⟨sF_HZ, sF_HS, ⟨cI0, π0, sF_MS24, PI_π0⟩, ⟨n.2.1, sF_txt⟩, Or.inl ⟨n.1, rfl⟩, n.2.2.2.trans h⟩
  exact f.ext (fun i a _ _ _ => (sG_o a).1) (congrFun (sG_o (by decide)).1 1) (fun i a _ => (sG_o a).2) rfl
theorem LI_0 {σ : Sto} {scr : Nat × (Nat → Int32)} (h : σ.2.2 = scr) : LI scr (mst (sG (sF σ)) r0 ((fun _ => 0), (fun _ => 0), 0, -4) ((fun _ => 0), (fun _ => 0), 0, 0, 0, 0, 0)) 0 :=
  LI_mk (sF_MS1.ext (fun i hi => (sG_o (by omega)).1) (fun i hi => (sG_o (by omega)).2)) (FS_0 h) MR_r0 RI_r0 (fun k a b => absurd b (by omega)) (by decide) (fun k a b => absurd b (by omega)) ⟨by decide +kernel, by decide +kernel⟩
theorem L_start {L : Nat} {xs : Nat → Int32} (hL : L ≤ 3072) {σ : Sto} (h : σ.2.2 = (L, xs)) : V M_L_law 150 0 [(0, .retAddr 3)] [] 0 σ (fun v _ => v = some (zI 1)) := by
  refine V_new (pc := 0) (N := 0) rfl e_L_law_0 rfl (by decide) ?_
  refine V_dup (pc := 3) e_L_law_3 rfl ?_
  refine V_cI (pc := 4) (N' := 144) ca_9_9 e_L_law_4 (by decide) (Nat.le_of_ble_eq_true rfl) (by decide) (c_X7_init ?_)
  refine V_astore_n (pc := 7) e_L_law_7 (Or.inl ⟨_, rfl⟩) (by decide) ?_
  refine V_new (pc := 8) (N := 144) rfl e_L_law_8 rfl (by decide) ?_
  refine V_dup (pc := 11) e_L_law_11 rfl ?_
  refine V_cI (pc := 12) (N' := 150) ca_9_12 e_L_law_12 (by decide) (Nat.le_of_ble_eq_true rfl) (by decide) (c_X8_init ?_)
  refine V_astore_n (pc := 15) e_L_law_15 (Or.inl ⟨_, rfl⟩) (by decide) ?_
  refine V_iconst (pc := 16) e_L_law_16 ?_
  refine V_istore_n (pc := 17) e_L_law_17 (by decide) ?_
  exact V_lq [(0, .retAddr 3), (1, .ref 0), (2, .ref 144), (3, zI (6 * ((0 : Nat) : Int)))] ⟨⟨_, rfl, rfl⟩, ⟨_, rfl, rfl⟩, ⟨_, rfl, rfl⟩, ⟨_, rfl, rfl⟩, trivial⟩ (L_L_law hL 512 0 _ (by omega) (by decide) (LI_0 h))
