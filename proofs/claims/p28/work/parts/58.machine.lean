/-! a machine is made -/
def upn {α : Type} (c : Nat → α) (n : Nat) (v : α) : Nat → α := fun i => if i = n then v else c i
def gst (b n : Nat) (σ : Sto) (c : Nat → Int → Int) (ρ : Nat → Int → Option Nat) : Sto := (fun i => if b ≤ i ∧ i < b + n then c (i - b) else σ.1 i, fun i => if b ≤ i ∧ i < b + n then ρ (i - b) else σ.2.1 i, σ.2.2)
theorem gst_1 {b n i : Nat} {σ : Sto} {c : Nat → Int → Int} {ρ : Nat → Int → Option Nat} (hi : i < n) : (gst b n σ c ρ).1 (b + i) = c i := by
  show (if b ≤ b + i ∧ b + i < b + n then c (b + i - b) else σ.1 (b + i)) = c i
  rw [if_pos (by omega), show b + i - b = i by omega]
theorem gst_2 {b n i : Nat} {σ : Sto} {c : Nat → Int → Int} {ρ : Nat → Int → Option Nat} (hi : i < n) : (gst b n σ c ρ).2.1 (b + i) = ρ i := by
  show (if b ≤ b + i ∧ b + i < b + n then ρ (b + i - b) else σ.2.1 (b + i)) = ρ i
  rw [if_pos (by omega), show b + i - b = i by omega]
theorem gst_o {b n j : Nat} {σ : Sto} {c : Nat → Int → Int} {ρ : Nat → Int → Option Nat} (h : j < b ∨ b + n ≤ j) : (gst b n σ c ρ).1 j = σ.1 j ∧ (gst b n σ c ρ).2.1 j = σ.2.1 j := ⟨if_neg (by omega), if_neg (by omega)⟩
theorem sto_ext {b n : Nat} {σ' σ : Sto} {c : Nat → Int → Int} {ρ : Nat → Int → Option Nat} (h3 : σ'.2.2 = σ.2.2) (h1 : ∀ i, i < n → σ'.1 (b + i) = c i ∧ σ'.2.1 (b + i) = ρ i) (h0 : ∀ j, j < b ∨ b + n ≤ j → σ'.1 j = σ.1 j ∧ σ'.2.1 j = σ.2.1 j) : σ' = gst b n σ c ρ := by
  refine Prod.ext (funext fun j => ?_) (Prod.ext (funext fun j => ?_) h3)
  · by_cases h : b ≤ j ∧ j < b + n
    · obtain ⟨m, rfl⟩ := Nat.exists_eq_add_of_le h.1
      rw [gst_1 (by omega)]
      exact (h1 m (by omega)).1
    · rw [(gst_o (by omega)).1]
      exact (h0 j (by omega)).1
  · by_cases h : b ≤ j ∧ j < b + n
    · obtain ⟨m, rfl⟩ := Nat.exists_eq_add_of_le h.1
      show σ'.2.1 (b + m) = (gst b n σ c ρ).2.1 (b + m)
      rw [gst_2 (by omega)]
      exact (h1 m (by omega)).2
    · show σ'.2.1 j = (gst b n σ c ρ).2.1 j
      rw [(gst_o (by omega)).2]
      exact (h0 j (by omega)).2
theorem upn_at {α : Type} {c : Nat → α} {n : Nat} {v : α} : upn c n v n = v := if_pos rfl
theorem upn_ne {α : Type} {c : Nat → α} {n i : Nat} {v : α} (h : ¬ i = n) : upn c n v i = c i := if_neg h
theorem gst_new {b n : Nat} {σ : Sto} {c : Nat → Int → Int} {ρ : Nat → Int → Option Nat} {f : Int → Option Nat} : newR (gst b n σ c ρ) (b + n) f = gst b (n + 1) σ (upn c n (fun _ => 0)) (upn ρ n f) := by
  refine sto_ext rfl (fun i hi => ?_) (fun j hj => ?_)
  · by_cases h : i = n
    · subst h
      rw [newR_1, newR_2, upn_at, upn_at]
      exact ⟨rfl, rfl⟩
    · rw [(newR_o (by omega)).1, (newR_o (by omega)).2, gst_1 (by omega), gst_2 (by omega), upn_ne h, upn_ne h]
      exact ⟨rfl, rfl⟩
  · rw [(newR_o (by omega)).1, (newR_o (by omega)).2]
    exact gst_o (by omega)
theorem gst_setI {b n i : Nat} {σ : Sto} {c : Nat → Int → Int} {ρ : Nat → Int → Option Nat} {q x : Int} (hi : i < n) : setI (gst b n σ c ρ) (b + i) q x = gst b n σ (up2 c i q x) ρ := by
  refine sto_ext rfl (fun m hm => ⟨?_, gst_2 (c := c) hm⟩) (fun j hj => ⟨?_, (gst_o (c := c) (ρ := ρ) hj).2⟩)
  · show up2 (gst b n σ c ρ).1 (b + i) q x (b + m) = _
    by_cases h : m = i
    · subst h
      rw [up2_at, up2_at, gst_1 hm]
    · rw [up2_ne (by omega), up2_ne h, gst_1 hm]
  · show up2 (gst b n σ c ρ).1 (b + i) q x j = _
    rw [up2_ne (by omega)]
    exact (gst_o hj).1
theorem gst_setA {b n i : Nat} {σ : Sto} {c : Nat → Int → Int} {ρ : Nat → Int → Option Nat} {f : Int → Int} (hi : i < n) : setA (gst b n σ c ρ) (b + i) f = gst b n σ (upn c i f) ρ := by
  refine sto_ext rfl (fun m hm => ⟨?_, gst_2 (c := c) hm⟩) (fun j hj => ⟨?_, (gst_o (c := c) (ρ := ρ) hj).2⟩)
  · show (if b + m = b + i then f else (gst b n σ c ρ).1 (b + m)) = _
    by_cases h : m = i
    · subst h
      rw [if_pos rfl, upn_at]
    · rw [if_neg (by omega), upn_ne h, gst_1 hm]
  · show (if j = b + i then f else (gst b n σ c ρ).1 j) = _
    rw [if_neg (by omega)]
    exact (gst_o hj).1
theorem gst_setR {b n i : Nat} {σ : Sto} {c : Nat → Int → Int} {ρ : Nat → Int → Option Nat} {q : Int} {x : Option Nat} (hi : i < n) : setR (gst b n σ c ρ) (b + i) q x = gst b n σ c (up2 ρ i q x) := by
  refine sto_ext rfl (fun m hm => ⟨gst_1 (ρ := ρ) hm, ?_⟩) (fun j hj => ⟨(gst_o (c := c) (ρ := ρ) hj).1, ?_⟩)
  · show up2 (gst b n σ c ρ).2.1 (b + i) q x (b + m) = _
    by_cases h : m = i
    · subst h
      rw [up2_at, up2_at, gst_2 hm]
    · rw [up2_ne (by omega), up2_ne h, gst_2 hm]
  · show up2 (gst b n σ c ρ).2.1 (b + i) q x j = _
    rw [up2_ne (by omega)]
    exact (gst_o hj).2
section GST
variable {M : MI} {N1 pc : Nat} {ls : List (Nat × Value)} {st : List Value} {Q : Option Value → Sto → Prop} {σ : Sto} {b n a i ix ci k L : Nat} {c : Nat → Int → Int} {ρ : Nat → Int → Option Nat} {q : Int}
theorem Vg_new (hB : MB b) (hn : n < 23) (hs : shM n = (0, ci)) (hcl : clsR (miC M) ix = some ci) (hd : decode (miB M) pc = .ok (.new ix, 3)) (hN1 : b + n < N1) (kk : V M N1 (pc + 3) ls (.ref (b + n) :: st) (b + (n + 1)) (gst b (n + 1) σ (upn c n (fun _ => 0)) (upn ρ n (fun _ => none))) Q) : V M N1 pc ls st (b + n) (gst b n σ c ρ) Q := by
  refine V_new hcl hd ((shB hB hn).trans hs) hN1 ?_
  rw [gst_new]
  exact kk
theorem Vg_newi (hB : MB b) (hn : n < 23) (hs : shM n = (1, L)) (hL : L < 1000) (hd : decode (miB M) pc = .ok (.newarray .int, 2)) (hN1 : b + n < N1) (kk : V M N1 (pc + 2) ls (.ref (b + n) :: st) (b + (n + 1)) (gst b (n + 1) σ (upn c n (fun _ => 0)) (upn ρ n (fun _ => none))) Q) : V M N1 pc ls (zI (L : Int) :: st) (b + n) (gst b n σ c ρ) Q := by
  refine V_newi hd ((shB hB hn).trans hs) hL hN1 ?_
  rw [gst_new]
  exact kk
theorem Vg_anew (hB : MB b) (hcl : clsR (miC M) ix = some 1) (hd : decode (miB M) pc = .ok (.anewarray ix, 3)) (hN1 : b + 6 < N1) (kk : V M N1 (pc + 3) ls (.ref (b + 6) :: st) (b + 7) (gst b 7 σ (upn c 6 (fun _ => 0)) (upn ρ 6 (fun j => if 0 ≤ j ∧ j < 10 then none else some (b + 7)))) Q) : V M N1 pc ls (zI 10 :: st) (b + 6) (gst b 6 σ c ρ) Q := by
  refine V_anew (n := 10) (fun j => if 0 ≤ j ∧ j < 10 then none else some (b + 7)) (Or.inl rfl) hcl hd ((shB hB (by decide)).trans rfl) (by decide) (fun j hj => if_pos (by omega)) hN1 ?_
  rw [gst_new]
  exact kk
theorem Vg_put {x : Int} (hB : MB b) (ha : a = b + i) (hi : i < n) (hn : n ≤ 23) (hs : shM i = (0, ci)) (hf : fldR (miC M) ix = some (ci, k)) (hd : decode (miB M) pc = .ok (.putfield ix, 3)) (ht : isRf (tyXs ci k) = false) (hq : (k : Int) = q) (hnn : narrow (tyXs ci k) (zI x) = zI x) (hfit : fits (tyXs ci k) (zI x) = true) (hfin : (TXs ci k).2.2.2 = false) (kk : V M N1 (pc + 3) ls st (b + n) (gst b n σ (up2 c i q x) ρ) Q) : V M N1 pc ls (zI x :: .ref a :: st) (b + n) (gst b n σ c ρ) Q := by
  subst ha
  refine V_put hf hd ht hq hnn hfit hfin (by omega) ((shB hB (by omega)).trans hs) ?_
  rw [gst_setI hi]
  exact kk
theorem Vg_putF {j : Nat} (hB : MB b) (ha : a = b + i) (hi : i < n) (hn : n ≤ 23) (hs : shM i = (0, ci)) (hf : fldR (miC M) ix = some (ci, k)) (hd : decode (miB M) pc = .ok (.putfield ix, 3)) (ht : isRf (tyXs ci k) = true) (hq : (k : Int) = q) (hfin : (TXs ci k).2.2.2 = true) (hini : (miN M).name = "<init>") (hdecl : (TXs ci k).1 = RXs (miC M)) (kk : V M N1 (pc + 3) ls st (b + n) (gst b n σ c (up2 ρ i q (some j))) Q) : V M N1 pc ls (.ref j :: .ref a :: st) (b + n) (gst b n σ c ρ) Q := by
  subst ha
  refine V_putF hf hd ht hq hfin hini hdecl (by omega) ((shB hB (by omega)).trans hs) ?_
  rw [gst_setR hi]
  exact kk
theorem Vg_getR {j : Nat} (hB : MB b) (ha : a = b + i) (hi : i < n) (hn : n ≤ 23) (hs : shM i = (0, ci)) (hf : fldR (miC M) ix = some (ci, k)) (hd : decode (miB M) pc = .ok (.getfield ix, 3)) (ht : isRf (tyXs ci k) = true) (hq : (k : Int) = q) (hr : ρ i q = some j) (kk : V M N1 (pc + 3) ls (.ref j :: st) (b + n) (gst b n σ c ρ) Q) : V M N1 pc ls (.ref a :: st) (b + n) (gst b n σ c ρ) Q := by
  subst ha
  exact V_getR hf hd ht hq (by omega) ((shB hB (by omega)).trans hs) (by rw [gst_2 hi]; exact hr) kk
theorem Vg_iast {j x : Int} (hB : MB b) (hi : i < n) (hn : n ≤ 23) (hs : shM i = (1, L)) (hL : L < 2147483648) (hd : decode (miB M) pc = .ok (.iastore, 1)) (h : 0 ≤ j ∧ j < (L : Int)) (kk : V M N1 (pc + 1) ls st (b + n) (gst b n σ (up2 c i j x) ρ) Q) : V M N1 pc ls (zI x :: zI j :: .ref (b + i) :: st) (b + n) (gst b n σ c ρ) Q := by
  refine V_iast hd (by omega) ((shB hB (by omega)).trans hs) h.1 h.2 hL ?_
  rw [gst_setI hi]
  exact kk
theorem Vg_aast {j : Int} {m : Nat} (hB : MB b) (h6 : 6 < n) (hn : n ≤ 23) (hm : 7 ≤ m ∧ m < n ∧ m ≤ 16) (hd : decode (miB M) pc = .ok (.aastore, 1)) (h : 0 ≤ j ∧ j < 10) (kk : V M N1 (pc + 1) ls st (b + n) (gst b n σ c (up2 ρ 6 j (some (b + m)))) Q) : V M N1 pc ls (.ref (b + m) :: zI j :: .ref (b + 6) :: st) (b + n) (gst b n σ c ρ) Q := by
  refine V_aast (k := 1) (n := 10) hd (by omega) ((shB hB (by omega)).trans rfl) (Or.inl rfl) (by omega) ((shB hB (by omega)).trans (shM_j hm.1 hm.2.2)) h.1 h.2 (by decide) ?_
  rw [gst_setR h6]
  exact kk
theorem Vg_copy (hB : MB b) (ho : othR (miC M) ix = some 1) (hlv : 1 ≤ miV M) (hc : (st.map fun v => v.category).sum ≤ 8) (hd : decode (miB M) pc = .ok (.invokestatic ix, 3)) (kk : V M N1 (pc + 3) ls st (b + 23) (gst b 23 σ (upn c 22 (fun k => if 0 ≤ k ∧ k < 6 then (stV 0 k.toNat).toInt else c 22 k)) ρ) Q) : V M N1 pc ls (zI 6 :: zI 0 :: .ref (b + 22) :: zI 0 :: .retAddr 0 :: st) (b + 23) (gst b 23 σ c ρ) Q := by
  refine V_copyS ho hlv hc hd (by decide) (by omega) ((shB hB (by decide)).trans rfl) ?_
  rw [gst_setA (by decide), gst_1 (by decide)]
  exact kk
end GST
theorem c_X1_init {σ : Sto} {b : Nat} {Q : Option Value → Sto → Prop} {N : Nat} (k : Q none σ) : Con M_X1_init N N σ [.ref b] Q := by
  refine V_entry ok_X1_init (Nat.le_refl _) (Nat.le_of_ble_eq_true rfl) (V_ls [(0, .ref b)] ⟨rfl, trivial⟩ ?_)
  refine V_aload_n (pc := 0) e_X1_init_0 rfl (Or.inl ⟨_, rfl⟩) ?_
  refine V_objInit (pc := 1) rfl (by decide) (Nat.le_of_ble_eq_true rfl) e_X1_init_1 ?_
  refine V_ret (pc := 4) (v := none) ⟨e_X1_init_4, rfl⟩ ?_
  exact k
theorem c_X6_init {σ : Sto} {b : Nat} {c : Nat → Int → Int} {ρ : Nat → Int → Option Nat} {Q : Option Value → Sto → Prop} (hB : MB b) (k : Q none (gst b 5 σ (upn (upn (up2 (up2 (up2 (up2 (upn c 2 (fun _ => 0)) 2 0 (1)) 2 1 (1)) 2 2 (1)) 2 3 (1)) 3 (fun _ => 0)) 4 (fun _ => 0)) (up2 (upn (up2 (upn (up2 (upn ρ 2 (fun _ => none)) 1 0 (some (b + 2))) 3 (fun _ => none)) 1 1 (some (b + 3))) 4 (fun _ => none)) 1 2 (some (b + 4))))) : Con M_X6_init (b + 2) (b + 5) (gst b 2 σ c ρ) [.ref (b + 1)] Q := by
  refine V_entry ok_X6_init (by omega) (Nat.le_of_ble_eq_true rfl) (V_ls [(0, .ref (b + 1))] ⟨rfl, trivial⟩ ?_)
  have hb : b ≤ 127 := by unfold MB at hB; omega
  refine V_aload_n (pc := 0) e_X6_init_0 rfl (Or.inl ⟨_, rfl⟩) ?_
  refine V_objInit (pc := 1) rfl (by decide) (Nat.le_of_ble_eq_true rfl) e_X6_init_1 ?_
  refine V_aload_n (pc := 4) e_X6_init_4 rfl (Or.inl ⟨_, rfl⟩) ?_
  refine V_iconst (pc := 5) e_X6_init_5 ?_
  refine Vg_newi (pc := 6) (n := 2) (L := 4) hB (by decide) rfl (by decide) e_X6_init_6 (by omega) ?_
  refine V_dup (pc := 8) e_X6_init_8 rfl ?_
  refine V_iconst (pc := 9) e_X6_init_9 ?_
  refine V_iconst (pc := 10) e_X6_init_10 ?_
  refine Vg_iast (pc := 11) (n := 3) (i := 2) (L := 4) hB (by decide) (by decide) rfl (by decide) e_X6_init_11 (by decide) ?_
  refine V_dup (pc := 12) e_X6_init_12 rfl ?_
  refine V_iconst (pc := 13) e_X6_init_13 ?_
  refine V_iconst (pc := 14) e_X6_init_14 ?_
  refine Vg_iast (pc := 15) (n := 3) (i := 2) (L := 4) hB (by decide) (by decide) rfl (by decide) e_X6_init_15 (by decide) ?_
  refine V_dup (pc := 16) e_X6_init_16 rfl ?_
  refine V_iconst (pc := 17) e_X6_init_17 ?_
  refine V_iconst (pc := 18) e_X6_init_18 ?_
  refine Vg_iast (pc := 19) (n := 3) (i := 2) (L := 4) hB (by decide) (by decide) rfl (by decide) e_X6_init_19 (by decide) ?_
  refine V_dup (pc := 20) e_X6_init_20 rfl ?_
  refine V_iconst (pc := 21) e_X6_init_21 ?_
  refine V_iconst (pc := 22) e_X6_init_22 ?_
  refine Vg_iast (pc := 23) (n := 3) (i := 2) (L := 4) hB (by decide) (by decide) rfl (by decide) e_X6_init_23 (by decide) ?_
  refine Vg_putF (pc := 24) (n := 3) (i := 1) (q := 0) hB rfl (by decide) (by decide) rfl fx_6_9 e_X6_init_24 rfl rfl rfl rfl rfl ?_
  refine V_aload_n (pc := 27) e_X6_init_27 rfl (Or.inl ⟨_, rfl⟩) ?_
  refine V_iconst (pc := 28) e_X6_init_28 ?_
  refine Vg_newi (pc := 29) (n := 3) (L := 4) hB (by decide) rfl (by decide) e_X6_init_29 (by omega) ?_
  refine Vg_putF (pc := 31) (n := 4) (i := 1) (q := 1) hB rfl (by decide) (by decide) rfl fx_6_15 e_X6_init_31 rfl rfl rfl rfl rfl ?_
  refine V_aload_n (pc := 34) e_X6_init_34 rfl (Or.inl ⟨_, rfl⟩) ?_
  refine V_iconst (pc := 35) e_X6_init_35 ?_
  refine Vg_newi (pc := 36) (n := 4) (L := 4) hB (by decide) rfl (by decide) e_X6_init_36 (by omega) ?_
  refine Vg_putF (pc := 38) (n := 5) (i := 1) (q := 2) hB rfl (by decide) (by decide) rfl fx_6_18 e_X6_init_38 rfl rfl rfl rfl rfl ?_
  refine V_ret (pc := 41) (v := none) ⟨e_X6_init_41, rfl⟩ ?_
  exact k
theorem c_X3_init {σ : Sto} {b : Nat} {c : Nat → Int → Int} {ρ : Nat → Int → Option Nat} {Q : Option Value → Sto → Prop} (hB : MB b) (k : Q none (gst b 22 σ (upn (upn (upn (upn c 18 (fun _ => 0)) 19 (fun _ => 0)) 20 (fun _ => 0)) 21 (fun _ => 0)) (up2 (upn (up2 (upn (up2 (upn (up2 (upn ρ 18 (fun _ => none)) 17 0 (some (b + 18))) 19 (fun _ => none)) 17 1 (some (b + 19))) 20 (fun _ => none)) 17 2 (some (b + 20))) 21 (fun _ => none)) 17 3 (some (b + 21))))) : Con M_X3_init (b + 18) (b + 22) (gst b 18 σ c ρ) [.ref (b + 17)] Q := by
  refine V_entry ok_X3_init (by omega) (Nat.le_of_ble_eq_true rfl) (V_ls [(0, .ref (b + 17))] ⟨rfl, trivial⟩ ?_)
  have hb : b ≤ 127 := by unfold MB at hB; omega
  refine V_aload_n (pc := 0) e_X3_init_0 rfl (Or.inl ⟨_, rfl⟩) ?_
  refine V_objInit (pc := 1) rfl (by decide) (Nat.le_of_ble_eq_true rfl) e_X3_init_1 ?_
  refine V_aload_n (pc := 4) e_X3_init_4 rfl (Or.inl ⟨_, rfl⟩) ?_
  refine V_bipush (pc := 5) (by decide) e_X3_init_5 ?_
  refine Vg_newi (pc := 7) (n := 18) (L := 9) hB (by decide) rfl (by decide) e_X3_init_7 (by omega) ?_
  refine Vg_putF (pc := 9) (n := 19) (i := 17) (q := 0) hB rfl (by decide) (by decide) rfl fx_3_9 e_X3_init_9 rfl rfl rfl rfl rfl ?_
  refine V_aload_n (pc := 12) e_X3_init_12 rfl (Or.inl ⟨_, rfl⟩) ?_
  refine V_bipush (pc := 13) (by decide) e_X3_init_13 ?_
  refine Vg_newi (pc := 15) (n := 19) (L := 16) hB (by decide) rfl (by decide) e_X3_init_15 (by omega) ?_
  refine Vg_putF (pc := 17) (n := 20) (i := 17) (q := 1) hB rfl (by decide) (by decide) rfl fx_3_15 e_X3_init_17 rfl rfl rfl rfl rfl ?_
  refine V_aload_n (pc := 20) e_X3_init_20 rfl (Or.inl ⟨_, rfl⟩) ?_
  refine V_bipush (pc := 21) (by decide) e_X3_init_21 ?_
  refine Vg_newi (pc := 23) (n := 20) (L := 16) hB (by decide) rfl (by decide) e_X3_init_23 (by omega) ?_
  refine Vg_putF (pc := 25) (n := 21) (i := 17) (q := 2) hB rfl (by decide) (by decide) rfl fx_3_18 e_X3_init_25 rfl rfl rfl rfl rfl ?_
  refine V_aload_n (pc := 28) e_X3_init_28 rfl (Or.inl ⟨_, rfl⟩) ?_
  refine V_bipush (pc := 29) (by decide) e_X3_init_29 ?_
  refine Vg_newi (pc := 31) (n := 21) (L := 16) hB (by decide) rfl (by decide) e_X3_init_31 (by omega) ?_
  refine Vg_putF (pc := 33) (n := 22) (i := 17) (q := 3) hB rfl (by decide) (by decide) rfl fx_3_21 e_X3_init_33 rfl rfl rfl rfl rfl ?_
  refine V_ret (pc := 36) (v := none) ⟨e_X3_init_36, rfl⟩ ?_
  exact k
def qc (c : Nat → Int → Int) (i : Nat) : Nat → Int → Int := fun m => if 7 ≤ m ∧ m < 7 + i then fun _ => 0 else c m
def qr (b : Nat) (ρ : Nat → Int → Option Nat) (i : Nat) : Nat → Int → Option Nat := fun m => if m = 6 then (fun j => if 0 ≤ j ∧ j < (i : Int) then some (b + (7 + j.toNat)) else if 0 ≤ j ∧ j < 10 then none else some (b + 7)) else if 7 ≤ m ∧ m < 7 + i then fun _ => none else ρ m
theorem qc_0 {c : Nat → Int → Int} : qc c 0 = c := funext fun m => if_neg (by omega)
theorem qr_0 {b : Nat} {ρ : Nat → Int → Option Nat} (h : ρ 6 = fun j => if 0 ≤ j ∧ j < 10 then none else some (b + 7)) : qr b ρ 0 = ρ := by
  funext m
  unfold qr
  by_cases y : m = 6
  · subst y
    rw [if_pos rfl, h]
    funext j
    rw [if_neg (by omega)]
  · rw [if_neg y, if_neg (by omega)]
theorem qc_s {c : Nat → Int → Int} {i : Nat} : upn (qc c i) (7 + i) (fun _ => 0) = qc c (i + 1) := by
  funext m
  by_cases y : m = 7 + i
  · subst y
    rw [upn_at]
    exact (if_pos (by omega)).symm
  · rw [upn_ne y]
    unfold qc
    by_cases z : 7 ≤ m ∧ m < 7 + i
    · rw [if_pos z, if_pos (by omega)]
    · rw [if_neg z, if_neg (by omega)]
theorem qr_s {b : Nat} {ρ : Nat → Int → Option Nat} {i : Nat} : up2 (upn (qr b ρ i) (7 + i) (fun _ => none)) 6 (i : Int) (some (b + (7 + i))) = qr b ρ (i + 1) := by
  funext m
  by_cases y : m = 6
  · subst y
    rw [up2_at, upn_ne (by omega)]
    unfold qr
    rw [if_pos rfl, if_pos rfl]
    funext j
    by_cases z : j = (i : Int)
    · subst z
      rw [up1_at, if_pos (by omega)]
      rfl
    · rw [up1_ne z]
      by_cases w : 0 ≤ j ∧ j < (i : Int)
      · rw [if_pos w, if_pos (by omega)]
      · rw [if_neg w, if_neg (show ¬ (0 ≤ j ∧ j < ((i + 1 : Nat) : Int)) by omega)]
  · rw [up2_ne y]
    by_cases x : m = 7 + i
    · subst x
      rw [upn_at]
      unfold qr
      rw [if_neg y, if_pos (by omega)]
    · rw [upn_ne x]
      unfold qr
      rw [if_neg y, if_neg y]
      by_cases z : 7 ≤ m ∧ m < 7 + i
      · rw [if_pos z, if_pos (by omega)]
      · rw [if_neg z, if_neg (by omega)]
theorem L_X5_init {σ : Sto} {b : Nat} {c : Nat → Int → Int} {ρ : Nat → Int → Option Nat} {Q : Option Value → Sto → Prop} (hB : MB b) (hr : ρ 5 0 = some (b + 6)) (k : Q none (gst b 17 σ (qc c 10) (qr b ρ 10))) : ∀ i : Nat, i ≤ 10 → V M_X5_init (b + 17) 20 [(0, .ref (b + 5)), (1, zI (i : Int))] [] (b + (7 + i)) (gst b (7 + i) σ (qc c i) (qr b ρ i)) Q := by
  refine loop_nat 10 (fun i hi ih => ?_)
  have hb : b ≤ 127 := by unfold MB at hB; omega
  refine V_iload_n (pc := 20) e_X5_init_20 rfl ?_
  refine V_bipush (pc := 21) (by decide) e_X5_init_21 ?_
  refine V_icmp_ge (pc := 23) e_X5_init_23 (by decide) (by omega) (by decide) (fun h23 => ?_) (fun h23 => ?_)
  · obtain rfl : i = 10 := by omega
    refine V_ret (pc := 45) (v := none) ⟨e_X5_init_45, rfl⟩ ?_
    exact k
  · refine V_aload_n (pc := 26) e_X5_init_26 rfl (Or.inl ⟨_, rfl⟩) ?_
    refine Vg_getR (pc := 27) (n := 7 + i) (i := 5) (q := 0) (j := b + 6) hB rfl (by omega) (by omega) rfl fx_5_11 e_X5_init_27 rfl rfl (by unfold qr; rw [if_neg (by decide), if_neg (by omega)]; exact hr) ?_
    refine V_iload_n (pc := 30) e_X5_init_30 rfl ?_
    refine Vg_new (pc := 31) (n := 7 + i) hB (by omega) (shM_j (by omega) (by omega)) rfl e_X5_init_31 (by omega) ?_
    refine V_dup (pc := 34) e_X5_init_34 rfl ?_
    refine V_cIN (pc := 35) ca_5_21 e_X5_init_35 (by decide) (Nat.le_of_ble_eq_true rfl) (by omega) (c_X1_init ?_)
    refine Vg_aast (pc := 38) (n := 7 + i + 1) (m := 7 + i) hB (by omega) (by omega) (by omega) e_X5_init_38 (by omega) ?_
    refine V_iinc (pc := 39) e_X5_init_39 rfl (by decide) ?_
    refine V_goto (pc := 42) e_X5_init_42 (by decide) ?_
    rw [qc_s, qr_s]
    exact V_lq [(0, .ref (b + 5)), (1, zI ((i + 1 : Nat) : Int))] ⟨⟨_, rfl, rfl⟩, ⟨_, rfl, congrArg (fun e : Int => zI e) (by omega)⟩, trivial⟩ (ih (by omega))
theorem c_X5_init {σ : Sto} {b : Nat} {c : Nat → Int → Int} {ρ : Nat → Int → Option Nat} {Q : Option Value → Sto → Prop} (hB : MB b) (k : Q none (gst b 17 σ (qc (up2 (upn c 6 (fun _ => 0)) 5 3 (-1)) 10) (qr b (up2 (upn ρ 6 (fun j => if 0 ≤ j ∧ j < 10 then none else some (b + 7))) 5 0 (some (b + 6))) 10))) : Con M_X5_init (b + 6) (b + 17) (gst b 6 σ c ρ) [.ref (b + 5)] Q := by
  refine V_entry ok_X5_init (by omega) (Nat.le_of_ble_eq_true rfl) (V_ls [(0, .ref (b + 5))] ⟨rfl, trivial⟩ ?_)
  have hb : b ≤ 127 := by unfold MB at hB; omega
  refine V_aload_n (pc := 0) e_X5_init_0 rfl (Or.inl ⟨_, rfl⟩) ?_
  refine V_objInit (pc := 1) rfl (by decide) (Nat.le_of_ble_eq_true rfl) e_X5_init_1 ?_
  refine V_aload_n (pc := 4) e_X5_init_4 rfl (Or.inl ⟨_, rfl⟩) ?_
  refine V_bipush (pc := 5) (by decide) e_X5_init_5 ?_
  refine Vg_anew (pc := 7) hB rfl e_X5_init_7 (by omega) ?_
  refine Vg_putF (pc := 10) (n := 7) (i := 5) (q := 0) hB rfl (by decide) (by decide) rfl fx_5_11 e_X5_init_10 rfl rfl rfl rfl rfl ?_
  refine V_aload_n (pc := 13) e_X5_init_13 rfl (Or.inl ⟨_, rfl⟩) ?_
  refine V_iconst (pc := 14) e_X5_init_14 ?_
  refine Vg_put (pc := 15) (n := 7) (i := 5) (q := 3) hB rfl (by decide) (by decide) rfl fx_5_17 e_X5_init_15 rfl rfl rfl rfl rfl ?_
  refine V_iconst (pc := 18) e_X5_init_18 ?_
  refine V_istore_n (pc := 19) e_X5_init_19 (by decide) ?_
  refine V_sq (σ' := gst b (7 + 0) σ (qc (up2 (upn c 6 (fun _ => 0)) 5 3 (-1)) 0) (qr b (up2 (upn ρ 6 (fun j => if 0 ≤ j ∧ j < 10 then none else some (b + 7))) 5 0 (some (b + 6))) 0)) (by rw [qc_0, qr_0 rfl]) ?_
  exact V_lq [(0, .ref (b + 5)), (1, zI ((0 : Nat) : Int))] ⟨⟨_, rfl, rfl⟩, ⟨_, rfl, rfl⟩, trivial⟩ (L_X5_init hB rfl k 0 (by decide))
theorem c_X4_init {σ : Sto} {b : Nat} {c : Nat → Int → Int} {ρ : Nat → Int → Option Nat} {Q : Option Value → Sto → Prop} (hB : MB b) (k : Q none (gst b 23 σ (upn (up2 (up2 (upn (upn (upn (upn (upn (upn (qc (up2 (upn (upn (upn (upn (up2 (up2 (up2 (up2 (upn (upn c 1 (fun _ => 0)) 2 (fun _ => 0)) 2 0 (1)) 2 1 (1)) 2 2 (1)) 2 3 (1)) 3 (fun _ => 0)) 4 (fun _ => 0)) 5 (fun _ => 0)) 6 (fun _ => 0)) 5 3 (-1)) 10) 17 (fun _ => 0)) 18 (fun _ => 0)) 19 (fun _ => 0)) 20 (fun _ => 0)) 21 (fun _ => 0)) 22 (fun _ => 0)) 0 4 (100)) 0 6 (0)) 22 (fun k => if 0 ≤ k ∧ k < 6 then (stV 0 k.toNat).toInt else (up2 (up2 (upn (upn (upn (upn (upn (upn (qc (up2 (upn (upn (upn (upn (up2 (up2 (up2 (up2 (upn (upn c 1 (fun _ => 0)) 2 (fun _ => 0)) 2 0 (1)) 2 1 (1)) 2 2 (1)) 2 3 (1)) 3 (fun _ => 0)) 4 (fun _ => 0)) 5 (fun _ => 0)) 6 (fun _ => 0)) 5 3 (-1)) 10) 17 (fun _ => 0)) 18 (fun _ => 0)) 19 (fun _ => 0)) 20 (fun _ => 0)) 21 (fun _ => 0)) 22 (fun _ => 0)) 0 4 (100)) 0 6 (0)) 22 k)) (up2 (upn (up2 (up2 (upn (up2 (upn (up2 (upn (up2 (upn (upn (up2 (qr b (up2 (upn (upn (up2 (up2 (upn (up2 (upn (up2 (upn (upn ρ 1 (fun _ => none)) 2 (fun _ => none)) 1 0 (some (b + 2))) 3 (fun _ => none)) 1 1 (some (b + 3))) 4 (fun _ => none)) 1 2 (some (b + 4))) 0 0 (some (b + 1))) 5 (fun _ => none)) 6 (fun j => if 0 ≤ j ∧ j < 10 then none else some (b + 7))) 5 0 (some (b + 6))) 10) 0 1 (some (b + 5))) 17 (fun _ => none)) 18 (fun _ => none)) 17 0 (some (b + 18))) 19 (fun _ => none)) 17 1 (some (b + 19))) 20 (fun _ => none)) 17 2 (some (b + 20))) 21 (fun _ => none)) 17 3 (some (b + 21))) 0 2 (some (b + 17))) 22 (fun _ => none)) 0 3 (some (b + 22))))) : Con M_X4_init (b + 1) (b + 23) (gst b 1 σ c ρ) [.ref b] Q := by
  refine V_entry ok_X4_init (by omega) (Nat.le_of_ble_eq_true rfl) (V_ls [(0, .ref b)] ⟨rfl, trivial⟩ ?_)
  have hb : b ≤ 127 := by unfold MB at hB; omega
  refine V_aload_n (pc := 0) e_X4_init_0 rfl (Or.inl ⟨_, rfl⟩) ?_
  refine V_objInit (pc := 1) rfl (by decide) (Nat.le_of_ble_eq_true rfl) e_X4_init_1 ?_
  refine V_aload_n (pc := 4) e_X4_init_4 rfl (Or.inl ⟨_, rfl⟩) ?_
  refine Vg_new (pc := 5) (n := 1) hB (by decide) rfl rfl e_X4_init_5 (by omega) ?_
  refine V_dup (pc := 8) e_X4_init_8 rfl ?_
  refine V_cIN (pc := 9) ca_4_11 e_X4_init_9 (by decide) (Nat.le_of_ble_eq_true rfl) (by omega) (c_X6_init hB ?_)
  refine Vg_putF (pc := 12) (n := 5) (i := 0) (q := 0) hB rfl (by decide) (by decide) rfl fx_4_12 e_X4_init_12 rfl rfl rfl rfl rfl ?_
  refine V_aload_n (pc := 15) e_X4_init_15 rfl (Or.inl ⟨_, rfl⟩) ?_
  refine Vg_new (pc := 16) (n := 5) hB (by decide) rfl rfl e_X4_init_16 (by omega) ?_
  refine V_dup (pc := 19) e_X4_init_19 rfl ?_
  refine V_cI (pc := 20) ca_4_20 e_X4_init_20 (by decide) (Nat.le_of_ble_eq_true rfl) (by omega) (c_X5_init hB ?_)
  refine Vg_putF (pc := 23) (n := 17) (i := 0) (q := 1) hB rfl (by decide) (by decide) rfl fx_4_21 e_X4_init_23 rfl rfl rfl rfl rfl ?_
  refine V_aload_n (pc := 26) e_X4_init_26 rfl (Or.inl ⟨_, rfl⟩) ?_
  refine Vg_new (pc := 27) (n := 17) hB (by decide) rfl rfl e_X4_init_27 (by omega) ?_
  refine V_dup (pc := 30) e_X4_init_30 rfl ?_
  refine V_cIN (pc := 31) ca_4_27 e_X4_init_31 (by decide) (Nat.le_of_ble_eq_true rfl) (by omega) (c_X3_init hB ?_)
  refine Vg_putF (pc := 34) (n := 22) (i := 0) (q := 2) hB rfl (by decide) (by decide) rfl fx_4_28 e_X4_init_34 rfl rfl rfl rfl rfl ?_
  refine V_aload_n (pc := 37) e_X4_init_37 rfl (Or.inl ⟨_, rfl⟩) ?_
  refine V_bipush (pc := 38) (by decide) e_X4_init_38 ?_
  refine Vg_newi (pc := 40) (n := 22) (L := 6) hB (by decide) rfl (by decide) e_X4_init_40 (by omega) ?_
  refine Vg_putF (pc := 42) (n := 23) (i := 0) (q := 3) hB rfl (by decide) (by decide) rfl fx_4_32 e_X4_init_42 rfl rfl rfl rfl rfl ?_
  refine V_aload_n (pc := 45) e_X4_init_45 rfl (Or.inl ⟨_, rfl⟩) ?_
  refine V_bipush (pc := 46) (by decide) e_X4_init_46 ?_
  refine Vg_put (pc := 48) (n := 23) (i := 0) (q := 4) hB rfl (by decide) (by decide) rfl fx_4_36 e_X4_init_48 rfl rfl rfl rfl rfl ?_
  refine V_aload_n (pc := 51) e_X4_init_51 rfl (Or.inl ⟨_, rfl⟩) ?_
  refine V_iconst (pc := 52) e_X4_init_52 ?_
  refine Vg_put (pc := 53) (n := 23) (i := 0) (q := 6) hB rfl (by decide) (by decide) rfl fx_4_40 e_X4_init_53 rfl rfl rfl rfl rfl ?_
  refine V_getsN (pc := 56) e_X4_init_56 rfl ?_
  refine V_iconst (pc := 59) e_X4_init_59 ?_
  refine V_aload_n (pc := 60) e_X4_init_60 rfl (Or.inl ⟨_, rfl⟩) ?_
  refine Vg_getR (pc := 61) (n := 23) (i := 0) (q := 3) (j := b + 22) hB rfl (by decide) (by decide) rfl fx_4_32 e_X4_init_61 rfl rfl rfl ?_
  refine V_iconst (pc := 64) e_X4_init_64 ?_
  refine V_bipush (pc := 65) (by decide) e_X4_init_65 ?_
  refine Vg_copy (pc := 67) hB rfl (by decide) (Nat.le_of_ble_eq_true rfl) e_X4_init_67 ?_
  refine V_ret (pc := 70) (v := none) ⟨e_X4_init_70, rfl⟩ ?_
  exact k
