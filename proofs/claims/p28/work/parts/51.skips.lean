/-! texts of the class: a word at the place -/
def jl (j : Nat) : Int := ((liL.getD j 0 : Nat) : Int)
def jc (j : Nat) (i : Int) : Int := (((liC j).getD i.toNat 0 : Nat) : Int)
/-- the literal stands at s -/
def jm (tx : Int → Int) (ln s : Int) (j : Nat) : Prop := ∀ i : Int, 0 ≤ i → i < jl j → s + i < ln ∧ tx (s + i) = jc j i
theorem jl_rg : ∀ j, j < 14 → 2 ≤ jl j ∧ jl j ≤ 8 := by decide +kernel
theorem jc_rg0 : ∀ j, j < 14 → ∀ i : Nat, i < 8 → 0 ≤ (liC j).getD i 0 ∧ (liC j).getD i 0 ≤ 126 := by decide +kernel
theorem jc_rg {j : Nat} (hj : j < 14) {i : Int} (h0 : 0 ≤ i) (h1 : i < jl j) : 0 ≤ jc j i ∧ jc j i ≤ 126 := by
  have h := jl_rg j hj
  have k := jc_rg0 j hj i.toNat (by omega)
  unfold jc
  omega
/-- cells 141 (t) and 143 (d) -/
def xst (σ : Sto) (t d : Int → Int) : Sto := (fun i => if i = 141 then t else if i = 143 then d else σ.1 i, σ.2)
theorem xst_t {σ : Sto} {t d : Int → Int} : (xst σ t d).1 141 = t := by
  show (if 141 = 141 then t else if 141 = 143 then d else σ.1 141) = t
  exact if_pos rfl
theorem xst_d {σ : Sto} {t d : Int → Int} : (xst σ t d).1 143 = d := by
  show (if 143 = 141 then t else if 143 = 143 then d else σ.1 143) = d
  rw [if_neg (by decide), if_pos rfl]
theorem xst_o {σ : Sto} {t d : Int → Int} {i : Nat} (h : ¬ i = 141) (h2 : ¬ i = 143) : (xst σ t d).1 i = σ.1 i := by
  show (if i = 141 then t else if i = 143 then d else σ.1 i) = σ.1 i
  rw [if_neg h, if_neg h2]
theorem xst_set {σ : Sto} {t d : Int → Int} {q x : Int} : setI (xst σ t d) 141 q x = xst σ (up1 t q x) d := by
  refine setI_eq rfl ?_ (fun j hj => ?_)
  · rw [xst_t, xst_t]
  · by_cases h : j = 143
    · subst h
      rw [xst_d, xst_d]
    · rw [xst_o hj h, xst_o hj h]
theorem xst_id {σ : Sto} : xst σ (σ.1 141) (σ.1 143) = σ := by
  refine Prod.ext (funext fun i => ?_) rfl
  by_cases h : i = 141
  · subst h
    exact xst_t
  · by_cases g : i = 143
    · subst g
      exact xst_d
    · exact xst_o h g
theorem xst_dst {σ : Sto} {t d d' : Int → Int} : dst (xst σ t d) d' = xst σ t d' := by
  refine Prod.ext (funext fun i => ?_) rfl
  by_cases h : i = 143
  · subst h
    rw [dst_1, xst_d]
  · rw [dst_o h]
    by_cases g : i = 141
    · subst g
      rw [xst_t, xst_t]
    · rw [xst_o g h, xst_o g h]
section XST
variable {M : MI} {N1 pc : Nat} {ls : List (Nat × Value)} {st : List Value} {Q : Option Value → Sto → Prop} {σ : Sto} {t d : Int → Int} {ix k : Nat} {q : Int}
theorem Vj_get (hf : fldR (miC M) ix = some (2, k)) (hd : decode (miB M) pc = .ok (.getfield ix, 3)) (ht : isRf (tyXs 2 k) = false) (hq : (k : Int) = q) (kk : V M N1 (pc + 3) ls (zI (t q) :: st) 150 (xst σ t d) Q) : V M N1 pc ls (.ref 141 :: st) 150 (xst σ t d) Q := by
  refine V_get hf hd ht hq (by decide) rfl ?_
  rw [xst_t]
  exact kk
theorem Vj_getS (hJ : σ.2.1 141 0 = some 142) (hf : fldR (miC M) ix = some (2, 0)) (hd : decode (miB M) pc = .ok (.getfield ix, 3)) (kk : V M N1 (pc + 3) ls (.ref 142 :: st) 150 (xst σ t d) Q) : V M N1 pc ls (.ref 141 :: st) 150 (xst σ t d) Q :=
  V_getR (q := 0) hf hd rfl rfl (by decide) rfl hJ kk
theorem Vj_put {x : Int} (hf : fldR (miC M) ix = some (2, k)) (hd : decode (miB M) pc = .ok (.putfield ix, 3)) (ht : isRf (tyXs 2 k) = false) (hq : (k : Int) = q) (hn : narrow (tyXs 2 k) (zI x) = zI x) (hfit : fits (tyXs 2 k) (zI x) = true) (hfin : (TXs 2 k).2.2.2 = false) (kk : V M N1 (pc + 3) ls st 150 (xst σ (up1 t q x) d) Q) : V M N1 pc ls (zI x :: .ref 141 :: st) 150 (xst σ t d) Q := by
  refine V_put hf hd ht hq hn hfit hfin (by decide) rfl ?_
  rw [xst_set]
  exact kk
theorem Vj_cald {j : Int} (hd : decode (miB M) pc = .ok (.caload, 1)) (h0 : 0 ≤ j) (h1 : j < 100) (kk : V M N1 (pc + 1) ls (zI (σ.1 142 j) :: st) 150 (xst σ t d) Q) : V M N1 pc ls (zI j :: .ref 142 :: st) 150 (xst σ t d) Q := by
  refine V_cald (n := 100) hd (by decide) rfl h0 (by omega) (by decide) ?_
  rw [xst_o (by decide) (by decide)]
  exact kk
theorem Vj_len {j : Nat} (hj : j < 14) (hM : miC M = 2) (hd : decode (miB M) pc = .ok (.invokevirtual 128, 3)) (hlv : 1 < miV M) (hc : (st.map fun v => v.category).sum ≤ 8) (k : V M N1 (pc + 3) ls (zI (jl j) :: st) 150 σ Q) : V M N1 pc ls (.retAddr (4 + j) :: st) 150 σ Q := V_jlen hj hM hd hlv hc k
theorem Vj_chr {j : Nat} {i : Int} (hj : j < 14) (hi : 0 ≤ i ∧ i < jl j) (hM : miC M = 2) (hd : decode (miB M) pc = .ok (.invokevirtual 132, 3)) (hlv : 3 < miV M) (hc : (st.map fun v => v.category).sum ≤ 8) (k : V M N1 (pc + 3) ls (zI (jc j i) :: st) 150 σ Q) : V M N1 pc ls (zI i :: .retAddr (4 + j) :: st) 150 σ Q := V_jchr hj hi hM hd hlv hc k
end XST
theorem L_X2_skips {σ : Sto} {t d : Int → Int} {L s : Int} {Q : Option Value → Sto → Prop} {j : Nat} (hj : j < 14) (hJ : σ.2.1 141 0 = some 142) (hl : 0 ≤ L ∧ L ≤ 100) (ht : ∀ k : Int, 0 ≤ k → k < L → 32 ≤ σ.1 142 k ∧ σ.1 142 k ≤ 126) (e1 : t 1 = L) (e2 : t 2 = s) (hp : 0 ≤ s ∧ s ≤ L) (hs : s + jl j ≤ L) (k1 : jm (σ.1 142) L s j → ∀ t' : Int → Int, t' 1 = L → t' 2 = s + jl j → (∀ k : Int, ¬ k = 2 → t' k = t k) → Q (some (zI 1)) (xst σ t' d)) (k0 : ¬ jm (σ.1 142) L s j → Q (some (zI 0)) (xst σ t d)) : ∀ n : Int, n ≤ jl j → (0 ≤ n ∧ ∀ i : Int, 0 ≤ i → i < n → σ.1 142 (s + i) = jc j i) → V M_X2_skips 150 38 [(0, .ref 141), (1, .retAddr (4 + j)), (2, zI (jl j)), (3, zI n)] [] 150 (xst σ t d) Q := by
  refine loop_up (jl j) (fun n hn ih => ?_)
  intro hv
  have b := jl_rg j hj
  subst e2
  refine V_iload_n (pc := 38) e_X2_skips_38 rfl ?_
  refine V_iload_n (pc := 39) e_X2_skips_39 rfl ?_
  refine V_icmp_ge (pc := 40) e_X2_skips_40 (by decide) (by omega) (by omega) (fun h40 => ?_) (fun h40 => ?_)
  · refine V_aload_n (pc := 70) e_X2_skips_70 rfl (Or.inl ⟨_, rfl⟩) ?_
    refine V_dup (pc := 71) e_X2_skips_71 rfl ?_
    refine Vj_get (pc := 72) (q := 2) fx_2_39 e_X2_skips_72 rfl rfl ?_
    refine V_iload_n (pc := 75) e_X2_skips_75 rfl ?_
    refine V_iadd (pc := 76) e_X2_skips_76 ?_
    refine Vj_put (pc := 77) (q := 2) fx_2_39 e_X2_skips_77 rfl rfl rfl rfl rfl ?_
    refine V_iconst (pc := 80) e_X2_skips_80 ?_
    refine V_ret (pc := 81) (v := some (zI _)) ⟨e_X2_skips_81, _, rfl, by decide⟩ ?_
    exact k1 (fun i a c => ⟨by omega, hv.2 i a (by omega)⟩) _ ((up1_ne (by decide)).trans e1) up1_at (fun k hk => up1_ne hk)
  · refine V_aload_n (pc := 43) e_X2_skips_43 rfl (Or.inl ⟨_, rfl⟩) ?_
    refine Vj_getS (pc := 44) hJ fx_2_9 e_X2_skips_44 ?_
    refine V_aload_n (pc := 47) e_X2_skips_47 rfl (Or.inl ⟨_, rfl⟩) ?_
    refine Vj_get (pc := 48) (q := 2) fx_2_39 e_X2_skips_48 rfl rfl ?_
    refine V_iload_n (pc := 51) e_X2_skips_51 rfl ?_
    refine V_iadd (pc := 52) e_X2_skips_52 ?_
    have hc := ht (t 2 + n) (by omega) (by omega)
    refine Vj_cald (pc := 53) e_X2_skips_53 (by omega) (by omega) ?_
    refine V_aload_n (pc := 54) e_X2_skips_54 rfl (Or.inr (Or.inr ⟨_, rfl⟩)) ?_
    refine V_iload_n (pc := 55) e_X2_skips_55 rfl ?_
    refine Vj_chr (pc := 56) hj (by omega) rfl e_X2_skips_56 (Nat.le_of_ble_eq_true rfl) (Nat.le_of_ble_eq_true rfl) ?_
    have hcc := jc_rg hj (i := n) (by omega) (by omega)
    refine V_icmp_eq (pc := 59) e_X2_skips_59 (by decide) (by omega) (by omega) (fun h59 => ?_) (fun h59 => ?_)
    · refine V_iinc (pc := 64) e_X2_skips_64 rfl (by decide) ?_
      refine V_goto (pc := 67) e_X2_skips_67 (by decide) ?_
      exact V_lq [(0, .ref 141), (1, .retAddr (4 + j)), (2, zI (jl j)), (3, zI (n + 1))] ⟨⟨_, rfl, rfl⟩, ⟨_, rfl, rfl⟩, ⟨_, rfl, rfl⟩, ⟨_, rfl, rfl⟩, trivial⟩ (ih (n + 1) (by omega) (by omega) ⟨by omega, fun i a c => by
          by_cases h : i = n
          · rw [h]; exact h59
          · exact hv.2 i a (by omega)⟩)
    · refine V_iconst (pc := 62) e_X2_skips_62 ?_
      refine V_ret (pc := 63) (v := some (zI _)) ⟨e_X2_skips_63, _, rfl, by decide⟩ ?_
      exact k0 (fun z => h59 (z n (by omega) (by omega)).2)
theorem c_X2_skips {σ : Sto} {t d : Int → Int} {L s : Int} {Q : Option Value → Sto → Prop} {j : Nat} (hj : j < 14) (hJ : σ.2.1 141 0 = some 142) (hl : 0 ≤ L ∧ L ≤ 100) (ht : ∀ k : Int, 0 ≤ k → k < L → 32 ≤ σ.1 142 k ∧ σ.1 142 k ≤ 126) (e1 : t 1 = L) (e2 : t 2 = s) (hp : 0 ≤ s ∧ s ≤ L) (k1 : jm (σ.1 142) L s j → ∀ t' : Int → Int, t' 1 = L → t' 2 = s + jl j → (∀ k : Int, ¬ k = 2 → t' k = t k) → Q (some (zI 1)) (xst σ t' d)) (k0 : ¬ jm (σ.1 142) L s j → Q (some (zI 0)) (xst σ t d)) : Con M_X2_skips 150 150 (xst σ t d) [.ref 141, .retAddr (4 + j)] Q := by
  refine V_entry ok_X2_skips (Nat.le_refl _) (Nat.le_of_ble_eq_true rfl) (V_ls [(0, .ref 141), (1, .retAddr (4 + j))] ⟨rfl, rfl, trivial⟩ ?_)
  have b := jl_rg j hj
  refine V_aload_n (pc := 0) e_X2_skips_0 rfl (Or.inr (Or.inr ⟨_, rfl⟩)) ?_
  refine Vj_len (pc := 1) hj rfl e_X2_skips_1 (Nat.le_of_ble_eq_true rfl) (Nat.le_of_ble_eq_true rfl) ?_
  refine V_istore_n (pc := 4) e_X2_skips_4 (by decide) ?_
  refine V_aload_n (pc := 5) e_X2_skips_5 rfl (Or.inl ⟨_, rfl⟩) ?_
  refine Vj_get (pc := 6) (q := 2) fx_2_39 e_X2_skips_6 rfl rfl ?_
  refine V_if_lt (pc := 9) e_X2_skips_9 (by decide) (by omega) (fun h9 => ?_) (fun h9 => ?_)
  · refine V_iconst (pc := 34) e_X2_skips_34 ?_
    refine V_ret (pc := 35) (v := some (zI _)) ⟨e_X2_skips_35, _, rfl, by decide⟩ ?_
    exact k0 (fun z => by
      have y := (z (jl j - 1) (by omega) (by omega)).1
      omega)
  · refine V_iload_n (pc := 12) e_X2_skips_12 rfl ?_
    refine V_aload_n (pc := 13) e_X2_skips_13 rfl (Or.inl ⟨_, rfl⟩) ?_
    refine Vj_get (pc := 14) (q := 1) fx_2_15 e_X2_skips_14 rfl rfl ?_
    refine V_aload_n (pc := 17) e_X2_skips_17 rfl (Or.inl ⟨_, rfl⟩) ?_
    refine Vj_get (pc := 18) (q := 2) fx_2_39 e_X2_skips_18 rfl rfl ?_
    refine V_isub (pc := 21) e_X2_skips_21 ?_
    refine V_icmp_gt (pc := 22) e_X2_skips_22 (by decide) (by omega) (by omega) (fun h22 => ?_) (fun h22 => ?_)
    · refine V_iconst (pc := 34) e_X2_skips_34 ?_
      refine V_ret (pc := 35) (v := some (zI _)) ⟨e_X2_skips_35, _, rfl, by decide⟩ ?_
      exact k0 (fun z => by
        have y := (z (jl j - 1) (by omega) (by omega)).1
        omega)
    · refine V_aload_n (pc := 25) e_X2_skips_25 rfl (Or.inl ⟨_, rfl⟩) ?_
      refine Vj_get (pc := 26) (q := 1) fx_2_15 e_X2_skips_26 rfl rfl ?_
      refine V_bipush (pc := 29) (by decide) e_X2_skips_29 ?_
      refine V_icmp_le (pc := 31) e_X2_skips_31 (by decide) (by omega) (by decide) (fun h31 => ?_) (fun h31 => ?_)
      · refine V_iconst (pc := 36) e_X2_skips_36 ?_
        refine V_istore_n (pc := 37) e_X2_skips_37 (by decide) ?_
        exact V_lq [(0, .ref 141), (1, .retAddr (4 + j)), (2, zI (jl j)), (3, zI 0)] ⟨⟨_, rfl, rfl⟩, ⟨_, rfl, rfl⟩, ⟨_, rfl, rfl⟩, ⟨_, rfl, rfl⟩, trivial⟩ (L_X2_skips hj hJ hl ht e1 e2 hp (by omega) k1 k0 0 (by omega) ⟨by omega, fun i a c => absurd a (by omega)⟩)
      · refine V_iconst (pc := 34) e_X2_skips_34 ?_
        refine V_ret (pc := 35) (v := some (zI _)) ⟨e_X2_skips_35, _, rfl, by decide⟩ ?_
        exact k0 (fun z => by
          have y := (z (jl j - 1) (by omega) (by omega)).1
          omega)
