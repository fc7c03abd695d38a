/-! the class: copies, the queue's changes -/
section KSX
variable {M : MI} {N1 pc : Nat} {ls : List (Nat × Value)} {st : List Value} {Q : Option Value → Sto → Prop} {σ : Sto} {b b2 a i x : Nat} {c c2 : Nat → Int → Int} {π π2 : Int → Nat} {ix ci k n : Nat} {q : Int}
theorem Vx_get (hx : x < b ∨ b + 23 ≤ x) (hxl : x < 144) (hxs : sh x = (0, ci)) (hf : fldR (miC M) ix = some (ci, k)) (hd : decode (miB M) pc = .ok (.getfield ix, 3)) (ht : isRf (tyXs ci k) = false) (hq : (k : Int) = q) (kk : V M N1 (pc + 3) ls (zI (σ.1 x q) :: st) 144 (kst b σ c π) Q) : V M N1 pc ls (.ref x :: st) 144 (kst b σ c π) Q := by
  refine V_get hf hd ht hq hxl hxs ?_
  rw [kst_o1 hx]
  exact kk
theorem MB_ne {b b2 i : Nat} (hB : MB b) (hB2 : MB b2) (hne : ¬ b = b2) (hi : i < 23) : b2 + i < b ∨ b + 23 ≤ b2 + i := by
  unfold MB at hB hB2
  omega
theorem Vy_get (hB : MB b) (hB2 : MB b2) (hne : ¬ b = b2) (ha : a = b2 + i) (hi : i < 23) (hs : shM i = (0, ci)) (hf : fldR (miC M) ix = some (ci, k)) (hd : decode (miB M) pc = .ok (.getfield ix, 3)) (ht : isRf (tyXs ci k) = false) (hq : (k : Int) = q) (kk : V M N1 (pc + 3) ls (zI (c2 i q) :: st) 144 (kst b (kst b2 σ c2 π2) c π) Q) : V M N1 pc ls (.ref a :: st) 144 (kst b (kst b2 σ c2 π2) c π) Q := by
  subst ha
  refine V_get hf hd ht hq (kb_lt hB2 hi) ((shB hB2 hi).trans hs) ?_
  rw [kst_o1 (MB_ne hB hB2 hne hi), kst_1 hi]
  exact kk
theorem Vy_getR {j : Nat} (hB : MB b) (hB2 : MB b2) (hne : ¬ b = b2) (ha : a = b2 + i) (hi : i < 23) (hs : shM i = (0, ci)) (hf : fldR (miC M) ix = some (ci, k)) (hd : decode (miB M) pc = .ok (.getfield ix, 3)) (ht : isRf (tyXs ci k) = true) (hq : (k : Int) = q) (h6 : ¬ i = 6) (hr : srf i q = some j) (kk : V M N1 (pc + 3) ls (.ref (b2 + j) :: st) 144 (kst b (kst b2 σ c2 π2) c π) Q) : V M N1 pc ls (.ref a :: st) 144 (kst b (kst b2 σ c2 π2) c π) Q := by
  subst ha
  refine V_getR hf hd ht hq (kb_lt hB2 hi) ((shB hB2 hi).trans hs) ?_ kk
  rw [kst_o2 (MB_ne hB hB2 hne hi), kst_2 hi h6, hr]
  rfl
theorem Vy_ald {j : Int} (hB : MB b) (hB2 : MB b2) (hne : ¬ b = b2) (ha : a = b2 + 6) (hd : decode (miB M) pc = .ok (.aaload, 1)) (h : 0 ≤ j ∧ j < 10) (kk : V M N1 (pc + 1) ls (.ref (b2 + π2 j) :: st) 144 (kst b (kst b2 σ c2 π2) c π) Q) : V M N1 pc ls (zI j :: .ref a :: st) 144 (kst b (kst b2 σ c2 π2) c π) Q := by
  subst ha
  refine V_aald (k := 1) (n := 10) hd (kb_lt hB2 (by decide)) ((shB hB2 (by decide)).trans rfl) (Or.inl rfl) h.1 h.2 (by decide) ?_ kk
  rw [kst_o2 (MB_ne hB hB2 hne (by decide)), kst_6 j]
def upA (c : Nat → Int → Int) (i : Nat) (f : Int → Int) : Nat → Int → Int := fun a => if a = i then f else c a
theorem kst_setA {f : Int → Int} (hi : i < 23) : setA (kst b σ c π) (b + i) f = kst b σ (upA c i f) π := by
  refine Prod.ext (funext fun j => ?_) rfl
  show (if j = b + i then f else (kst b σ c π).1 j) = (kst b σ (upA c i f) π).1 j
  by_cases h : b ≤ j ∧ j < b + 23
  · obtain ⟨m, rfl⟩ := Nat.exists_eq_add_of_le h.1
    rw [kst_1 (by omega), kst_1 (by omega)]
    unfold upA
    by_cases e : m = i
    · rw [if_pos (by omega), if_pos e]
    · rw [if_neg (by omega), if_neg e]
  · rw [if_neg (by omega), kst_o1 (by omega), kst_o1 (by omega)]
theorem Vy_copy {i2 s2 d2 : Nat} (hB : MB b) (hB2 : MB b2) (hne : ¬ b = b2) (hs2 : s2 = b2 + i2) (hd2 : d2 = b + i) (hi : i < 23) (hi2 : i2 < 23) (hsh : shM i = (1, n)) (hsh2 : shM i2 = (1, n)) (hn : n < 2147483648) (h0 : 0 ≤ n) (ho : othR (miC M) ix = some 1) (hlv : 1 ≤ miV M) (hc : (st.map fun v => v.category).sum ≤ 8) (hd : decode (miB M) pc = .ok (.invokestatic ix, 3))
    (kk : V M N1 (pc + 3) ls st 144 (kst b (kst b2 σ c2 π2) (upA c i (cpy (c2 i2) (c i) 0 0 (n : Int))) π) Q) : V M N1 pc ls (zI (n : Int) :: zI 0 :: .ref d2 :: zI 0 :: .ref s2 :: st) 144 (kst b (kst b2 σ c2 π2) c π) Q := by
  subst hs2
  subst hd2
  refine V_copy (n0 := n) (n1 := n) ho hlv hc hd (kb_lt hB2 hi2) ((shB hB2 hi2).trans hsh2) (kb_lt hB hi) ((shB hB hi).trans hsh) (by omega) (by omega) (by omega) (by omega) (by omega) hn hn ?_
  rw [kst_setA hi, kst_1 hi, kst_o1 (MB_ne hB hB2 hne hi2), kst_1 hi2]
  exact kk
theorem cpy_at {f g : Int → Int} {n q : Int} (h0 : 0 ≤ q) (h1 : q < n) : cpy f g 0 0 n q = f q := by
  unfold cpy
  rw [if_pos (by omega), show (0 : Int) + (q - 0) = q by omega]
theorem upA_e {f : Int → Int} : upA c i f i = f := if_pos rfl
theorem upA_o {f : Int → Int} (h : ¬ a = i) : upA c i f a = c a := if_neg h
end KSX
theorem c_X1_copyFrom {σ : Sto} {b i x : Nat} {c : Nat → Int → Int} {π : Int → Nat} {Q : Option Value → Sto → Prop} (hB : MB b) (hi : 7 ≤ i ∧ i ≤ 16) (hx : x < b ∨ b + 23 ≤ x) (hxl : x < 144) (hxs : sh x = (0, 1)) (z6 : σ.1 x 6 = 0 ∨ σ.1 x 6 = 1) (z7 : σ.1 x 7 = 0 ∨ σ.1 x 7 = 1) (z12 : σ.1 x 12 = 0 ∨ σ.1 x 12 = 1) (k : ∀ c' : Nat → Int → Int, (∀ m : Int, 0 ≤ m → m < 15 → c' i m = σ.1 x m) → (∀ a : Nat, ¬ a = i → c' a = c a) → Q none (kst b σ c' π)) : Con M_X1_copyFrom 144 144 (kst b σ c π) [.ref (b + i), .ref x] Q := by
  refine V_entry ok_X1_copyFrom (Nat.le_refl _) (Nat.le_of_ble_eq_true rfl) (V_ls [(0, .ref (b + i)), (1, .ref x)] ⟨rfl, rfl, trivial⟩ ?_)
  refine V_aload_n (pc := 0) e_X1_copyFrom_0 rfl (Or.inl ⟨_, rfl⟩) ?_
  refine V_aload_n (pc := 1) e_X1_copyFrom_1 rfl (Or.inl ⟨_, rfl⟩) ?_
  refine Vx_get (pc := 2) (q := 0) hx hxl hxs fx_1_55 e_X1_copyFrom_2 rfl rfl ?_
  refine Vk_put (pc := 5) (q := 0) hB rfl (by omega) (shM_j (by omega) (by omega)) fx_1_55 e_X1_copyFrom_5 rfl rfl rfl rfl rfl ?_
  refine V_aload_n (pc := 8) e_X1_copyFrom_8 rfl (Or.inl ⟨_, rfl⟩) ?_
  refine V_aload_n (pc := 9) e_X1_copyFrom_9 rfl (Or.inl ⟨_, rfl⟩) ?_
  refine Vx_get (pc := 10) (q := 1) hx hxl hxs fx_1_9 e_X1_copyFrom_10 rfl rfl ?_
  refine Vk_put (pc := 13) (q := 1) hB rfl (by omega) (shM_j (by omega) (by omega)) fx_1_9 e_X1_copyFrom_13 rfl rfl rfl rfl rfl ?_
  refine V_aload_n (pc := 16) e_X1_copyFrom_16 rfl (Or.inl ⟨_, rfl⟩) ?_
  refine V_aload_n (pc := 17) e_X1_copyFrom_17 rfl (Or.inl ⟨_, rfl⟩) ?_
  refine Vx_get (pc := 18) (q := 2) hx hxl hxs fx_1_15 e_X1_copyFrom_18 rfl rfl ?_
  refine Vk_put (pc := 21) (q := 2) hB rfl (by omega) (shM_j (by omega) (by omega)) fx_1_15 e_X1_copyFrom_21 rfl rfl rfl rfl rfl ?_
  refine V_aload_n (pc := 24) e_X1_copyFrom_24 rfl (Or.inl ⟨_, rfl⟩) ?_
  refine V_aload_n (pc := 25) e_X1_copyFrom_25 rfl (Or.inl ⟨_, rfl⟩) ?_
  refine Vx_get (pc := 26) (q := 3) hx hxl hxs fx_1_18 e_X1_copyFrom_26 rfl rfl ?_
  refine Vk_put (pc := 29) (q := 3) hB rfl (by omega) (shM_j (by omega) (by omega)) fx_1_18 e_X1_copyFrom_29 rfl rfl rfl rfl rfl ?_
  refine V_aload_n (pc := 32) e_X1_copyFrom_32 rfl (Or.inl ⟨_, rfl⟩) ?_
  refine V_aload_n (pc := 33) e_X1_copyFrom_33 rfl (Or.inl ⟨_, rfl⟩) ?_
  refine Vx_get (pc := 34) (q := 4) hx hxl hxs fx_1_21 e_X1_copyFrom_34 rfl rfl ?_
  refine Vk_put (pc := 37) (q := 4) hB rfl (by omega) (shM_j (by omega) (by omega)) fx_1_21 e_X1_copyFrom_37 rfl rfl rfl rfl rfl ?_
  refine V_aload_n (pc := 40) e_X1_copyFrom_40 rfl (Or.inl ⟨_, rfl⟩) ?_
  refine V_aload_n (pc := 41) e_X1_copyFrom_41 rfl (Or.inl ⟨_, rfl⟩) ?_
  refine Vx_get (pc := 42) (q := 5) hx hxl hxs fx_1_24 e_X1_copyFrom_42 rfl rfl ?_
  refine Vk_put (pc := 45) (q := 5) hB rfl (by omega) (shM_j (by omega) (by omega)) fx_1_24 e_X1_copyFrom_45 rfl rfl rfl rfl rfl ?_
  refine V_aload_n (pc := 48) e_X1_copyFrom_48 rfl (Or.inl ⟨_, rfl⟩) ?_
  refine V_aload_n (pc := 49) e_X1_copyFrom_49 rfl (Or.inl ⟨_, rfl⟩) ?_
  refine Vx_get (pc := 50) (q := 6) hx hxl hxs fx_1_27 e_X1_copyFrom_50 rfl rfl ?_
  refine Vk_put (pc := 53) (q := 6) hB rfl (by omega) (shM_j (by omega) (by omega)) fx_1_27 e_X1_copyFrom_53 rfl rfl (zi_nZ (by omega)).1 (zi_nZ (by omega)).2 rfl ?_
  refine V_aload_n (pc := 56) e_X1_copyFrom_56 rfl (Or.inl ⟨_, rfl⟩) ?_
  refine V_aload_n (pc := 57) e_X1_copyFrom_57 rfl (Or.inl ⟨_, rfl⟩) ?_
  refine Vx_get (pc := 58) (q := 7) hx hxl hxs fx_1_31 e_X1_copyFrom_58 rfl rfl ?_
  refine Vk_put (pc := 61) (q := 7) hB rfl (by omega) (shM_j (by omega) (by omega)) fx_1_31 e_X1_copyFrom_61 rfl rfl (zi_nZ (by omega)).1 (zi_nZ (by omega)).2 rfl ?_
  refine V_aload_n (pc := 64) e_X1_copyFrom_64 rfl (Or.inl ⟨_, rfl⟩) ?_
  refine V_aload_n (pc := 65) e_X1_copyFrom_65 rfl (Or.inl ⟨_, rfl⟩) ?_
  refine Vx_get (pc := 66) (q := 8) hx hxl hxs fx_1_34 e_X1_copyFrom_66 rfl rfl ?_
  refine Vk_put (pc := 69) (q := 8) hB rfl (by omega) (shM_j (by omega) (by omega)) fx_1_34 e_X1_copyFrom_69 rfl rfl rfl rfl rfl ?_
  refine V_aload_n (pc := 72) e_X1_copyFrom_72 rfl (Or.inl ⟨_, rfl⟩) ?_
  refine V_aload_n (pc := 73) e_X1_copyFrom_73 rfl (Or.inl ⟨_, rfl⟩) ?_
  refine Vx_get (pc := 74) (q := 9) hx hxl hxs fx_1_37 e_X1_copyFrom_74 rfl rfl ?_
  refine Vk_put (pc := 77) (q := 9) hB rfl (by omega) (shM_j (by omega) (by omega)) fx_1_37 e_X1_copyFrom_77 rfl rfl rfl rfl rfl ?_
  refine V_aload_n (pc := 80) e_X1_copyFrom_80 rfl (Or.inl ⟨_, rfl⟩) ?_
  refine V_aload_n (pc := 81) e_X1_copyFrom_81 rfl (Or.inl ⟨_, rfl⟩) ?_
  refine Vx_get (pc := 82) (q := 10) hx hxl hxs fx_1_40 e_X1_copyFrom_82 rfl rfl ?_
  refine Vk_put (pc := 85) (q := 10) hB rfl (by omega) (shM_j (by omega) (by omega)) fx_1_40 e_X1_copyFrom_85 rfl rfl rfl rfl rfl ?_
  refine V_aload_n (pc := 88) e_X1_copyFrom_88 rfl (Or.inl ⟨_, rfl⟩) ?_
  refine V_aload_n (pc := 89) e_X1_copyFrom_89 rfl (Or.inl ⟨_, rfl⟩) ?_
  refine Vx_get (pc := 90) (q := 11) hx hxl hxs fx_1_43 e_X1_copyFrom_90 rfl rfl ?_
  refine Vk_put (pc := 93) (q := 11) hB rfl (by omega) (shM_j (by omega) (by omega)) fx_1_43 e_X1_copyFrom_93 rfl rfl rfl rfl rfl ?_
  refine V_aload_n (pc := 96) e_X1_copyFrom_96 rfl (Or.inl ⟨_, rfl⟩) ?_
  refine V_aload_n (pc := 97) e_X1_copyFrom_97 rfl (Or.inl ⟨_, rfl⟩) ?_
  refine Vx_get (pc := 98) (q := 12) hx hxl hxs fx_1_46 e_X1_copyFrom_98 rfl rfl ?_
  refine Vk_put (pc := 101) (q := 12) hB rfl (by omega) (shM_j (by omega) (by omega)) fx_1_46 e_X1_copyFrom_101 rfl rfl (zi_nZ (by omega)).1 (zi_nZ (by omega)).2 rfl ?_
  refine V_aload_n (pc := 104) e_X1_copyFrom_104 rfl (Or.inl ⟨_, rfl⟩) ?_
  refine V_aload_n (pc := 105) e_X1_copyFrom_105 rfl (Or.inl ⟨_, rfl⟩) ?_
  refine Vx_get (pc := 106) (q := 13) hx hxl hxs fx_1_49 e_X1_copyFrom_106 rfl rfl ?_
  refine Vk_put (pc := 109) (q := 13) hB rfl (by omega) (shM_j (by omega) (by omega)) fx_1_49 e_X1_copyFrom_109 rfl rfl rfl rfl rfl ?_
  refine V_aload_n (pc := 112) e_X1_copyFrom_112 rfl (Or.inl ⟨_, rfl⟩) ?_
  refine V_aload_n (pc := 113) e_X1_copyFrom_113 rfl (Or.inl ⟨_, rfl⟩) ?_
  refine Vx_get (pc := 114) (q := 14) hx hxl hxs fx_1_52 e_X1_copyFrom_114 rfl rfl ?_
  refine Vk_put (pc := 117) (q := 14) hB rfl (by omega) (shM_j (by omega) (by omega)) fx_1_52 e_X1_copyFrom_117 rfl rfl rfl rfl rfl ?_
  refine V_ret (pc := 120) (v := none) ⟨e_X1_copyFrom_120, rfl⟩ ?_
  refine k _ (fun m h0 h1 => ?_) (fun a ha => ?_)
  · rcases (show m = 0 ∨ m = 1 ∨ m = 2 ∨ m = 3 ∨ m = 4 ∨ m = 5 ∨ m = 6 ∨ m = 7 ∨ m = 8 ∨ m = 9 ∨ m = 10 ∨ m = 11 ∨ m = 12 ∨ m = 13 ∨ m = 14 by omega) with rfl | rfl | rfl | rfl | rfl | rfl | rfl | rfl | rfl | rfl | rfl | rfl | rfl | rfl | rfl <;> simp [up2]
  · funext q
    simp [up2, ha]
theorem c_X5_append {σ : Sto} {b : Nat} {c : Nat → Int → Int} {π : Int → Nat} {s : Int} {Q : Option Value → Sto → Prop} (hB : MB b) (hs : c 5 1 = s) (h0 : 0 ≤ s ∧ s < 10) (hp : 7 ≤ π s ∧ π s ≤ 16) (z6 : σ.1 143 6 = 0 ∨ σ.1 143 6 = 1) (z7 : σ.1 143 7 = 0 ∨ σ.1 143 7 = 1) (z12 : σ.1 143 12 = 0 ∨ σ.1 143 12 = 1) (k : ∀ c' : Nat → Int → Int, c' (π s) 0 = c 5 2 → (∀ m : Int, 1 ≤ m → m < 15 → c' (π s) m = σ.1 143 m) → c' 5 = up1 (up1 (c 5) 1 (s + 1)) 2 (c 5 2 + 1) → (∀ a : Nat, ¬ a = π s → ¬ a = 5 → c' a = c a) → Q (some (zI (c 5 2))) (kst b σ c' π)) : Con M_X5_append 144 144 (kst b σ c π) [.ref (b + 5), .ref 143] Q := by
  refine V_entry ok_X5_append (Nat.le_refl _) (Nat.le_of_ble_eq_true rfl) (V_ls [(0, .ref (b + 5)), (1, .ref 143)] ⟨rfl, rfl, trivial⟩ ?_)
  subst hs
  have hx : 143 < b ∨ b + 23 ≤ 143 := by unfold MB at hB; omega
  refine V_aload_n (pc := 0) e_X5_append_0 rfl (Or.inl ⟨_, rfl⟩) ?_
  refine Vk_get (pc := 1) (q := 1) hB rfl (by decide) rfl fx_5_22 e_X5_append_1 rfl rfl ?_
  refine V_bipush (pc := 4) (by decide) e_X5_append_4 ?_
  refine V_icmp_lt (pc := 6) e_X5_append_6 (by decide) (by omega) (by decide) (fun h6 => ?_) (fun h6 => ?_)
  · refine V_aload_n (pc := 12) e_X5_append_12 rfl (Or.inl ⟨_, rfl⟩) ?_
    refine Vk_getR (pc := 13) (q := 0) hB rfl (by decide) rfl fx_5_11 e_X5_append_13 rfl rfl (by decide) rfl ?_
    refine V_aload_n (pc := 16) e_X5_append_16 rfl (Or.inl ⟨_, rfl⟩) ?_
    refine Vk_get (pc := 17) (q := 1) hB rfl (by decide) rfl fx_5_22 e_X5_append_17 rfl rfl ?_
    refine Vk_ald (pc := 20) hB rfl e_X5_append_20 (by omega) ?_
    refine V_astore_n (pc := 21) e_X5_append_21 (Or.inl ⟨_, rfl⟩) (by decide) ?_
    refine V_aload_n (pc := 22) e_X5_append_22 rfl (Or.inl ⟨_, rfl⟩) ?_
    refine V_aload_n (pc := 23) e_X5_append_23 rfl (Or.inl ⟨_, rfl⟩) ?_
    refine V_cV1 (pc := 24) ca_5_28 e_X5_append_24 (by decide) (Nat.le_of_ble_eq_true rfl) (kb_lt hB (by omega)) ((shB hB (by omega)).trans (shM_j (by omega) (by omega))) (by decide) (c_X1_copyFrom hB hp hx (by decide) rfl z6 z7 z12 (fun c1 e1 e2 => ?_))
    have e5 : c1 5 = c 5 := e2 5 (by omega)
    refine V_aload_n (pc := 27) e_X5_append_27 rfl (Or.inl ⟨_, rfl⟩) ?_
    refine V_aload_n (pc := 28) e_X5_append_28 rfl (Or.inl ⟨_, rfl⟩) ?_
    refine Vk_get (pc := 29) (q := 2) hB rfl (by decide) rfl fx_5_25 e_X5_append_29 rfl rfl ?_
    refine Vk_put (pc := 32) (q := 0) hB rfl (by omega) (shM_j (by omega) (by omega)) fx_5_32 e_X5_append_32 rfl rfl rfl rfl rfl ?_
    refine V_aload_n (pc := 35) e_X5_append_35 rfl (Or.inl ⟨_, rfl⟩) ?_
    refine V_dup (pc := 36) e_X5_append_36 rfl ?_
    refine Vk_get (pc := 37) (q := 1) hB rfl (by decide) rfl fx_5_22 e_X5_append_37 rfl rfl ?_
    refine V_iconst (pc := 40) e_X5_append_40 ?_
    refine V_iadd (pc := 41) e_X5_append_41 ?_
    refine Vk_put (pc := 42) (q := 1) hB rfl (by decide) rfl fx_5_22 e_X5_append_42 rfl rfl rfl rfl rfl ?_
    refine V_aload_n (pc := 45) e_X5_append_45 rfl (Or.inl ⟨_, rfl⟩) ?_
    refine V_dup (pc := 46) e_X5_append_46 rfl ?_
    refine Vk_get (pc := 47) (q := 2) hB rfl (by decide) rfl fx_5_25 e_X5_append_47 rfl rfl ?_
    refine V_iconst (pc := 50) e_X5_append_50 ?_
    refine V_iadd (pc := 51) e_X5_append_51 ?_
    refine Vk_put (pc := 52) (q := 2) hB rfl (by decide) rfl fx_5_25 e_X5_append_52 rfl rfl rfl rfl rfl ?_
    refine V_aload_n (pc := 55) e_X5_append_55 rfl (Or.inl ⟨_, rfl⟩) ?_
    refine Vk_get (pc := 56) (q := 0) hB rfl (by omega) (shM_j (by omega) (by omega)) fx_5_32 e_X5_append_56 rfl rfl ?_
    refine V_ret (pc := 59) (v := some (zI _)) ⟨e_X5_append_59, _, rfl, rfl⟩ ?_
    refine Qv (k _ ?_ ?_ ?_ ?_) ?_ rfl
    · simp (disch := omega) only [up2_o, up2_e]; rw [e5]
    · intro m h1 h2
      simp (disch := omega) only [up2_o]
      exact e1 m (by omega) h2
    · funext q
      simp only [up2, up1, e5]
      by_cases y : q = 1
      · subst y; simp [show ¬ 5 = π (c 5 1) by omega]
      · by_cases y2 : q = 2
        · subst y2; simp [show ¬ 5 = π (c 5 1) by omega]
        · simp [y, y2, show ¬ 5 = π (c 5 1) by omega, e5]
    · intro a h1 h2
      funext q
      simp (disch := omega) only [up2_o]
      rw [e2 a h1]
    · simp (disch := omega) only [up2_o, up2_e]; rw [e5]
  · refine V_bipush (pc := 9) (by decide) e_X5_append_9 ?_
    refine V_ret (pc := 11) (v := some (zI _)) ⟨e_X5_append_11, _, rfl, rfl⟩ ?_
    exfalso; omega
/-- the jobs' places while one goes: those behind it one on, of the first n -/
def rmP (π : Int → Nat) (p n : Int) : Int → Nat := fun j => if p ≤ j ∧ j + 1 < n then π (j + 1) else π j
theorem rmP_lo {π : Int → Nat} {p n : Int} (h : n ≤ p + 1) : rmP π p n = π := by
  funext j
  exact if_neg (by omega)
theorem rmP_at {π : Int → Nat} {p n : Int} : rmP π p n n = π n := if_neg (by omega)
theorem rmP_s1 {π : Int → Nat} {p n : Int} (h : n < p) : up1 (rmP π p n) n (rmP π p n n) = rmP π p (n + 1) := by
  rw [rmP_lo (by omega), rmP_lo (by omega)]
  funext j
  unfold up1
  split
  · next e => rw [e]
  · rfl
theorem rmP_s2 {π : Int → Nat} {p n : Int} (h : p < n) : up1 (rmP π p n) (n - 1) (rmP π p n n) = rmP π p (n + 1) := by
  rw [rmP_at]
  funext j
  unfold up1 rmP
  by_cases e : j = n - 1
  · rw [if_pos e, if_pos (by omega), e, show n - 1 + 1 = n by omega]
  · rw [if_neg e]
    by_cases y : p ≤ j ∧ j + 1 < n
    · rw [if_pos y, if_pos (by omega)]
    · rw [if_neg y, if_neg (by omega)]
/-- the places behind a removal -/
def rmQ (π : Int → Nat) (p s : Int) : Int → Nat := up1 (rmP π p s) (s - 1) (π p)
theorem L_X5_remove {σ : Sto} {b : Nat} {c : Nat → Int → Int} {π : Int → Nat} {s p : Int} {Q : Option Value → Sto → Prop} (hB : MB b) (hs : c 5 1 = s) (h0 : 0 ≤ s ∧ s ≤ 10) (hP : PI π) (hp : 0 ≤ p ∧ p < s) (k : V M_X5_remove 144 49 [(0, .ref (b + 5)), (1, .ref (b + π p)), (2, zI (s - 1))] [] 144 (kst b σ c (rmP π p s)) Q) : ∀ n : Nat, n ≤ s.toNat → V M_X5_remove 144 4 [(0, .ref (b + 5)), (1, .ref (b + π p)), (2, zI (if (n : Int) ≤ p then (n : Int) else (n : Int) - 1)), (3, zI (n : Int))] [] 144 (kst b σ c (rmP π p (n : Int))) Q := by
  refine loop_nat (s.toNat) (fun n hn ih => ?_)
  have kb : 0 ≤ (if (n : Int) ≤ p then (n : Int) else (n : Int) - 1) ∧ (if (n : Int) ≤ p then (n : Int) else (n : Int) - 1) ≤ 10 := by split <;> omega
  refine V_iload_n (pc := 4) e_X5_remove_4 rfl ?_
  refine V_aload_n (pc := 5) e_X5_remove_5 rfl (Or.inl ⟨_, rfl⟩) ?_
  refine Vk_get (pc := 6) (q := 1) hB rfl (by decide) rfl fx_5_22 e_X5_remove_6 rfl rfl ?_
  refine V_icmp_ge (pc := 9) e_X5_remove_9 (by decide) (by omega) (by omega) (fun h9 => ?_) (fun h9 => ?_)
  · have e : (n : Int) = s := by omega
    rw [e]
    exact V_lq [(0, .ref (b + 5)), (1, .ref (b + π p)), (2, zI (s - 1))] ⟨⟨_, rfl, rfl⟩, ⟨_, rfl, rfl⟩, ⟨_, rfl, congrArg (fun e : Int => zI e) (by split <;> omega)⟩, trivial⟩ k
  · refine V_iload_n (pc := 12) e_X5_remove_12 rfl ?_
    refine V_bipush (pc := 13) (by decide) e_X5_remove_13 ?_
    refine V_icmp_ge (pc := 15) e_X5_remove_15 (by decide) (by omega) (by decide) (fun h15 => ?_) (fun h15 => ?_)
    · have e : (n : Int) = s := by omega
      rw [e]
      exact V_lq [(0, .ref (b + 5)), (1, .ref (b + π p)), (2, zI (s - 1))] ⟨⟨_, rfl, rfl⟩, ⟨_, rfl, rfl⟩, ⟨_, rfl, congrArg (fun e : Int => zI e) (by split <;> omega)⟩, trivial⟩ k
    · have pn := hP.1 (n : Int) (by omega) (by omega)
      have pp := hP.1 p (by omega) (by omega)
      have en : rmP π p (n : Int) (n : Int) = π (n : Int) := rmP_at
      refine V_aload_n (pc := 18) e_X5_remove_18 rfl (Or.inl ⟨_, rfl⟩) ?_
      refine Vk_getR (pc := 19) (q := 0) hB rfl (by decide) rfl fx_5_11 e_X5_remove_19 rfl rfl (by decide) rfl ?_
      refine V_iload_n (pc := 22) e_X5_remove_22 rfl ?_
      refine Vk_ald (pc := 23) hB rfl e_X5_remove_23 (by omega) ?_
      refine V_aload_n (pc := 24) e_X5_remove_24 rfl (Or.inl ⟨_, rfl⟩) ?_
      refine V_acmp_eq (pc := 25) e_X5_remove_25 (by decide) trivial trivial (fun h25 => ?_) (fun h25 => ?_)
      · refine V_iinc (pc := 43) e_X5_remove_43 rfl (by decide) ?_
        refine V_goto (pc := 46) e_X5_remove_46 (by decide) ?_
        have hq : (n : Int) = p := by
          have z := h25
          rw [en] at z
          injection z with z
          have z2 : b + π (n : Int) = b + π p := z
          exact hP.2 _ _ (by omega) (by omega) (by omega) (by omega) (by omega)
        refine V_sq (σ' := kst b σ c (rmP π p ((n + 1 : Nat) : Int))) (by rw [rmP_lo (by omega), rmP_lo (by omega)]) ?_
        exact V_lq [(0, .ref (b + 5)), (1, .ref (b + π p)), (2, zI (if ((n + 1 : Nat) : Int) ≤ p then ((n + 1 : Nat) : Int) else ((n + 1 : Nat) : Int) - 1)), (3, zI ((n + 1 : Nat) : Int))] ⟨⟨_, rfl, rfl⟩, ⟨_, rfl, rfl⟩, ⟨_, rfl, congrArg (fun e : Int => zI e) (by rw [if_pos (by omega), if_neg (by omega)]; omega)⟩, ⟨_, rfl, rfl⟩, trivial⟩ (ih (by omega))
      · have hne : ¬ (n : Int) = p := fun z => h25 (by rw [en, z])
        refine V_aload_n (pc := 28) e_X5_remove_28 rfl (Or.inl ⟨_, rfl⟩) ?_
        refine Vk_getR (pc := 29) (q := 0) hB rfl (by decide) rfl fx_5_11 e_X5_remove_29 rfl rfl (by decide) rfl ?_
        refine V_iload_n (pc := 32) e_X5_remove_32 rfl ?_
        refine V_aload_n (pc := 33) e_X5_remove_33 rfl (Or.inl ⟨_, rfl⟩) ?_
        refine Vk_getR (pc := 34) (q := 0) hB rfl (by decide) rfl fx_5_11 e_X5_remove_34 rfl rfl (by decide) rfl ?_
        refine V_iload_n (pc := 37) e_X5_remove_37 rfl ?_
        refine Vk_ald (pc := 38) hB rfl e_X5_remove_38 (by omega) ?_
        refine Vk_ast (pc := 39) hB rfl rfl (by omega) e_X5_remove_39 (by omega) ?_
        refine V_iinc (pc := 40) e_X5_remove_40 rfl (by decide) ?_
        refine V_iinc (pc := 43) e_X5_remove_43 rfl (by decide) ?_
        refine V_goto (pc := 46) e_X5_remove_46 (by decide) ?_
        have kv : (if (n : Int) ≤ p then (n : Int) else (n : Int) - 1) = (n : Int) ∧ (n : Int) < p ∨ (if (n : Int) ≤ p then (n : Int) else (n : Int) - 1) = (n : Int) - 1 ∧ p < (n : Int) := by split <;> omega
        rcases kv with ⟨kv, y⟩ | ⟨kv, y⟩
        · rw [kv]
          rw [rmP_s1 y]
          exact V_lq [(0, .ref (b + 5)), (1, .ref (b + π p)), (2, zI (if ((n + 1 : Nat) : Int) ≤ p then ((n + 1 : Nat) : Int) else ((n + 1 : Nat) : Int) - 1)), (3, zI ((n + 1 : Nat) : Int))] ⟨⟨_, rfl, rfl⟩, ⟨_, rfl, rfl⟩, ⟨_, rfl, congrArg (fun e : Int => zI e) (by rw [if_pos (by omega)]; omega)⟩, ⟨_, rfl, rfl⟩, trivial⟩ (ih (by omega))
        · rw [kv]
          rw [rmP_s2 y]
          exact V_lq [(0, .ref (b + 5)), (1, .ref (b + π p)), (2, zI (if ((n + 1 : Nat) : Int) ≤ p then ((n + 1 : Nat) : Int) else ((n + 1 : Nat) : Int) - 1)), (3, zI ((n + 1 : Nat) : Int))] ⟨⟨_, rfl, rfl⟩, ⟨_, rfl, rfl⟩, ⟨_, rfl, congrArg (fun e : Int => zI e) (by rw [if_neg (by omega)]; omega)⟩, ⟨_, rfl, rfl⟩, trivial⟩ (ih (by omega))
theorem T_X5_remove {σ : Sto} {b : Nat} {c : Nat → Int → Int} {π : Int → Nat} {s p : Int} {Q : Option Value → Sto → Prop} (hB : MB b) (hs : c 5 1 = s) (h0 : 0 ≤ s ∧ s ≤ 10) (hP : PI π) (hp : 0 ≤ p ∧ p < s) (h3 : -3000000 ≤ c 5 3 ∧ c 5 3 ≤ 3000000) (hn : -3000000 ≤ c (π p) 0 ∧ c (π p) 0 ≤ 3000000) (k : Q none (kst b σ (if c 5 3 = c (π p) 0 then up2 (up2 c 5 1 (s - 1)) 5 3 (-1) else up2 c 5 1 (s - 1)) (rmQ π p s))) : V M_X5_remove 144 49 [(0, .ref (b + 5)), (1, .ref (b + π p)), (2, zI (s - 1))] [] 144 (kst b σ c (rmP π p s)) Q := by
  have pp := hP.1 p (by omega) (by omega)
  have e3 : up2 c 5 1 (s - 1) 5 3 = c 5 3 := up2_o (by omega)
  have e0 : up2 c 5 1 (s - 1) (π p) 0 = c (π p) 0 := up2_o (by omega)
  refine V_iload_n (pc := 49) e_X5_remove_49 rfl ?_
  refine V_aload_n (pc := 50) e_X5_remove_50 rfl (Or.inl ⟨_, rfl⟩) ?_
  refine Vk_get (pc := 51) (q := 1) hB rfl (by decide) rfl fx_5_22 e_X5_remove_51 rfl rfl ?_
  refine V_icmp_ge (pc := 54) e_X5_remove_54 (by decide) (by omega) (by omega) (fun h54 => ?_) (fun h54 => ?_)
  · refine V_aload_n (pc := 69) e_X5_remove_69 rfl (Or.inl ⟨_, rfl⟩) ?_
    refine Vk_get (pc := 70) (q := 3) hB rfl (by decide) rfl fx_5_17 e_X5_remove_70 rfl rfl ?_
    refine V_aload_n (pc := 73) e_X5_remove_73 rfl (Or.inl ⟨_, rfl⟩) ?_
    refine Vk_get (pc := 74) (q := 0) hB rfl (by omega) (shM_j (by omega) (by omega)) fx_5_32 e_X5_remove_74 rfl rfl ?_
    refine V_icmp_ne (pc := 77) e_X5_remove_77 (by decide) (by omega) (by omega) (fun h77 => ?_) (fun h77 => ?_)
    · refine V_ret (pc := 85) (v := none) ⟨e_X5_remove_85, rfl⟩ ?_
      first
        | (exfalso; omega)
        | (rw [if_pos (by omega)] at k; exact k)
        | (rw [if_neg (by omega)] at k; exact k)
    · refine V_aload_n (pc := 80) e_X5_remove_80 rfl (Or.inl ⟨_, rfl⟩) ?_
      refine V_iconst (pc := 81) e_X5_remove_81 ?_
      refine Vk_put (pc := 82) (q := 3) hB rfl (by decide) rfl fx_5_17 e_X5_remove_82 rfl rfl rfl rfl rfl ?_
      refine V_ret (pc := 85) (v := none) ⟨e_X5_remove_85, rfl⟩ ?_
      first
        | (exfalso; omega)
        | (rw [if_pos (by omega)] at k; exact k)
        | (rw [if_neg (by omega)] at k; exact k)
  · refine V_aload_n (pc := 57) e_X5_remove_57 rfl (Or.inl ⟨_, rfl⟩) ?_
    refine Vk_getR (pc := 58) (q := 0) hB rfl (by decide) rfl fx_5_11 e_X5_remove_58 rfl rfl (by decide) rfl ?_
    refine V_iload_n (pc := 61) e_X5_remove_61 rfl ?_
    refine V_aload_n (pc := 62) e_X5_remove_62 rfl (Or.inl ⟨_, rfl⟩) ?_
    refine Vk_ast (pc := 63) hB rfl rfl (by omega) e_X5_remove_63 (by omega) ?_
    refine V_aload_n (pc := 64) e_X5_remove_64 rfl (Or.inl ⟨_, rfl⟩) ?_
    refine V_iload_n (pc := 65) e_X5_remove_65 rfl ?_
    refine Vk_put (pc := 66) (q := 1) hB rfl (by decide) rfl fx_5_22 e_X5_remove_66 rfl rfl rfl rfl rfl ?_
    refine V_aload_n (pc := 69) e_X5_remove_69 rfl (Or.inl ⟨_, rfl⟩) ?_
    refine Vk_get (pc := 70) (q := 3) hB rfl (by decide) rfl fx_5_17 e_X5_remove_70 rfl rfl ?_
    refine V_aload_n (pc := 73) e_X5_remove_73 rfl (Or.inl ⟨_, rfl⟩) ?_
    refine Vk_get (pc := 74) (q := 0) hB rfl (by omega) (shM_j (by omega) (by omega)) fx_5_32 e_X5_remove_74 rfl rfl ?_
    refine V_icmp_ne (pc := 77) e_X5_remove_77 (by decide) (by omega) (by omega) (fun h77 => ?_) (fun h77 => ?_)
    · refine V_ret (pc := 85) (v := none) ⟨e_X5_remove_85, rfl⟩ ?_
      first
        | (exfalso; omega)
        | (rw [if_pos (by omega)] at k; exact k)
        | (rw [if_neg (by omega)] at k; exact k)
    · refine V_aload_n (pc := 80) e_X5_remove_80 rfl (Or.inl ⟨_, rfl⟩) ?_
      refine V_iconst (pc := 81) e_X5_remove_81 ?_
      refine Vk_put (pc := 82) (q := 3) hB rfl (by decide) rfl fx_5_17 e_X5_remove_82 rfl rfl rfl rfl rfl ?_
      refine V_ret (pc := 85) (v := none) ⟨e_X5_remove_85, rfl⟩ ?_
      first
        | (exfalso; omega)
        | (rw [if_pos (by omega)] at k; exact k)
        | (rw [if_neg (by omega)] at k; exact k)
theorem c_X5_remove {σ : Sto} {b : Nat} {c : Nat → Int → Int} {π : Int → Nat} {s p : Int} {Q : Option Value → Sto → Prop} (hB : MB b) (hs : c 5 1 = s) (h0 : 0 ≤ s ∧ s ≤ 10) (hP : PI π) (hp : 0 ≤ p ∧ p < s) (h3 : -3000000 ≤ c 5 3 ∧ c 5 3 ≤ 3000000) (hn : -3000000 ≤ c (π p) 0 ∧ c (π p) 0 ≤ 3000000) (k : Q none (kst b σ (if c 5 3 = c (π p) 0 then up2 (up2 c 5 1 (s - 1)) 5 3 (-1) else up2 c 5 1 (s - 1)) (rmQ π p s))) : Con M_X5_remove 144 144 (kst b σ c π) [.ref (b + 5), .ref (b + π p)] Q := by
  refine V_entry ok_X5_remove (Nat.le_refl _) (Nat.le_of_ble_eq_true rfl) (V_ls [(0, .ref (b + 5)), (1, .ref (b + π p))] ⟨rfl, rfl, trivial⟩ ?_)
  refine V_iconst (pc := 0) e_X5_remove_0 ?_
  refine V_istore_n (pc := 1) e_X5_remove_1 (by decide) ?_
  refine V_iconst (pc := 2) e_X5_remove_2 ?_
  refine V_istore_n (pc := 3) e_X5_remove_3 (by decide) ?_
  refine V_sq (σ' := kst b σ c (rmP π p ((0 : Nat) : Int))) (by rw [rmP_lo (by omega)]) ?_
  exact V_lq [(0, .ref (b + 5)), (1, .ref (b + π p)), (2, zI (if ((0 : Nat) : Int) ≤ p then ((0 : Nat) : Int) else ((0 : Nat) : Int) - 1)), (3, zI ((0 : Nat) : Int))] ⟨⟨_, rfl, rfl⟩, ⟨_, rfl, rfl⟩, ⟨_, rfl, congrArg (fun e : Int => zI e) (by rw [if_pos (by omega)]; rfl)⟩, ⟨_, rfl, rfl⟩, trivial⟩ (L_X5_remove hB hs h0 hP hp (T_X5_remove hB hs h0 hP hp h3 hn k) 0 (by omega))
theorem L_X3_addTakenSheet {σ : Sto} {b : Nat} {c : Nat → Int → Int} {π : Int → Nat} {Q : Option Value → Sto → Prop} (hB : MB b) {s q : Int} {r : Int → Int} (hL : LR c r) (hRB : RB r) (h9 : 0 ≤ r 9 ∧ r 9 ≤ 16) (hp : ppl r s q < 16) (r_s : -2147483648 ≤ s ∧ s < 2147483648) (r_q : -2147483648 ≤ q ∧ q < 2147483648) (k1 : 0 ≤ ppl r s q → ppl r s q < r 9 → Q none (kst b σ (up2 (up2 c 18 0 (c 18 0 + 1)) 21 (ppl r s q) ((up2 c 18 0 (c 18 0 + 1)) 21 (ppl r s q) + 1)) π)) (k2 : ppl r s q = r 9 → r 9 < 16 → Q none (kst b σ (up2 (up2 (up2 (up2 (up2 c 18 0 (c 18 0 + 1)) 19 (r 9) s) 20 (r 9) q) 21 (r 9) 1) 17 4 (r 9 + 1)) π)) : ∀ n : Nat, n ≤ (r 9).toNat → (∀ i : Int, 0 ≤ i → i < (n : Int) → ¬ ppm r s q i) → V M_X3_addTakenSheet 144 8 [(0, .ref (b + 17)), (1, zI s), (2, zI q), (3, zI (n : Int))] [] 144 (kst b σ (up2 c 18 0 (c 18 0 + 1)) π) Q := by
  refine loop_nat ((r 9).toNat) (fun n hn ih => ?_)
  intro hv
  have e4 : up2 c 18 0 (c 18 0 + 1) 17 4 = r 9 := by rw [up2_o (by omega)]; exact hL.2.1
  refine V_iload_n (pc := 8) e_X3_addTakenSheet_8 rfl ?_
  refine V_aload_n (pc := 9) e_X3_addTakenSheet_9 rfl (Or.inl ⟨_, rfl⟩) ?_
  refine Vk_get (pc := 10) (q := 4) hB rfl (by decide) rfl fx_3_30 e_X3_addTakenSheet_10 rfl rfl ?_
  refine V_icmp_ge (pc := 13) e_X3_addTakenSheet_13 (by decide) (by omega) (by omega) (fun h13 => ?_) (fun h13 => ?_)
  · have ep := ppl_no (r := r) (s := s) (q := q) (fun i a c => hv i a (by omega))
    refine V_aload_n (pc := 59) e_X3_addTakenSheet_59 rfl (Or.inl ⟨_, rfl⟩) ?_
    refine Vk_get (pc := 60) (q := 4) hB rfl (by decide) rfl fx_3_30 e_X3_addTakenSheet_60 rfl rfl ?_
    refine V_bipush (pc := 63) (by decide) e_X3_addTakenSheet_63 ?_
    refine V_icmp_ge (pc := 65) e_X3_addTakenSheet_65 (by decide) (by omega) (by decide) (fun h65 => ?_) (fun h65 => ?_)
    · refine V_ret (pc := 108) (v := none) ⟨e_X3_addTakenSheet_108, rfl⟩ ?_
      first
        | (exfalso; omega)
        | exact k2 ep (by omega)
    · refine V_aload_n (pc := 68) e_X3_addTakenSheet_68 rfl (Or.inl ⟨_, rfl⟩) ?_
      refine Vk_getR (pc := 69) (q := 1) hB rfl (by decide) rfl fx_3_15 e_X3_addTakenSheet_69 rfl rfl (by decide) rfl ?_
      refine V_aload_n (pc := 72) e_X3_addTakenSheet_72 rfl (Or.inl ⟨_, rfl⟩) ?_
      refine Vk_get (pc := 73) (q := 4) hB rfl (by decide) rfl fx_3_30 e_X3_addTakenSheet_73 rfl rfl ?_
      rw [e4]
      refine V_iload_n (pc := 76) e_X3_addTakenSheet_76 rfl ?_
      refine Vk_st (pc := 77) (n := 16) hB rfl (by decide) rfl (by decide) e_X3_addTakenSheet_77 (by omega) ?_
      refine V_aload_n (pc := 78) e_X3_addTakenSheet_78 rfl (Or.inl ⟨_, rfl⟩) ?_
      refine Vk_getR (pc := 79) (q := 2) hB rfl (by decide) rfl fx_3_18 e_X3_addTakenSheet_79 rfl rfl (by decide) rfl ?_
      refine V_aload_n (pc := 82) e_X3_addTakenSheet_82 rfl (Or.inl ⟨_, rfl⟩) ?_
      refine Vk_get (pc := 83) (q := 4) hB rfl (by decide) rfl fx_3_30 e_X3_addTakenSheet_83 rfl rfl ?_
      rw [show up2 (up2 c 18 0 (c 18 0 + 1)) 19 (r 9) s 17 4 = r 9 by (repeat rw [up2_o (by omega)]); exact hL.2.1]
      refine V_iload_n (pc := 86) e_X3_addTakenSheet_86 rfl ?_
      refine Vk_st (pc := 87) (n := 16) hB rfl (by decide) rfl (by decide) e_X3_addTakenSheet_87 (by omega) ?_
      refine V_aload_n (pc := 88) e_X3_addTakenSheet_88 rfl (Or.inl ⟨_, rfl⟩) ?_
      refine Vk_getR (pc := 89) (q := 3) hB rfl (by decide) rfl fx_3_21 e_X3_addTakenSheet_89 rfl rfl (by decide) rfl ?_
      refine V_aload_n (pc := 92) e_X3_addTakenSheet_92 rfl (Or.inl ⟨_, rfl⟩) ?_
      refine Vk_get (pc := 93) (q := 4) hB rfl (by decide) rfl fx_3_30 e_X3_addTakenSheet_93 rfl rfl ?_
      rw [show up2 (up2 (up2 c 18 0 (c 18 0 + 1)) 19 (r 9) s) 20 (r 9) q 17 4 = r 9 by (repeat rw [up2_o (by omega)]); exact hL.2.1]
      refine V_iconst (pc := 96) e_X3_addTakenSheet_96 ?_
      refine Vk_st (pc := 97) (n := 16) hB rfl (by decide) rfl (by decide) e_X3_addTakenSheet_97 (by omega) ?_
      refine V_aload_n (pc := 98) e_X3_addTakenSheet_98 rfl (Or.inl ⟨_, rfl⟩) ?_
      refine V_dup (pc := 99) e_X3_addTakenSheet_99 rfl ?_
      refine Vk_get (pc := 100) (q := 4) hB rfl (by decide) rfl fx_3_30 e_X3_addTakenSheet_100 rfl rfl ?_
      rw [show up2 (up2 (up2 (up2 c 18 0 (c 18 0 + 1)) 19 (r 9) s) 20 (r 9) q) 21 (r 9) 1 17 4 = r 9 by (repeat rw [up2_o (by omega)]); exact hL.2.1]
      refine V_iconst (pc := 103) e_X3_addTakenSheet_103 ?_
      refine V_iadd (pc := 104) e_X3_addTakenSheet_104 ?_
      refine Vk_put (pc := 105) (q := 4) hB rfl (by decide) rfl fx_3_30 e_X3_addTakenSheet_105 rfl rfl rfl rfl rfl ?_
      refine V_ret (pc := 108) (v := none) ⟨e_X3_addTakenSheet_108, rfl⟩ ?_
      first
        | (exfalso; omega)
        | exact k2 ep (by omega)
  · refine V_iload_n (pc := 16) e_X3_addTakenSheet_16 rfl ?_
    refine V_bipush (pc := 17) (by decide) e_X3_addTakenSheet_17 ?_
    refine V_icmp_ge (pc := 19) e_X3_addTakenSheet_19 (by decide) (by omega) (by decide) (fun h19 => ?_) (fun h19 => ?_)
    · have ep := ppl_no (r := r) (s := s) (q := q) (fun i a c => hv i a (by omega))
      refine V_aload_n (pc := 59) e_X3_addTakenSheet_59 rfl (Or.inl ⟨_, rfl⟩) ?_
      refine Vk_get (pc := 60) (q := 4) hB rfl (by decide) rfl fx_3_30 e_X3_addTakenSheet_60 rfl rfl ?_
      refine V_bipush (pc := 63) (by decide) e_X3_addTakenSheet_63 ?_
      refine V_icmp_ge (pc := 65) e_X3_addTakenSheet_65 (by decide) (by omega) (by decide) (fun h65 => ?_) (fun h65 => ?_)
      · refine V_ret (pc := 108) (v := none) ⟨e_X3_addTakenSheet_108, rfl⟩ ?_
        first
          | (exfalso; omega)
          | exact k2 ep (by omega)
      · refine V_aload_n (pc := 68) e_X3_addTakenSheet_68 rfl (Or.inl ⟨_, rfl⟩) ?_
        refine Vk_getR (pc := 69) (q := 1) hB rfl (by decide) rfl fx_3_15 e_X3_addTakenSheet_69 rfl rfl (by decide) rfl ?_
        refine V_aload_n (pc := 72) e_X3_addTakenSheet_72 rfl (Or.inl ⟨_, rfl⟩) ?_
        refine Vk_get (pc := 73) (q := 4) hB rfl (by decide) rfl fx_3_30 e_X3_addTakenSheet_73 rfl rfl ?_
        rw [e4]
        refine V_iload_n (pc := 76) e_X3_addTakenSheet_76 rfl ?_
        refine Vk_st (pc := 77) (n := 16) hB rfl (by decide) rfl (by decide) e_X3_addTakenSheet_77 (by omega) ?_
        refine V_aload_n (pc := 78) e_X3_addTakenSheet_78 rfl (Or.inl ⟨_, rfl⟩) ?_
        refine Vk_getR (pc := 79) (q := 2) hB rfl (by decide) rfl fx_3_18 e_X3_addTakenSheet_79 rfl rfl (by decide) rfl ?_
        refine V_aload_n (pc := 82) e_X3_addTakenSheet_82 rfl (Or.inl ⟨_, rfl⟩) ?_
        refine Vk_get (pc := 83) (q := 4) hB rfl (by decide) rfl fx_3_30 e_X3_addTakenSheet_83 rfl rfl ?_
        rw [show up2 (up2 c 18 0 (c 18 0 + 1)) 19 (r 9) s 17 4 = r 9 by (repeat rw [up2_o (by omega)]); exact hL.2.1]
        refine V_iload_n (pc := 86) e_X3_addTakenSheet_86 rfl ?_
        refine Vk_st (pc := 87) (n := 16) hB rfl (by decide) rfl (by decide) e_X3_addTakenSheet_87 (by omega) ?_
        refine V_aload_n (pc := 88) e_X3_addTakenSheet_88 rfl (Or.inl ⟨_, rfl⟩) ?_
        refine Vk_getR (pc := 89) (q := 3) hB rfl (by decide) rfl fx_3_21 e_X3_addTakenSheet_89 rfl rfl (by decide) rfl ?_
        refine V_aload_n (pc := 92) e_X3_addTakenSheet_92 rfl (Or.inl ⟨_, rfl⟩) ?_
        refine Vk_get (pc := 93) (q := 4) hB rfl (by decide) rfl fx_3_30 e_X3_addTakenSheet_93 rfl rfl ?_
        rw [show up2 (up2 (up2 c 18 0 (c 18 0 + 1)) 19 (r 9) s) 20 (r 9) q 17 4 = r 9 by (repeat rw [up2_o (by omega)]); exact hL.2.1]
        refine V_iconst (pc := 96) e_X3_addTakenSheet_96 ?_
        refine Vk_st (pc := 97) (n := 16) hB rfl (by decide) rfl (by decide) e_X3_addTakenSheet_97 (by omega) ?_
        refine V_aload_n (pc := 98) e_X3_addTakenSheet_98 rfl (Or.inl ⟨_, rfl⟩) ?_
        refine V_dup (pc := 99) e_X3_addTakenSheet_99 rfl ?_
        refine Vk_get (pc := 100) (q := 4) hB rfl (by decide) rfl fx_3_30 e_X3_addTakenSheet_100 rfl rfl ?_
        rw [show up2 (up2 (up2 (up2 c 18 0 (c 18 0 + 1)) 19 (r 9) s) 20 (r 9) q) 21 (r 9) 1 17 4 = r 9 by (repeat rw [up2_o (by omega)]); exact hL.2.1]
        refine V_iconst (pc := 103) e_X3_addTakenSheet_103 ?_
        refine V_iadd (pc := 104) e_X3_addTakenSheet_104 ?_
        refine Vk_put (pc := 105) (q := 4) hB rfl (by decide) rfl fx_3_30 e_X3_addTakenSheet_105 rfl rfl rfl rfl rfl ?_
        refine V_ret (pc := 108) (v := none) ⟨e_X3_addTakenSheet_108, rfl⟩ ?_
        first
          | (exfalso; omega)
          | exact k2 ep (by omega)
    · have lp := hL.2.2.2 (n : Int) (by omega) (by omega)
      have g1 := hRB (37 + 3 * (n : Int)) (by omega) (by omega) (by omega)
      have g2 := hRB (37 + 3 * (n : Int) + 1) (by omega) (by omega) (by omega)
      have e5 : up2 c 18 0 (c 18 0 + 1) 19 (n : Int) = c 19 (n : Int) := up2_o (by omega)
      have e6 : up2 c 18 0 (c 18 0 + 1) 20 (n : Int) = c 20 (n : Int) := up2_o (by omega)
      refine V_aload_n (pc := 22) e_X3_addTakenSheet_22 rfl (Or.inl ⟨_, rfl⟩) ?_
      refine Vk_getR (pc := 23) (q := 1) hB rfl (by decide) rfl fx_3_15 e_X3_addTakenSheet_23 rfl rfl (by decide) rfl ?_
      refine V_iload_n (pc := 26) e_X3_addTakenSheet_26 rfl ?_
      refine Vk_ld (pc := 27) (n := 16) hB rfl (by decide) rfl (by decide) e_X3_addTakenSheet_27 (by omega) ?_
      refine V_iload_n (pc := 28) e_X3_addTakenSheet_28 rfl ?_
      refine V_icmp_ne (pc := 29) e_X3_addTakenSheet_29 (by decide) (by omega) (by omega) (fun h29 => ?_) (fun h29 => ?_)
      · refine V_iinc (pc := 53) e_X3_addTakenSheet_53 rfl (by decide) ?_
        refine V_goto (pc := 56) e_X3_addTakenSheet_56 (by decide) ?_
        exact V_lq [(0, .ref (b + 17)), (1, zI s), (2, zI q), (3, zI ((n + 1 : Nat) : Int))] ⟨⟨_, rfl, rfl⟩, ⟨_, rfl, rfl⟩, ⟨_, rfl, rfl⟩, ⟨_, rfl, rfl⟩, trivial⟩ (ih (by omega) (fun i a c => by
          by_cases z : i = (n : Int)
          · rw [z]; exact fun y => by have y1 := y.1; have y2 := y.2; omega
          · exact hv i a (by omega)))
      · refine V_aload_n (pc := 32) e_X3_addTakenSheet_32 rfl (Or.inl ⟨_, rfl⟩) ?_
        refine Vk_getR (pc := 33) (q := 2) hB rfl (by decide) rfl fx_3_18 e_X3_addTakenSheet_33 rfl rfl (by decide) rfl ?_
        refine V_iload_n (pc := 36) e_X3_addTakenSheet_36 rfl ?_
        refine Vk_ld (pc := 37) (n := 16) hB rfl (by decide) rfl (by decide) e_X3_addTakenSheet_37 (by omega) ?_
        refine V_iload_n (pc := 38) e_X3_addTakenSheet_38 rfl ?_
        refine V_icmp_ne (pc := 39) e_X3_addTakenSheet_39 (by decide) (by omega) (by omega) (fun h39 => ?_) (fun h39 => ?_)
        · refine V_iinc (pc := 53) e_X3_addTakenSheet_53 rfl (by decide) ?_
          refine V_goto (pc := 56) e_X3_addTakenSheet_56 (by decide) ?_
          exact V_lq [(0, .ref (b + 17)), (1, zI s), (2, zI q), (3, zI ((n + 1 : Nat) : Int))] ⟨⟨_, rfl, rfl⟩, ⟨_, rfl, rfl⟩, ⟨_, rfl, rfl⟩, ⟨_, rfl, rfl⟩, trivial⟩ (ih (by omega) (fun i a c => by
            by_cases z : i = (n : Int)
            · rw [z]; exact fun y => by have y1 := y.1; have y2 := y.2; omega
            · exact hv i a (by omega)))
        · refine V_aload_n (pc := 42) e_X3_addTakenSheet_42 rfl (Or.inl ⟨_, rfl⟩) ?_
          refine Vk_getR (pc := 43) (q := 3) hB rfl (by decide) rfl fx_3_21 e_X3_addTakenSheet_43 rfl rfl (by decide) rfl ?_
          refine V_iload_n (pc := 46) e_X3_addTakenSheet_46 rfl ?_
          refine V_dup2 (pc := 47) e_X3_addTakenSheet_47 rfl rfl ?_
          refine Vk_ld (pc := 48) (n := 16) hB rfl (by decide) rfl (by decide) e_X3_addTakenSheet_48 (by omega) ?_
          refine V_iconst (pc := 49) e_X3_addTakenSheet_49 ?_
          refine V_iadd (pc := 50) e_X3_addTakenSheet_50 ?_
          refine Vk_st (pc := 51) (n := 16) hB rfl (by decide) rfl (by decide) e_X3_addTakenSheet_51 (by omega) ?_
          refine V_ret (pc := 52) (v := none) ⟨e_X3_addTakenSheet_52, rfl⟩ ?_
          have e := ppl_at (r := r) (s := s) (q := q) (k := (n : Int)) (by omega) (by omega) ⟨by omega, by omega⟩ hv
          rw [e] at k1
          exact k1 (by omega) (by omega)
theorem c_X3_addTakenSheet {σ : Sto} {b : Nat} {c : Nat → Int → Int} {π : Int → Nat} {Q : Option Value → Sto → Prop} (hB : MB b) {s q : Int} {r : Int → Int} (hL : LR c r) (hRB : RB r) (h9 : 0 ≤ r 9 ∧ r 9 ≤ 16) (hp : ppl r s q < 16) (r_s : -2147483648 ≤ s ∧ s < 2147483648) (r_q : -2147483648 ≤ q ∧ q < 2147483648) (k1 : 0 ≤ ppl r s q → ppl r s q < r 9 → Q none (kst b σ (up2 (up2 c 18 0 (c 18 0 + 1)) 21 (ppl r s q) ((up2 c 18 0 (c 18 0 + 1)) 21 (ppl r s q) + 1)) π)) (k2 : ppl r s q = r 9 → r 9 < 16 → Q none (kst b σ (up2 (up2 (up2 (up2 (up2 c 18 0 (c 18 0 + 1)) 19 (r 9) s) 20 (r 9) q) 21 (r 9) 1) 17 4 (r 9 + 1)) π)) : Con M_X3_addTakenSheet 144 144 (kst b σ c π) [.ref (b + 17), zI s, zI q] Q := by
  refine V_entry ok_X3_addTakenSheet (Nat.le_refl _) (Nat.le_of_ble_eq_true rfl) (V_ls [(0, .ref (b + 17)), (1, zI s), (2, zI q)] ⟨rfl, rfl, rfl, trivial⟩ ?_)
  refine V_aload_n (pc := 0) e_X3_addTakenSheet_0 rfl (Or.inl ⟨_, rfl⟩) ?_
  refine V_iconst (pc := 1) e_X3_addTakenSheet_1 ?_
  refine V_iconst (pc := 2) e_X3_addTakenSheet_2 ?_
  refine V_cV2 (pc := 3) ca_3_41 e_X3_addTakenSheet_3 (by decide) (Nat.le_of_ble_eq_true rfl) (kb_lt hB (by decide)) ((shB hB (by decide)).trans rfl) (by decide) (c_X3_add hB (by decide) ?_)
  refine V_iconst (pc := 6) e_X3_addTakenSheet_6 ?_
  refine V_istore_n (pc := 7) e_X3_addTakenSheet_7 (by decide) ?_
  exact V_lq [(0, .ref (b + 17)), (1, zI s), (2, zI q), (3, zI ((0 : Nat) : Int))] ⟨⟨_, rfl, rfl⟩, ⟨_, rfl, rfl⟩, ⟨_, rfl, rfl⟩, ⟨_, rfl, rfl⟩, trivial⟩ (L_X3_addTakenSheet hB hL hRB h9 hp r_s r_q k1 k2 0 (by omega) (fun i a c => absurd c (by omega)))
theorem c_X6_copyFrom {σ : Sto} {b b2 : Nat} {c c2 : Nat → Int → Int} {π π2 : Int → Nat} {Q : Option Value → Sto → Prop} (hB : MB b) (hB2 : MB b2) (hne : ¬ b = b2) (k : ∀ c' : Nat → Int → Int, (∀ t : Int, 0 ≤ t → t < 4 → c' 2 t = c2 2 t ∧ c' 3 t = c2 3 t ∧ c' 4 t = c2 4 t) → (∀ a : Nat, ¬ a = 2 → ¬ a = 3 → ¬ a = 4 → c' a = c a) → Q none (kst b (kst b2 σ c2 π2) c' π)) : Con M_X6_copyFrom 144 144 (kst b (kst b2 σ c2 π2) c π) [.ref (b + 1), .ref (b2 + 1)] Q := by
  refine V_entry ok_X6_copyFrom (Nat.le_refl _) (Nat.le_of_ble_eq_true rfl) (V_ls [(0, .ref (b + 1)), (1, .ref (b2 + 1))] ⟨rfl, rfl, trivial⟩ ?_)
  refine V_aload_n (pc := 0) e_X6_copyFrom_0 rfl (Or.inl ⟨_, rfl⟩) ?_
  refine Vy_getR (pc := 1) (q := 0) hB hB2 hne rfl (by decide) rfl fx_6_9 e_X6_copyFrom_1 rfl rfl (by decide) rfl ?_
  refine V_iconst (pc := 4) e_X6_copyFrom_4 ?_
  refine V_aload_n (pc := 5) e_X6_copyFrom_5 rfl (Or.inl ⟨_, rfl⟩) ?_
  refine Vk_getR (pc := 6) (q := 0) hB rfl (by decide) rfl fx_6_9 e_X6_copyFrom_6 rfl rfl (by decide) rfl ?_
  refine V_iconst (pc := 9) e_X6_copyFrom_9 ?_
  refine V_iconst (pc := 10) e_X6_copyFrom_10 ?_
  refine Vy_copy (pc := 11) (n := 4) hB hB2 hne rfl rfl (by decide) (by decide) rfl rfl (by decide) (by decide) rfl (by decide) (Nat.le_of_ble_eq_true rfl) e_X6_copyFrom_11 ?_
  refine V_aload_n (pc := 14) e_X6_copyFrom_14 rfl (Or.inl ⟨_, rfl⟩) ?_
  refine Vy_getR (pc := 15) (q := 1) hB hB2 hne rfl (by decide) rfl fx_6_15 e_X6_copyFrom_15 rfl rfl (by decide) rfl ?_
  refine V_iconst (pc := 18) e_X6_copyFrom_18 ?_
  refine V_aload_n (pc := 19) e_X6_copyFrom_19 rfl (Or.inl ⟨_, rfl⟩) ?_
  refine Vk_getR (pc := 20) (q := 1) hB rfl (by decide) rfl fx_6_15 e_X6_copyFrom_20 rfl rfl (by decide) rfl ?_
  refine V_iconst (pc := 23) e_X6_copyFrom_23 ?_
  refine V_iconst (pc := 24) e_X6_copyFrom_24 ?_
  refine Vy_copy (pc := 25) (n := 4) hB hB2 hne rfl rfl (by decide) (by decide) rfl rfl (by decide) (by decide) rfl (by decide) (Nat.le_of_ble_eq_true rfl) e_X6_copyFrom_25 ?_
  refine V_aload_n (pc := 28) e_X6_copyFrom_28 rfl (Or.inl ⟨_, rfl⟩) ?_
  refine Vy_getR (pc := 29) (q := 2) hB hB2 hne rfl (by decide) rfl fx_6_18 e_X6_copyFrom_29 rfl rfl (by decide) rfl ?_
  refine V_iconst (pc := 32) e_X6_copyFrom_32 ?_
  refine V_aload_n (pc := 33) e_X6_copyFrom_33 rfl (Or.inl ⟨_, rfl⟩) ?_
  refine Vk_getR (pc := 34) (q := 2) hB rfl (by decide) rfl fx_6_18 e_X6_copyFrom_34 rfl rfl (by decide) rfl ?_
  refine V_iconst (pc := 37) e_X6_copyFrom_37 ?_
  refine V_iconst (pc := 38) e_X6_copyFrom_38 ?_
  refine Vy_copy (pc := 39) (n := 4) hB hB2 hne rfl rfl (by decide) (by decide) rfl rfl (by decide) (by decide) rfl (by decide) (Nat.le_of_ble_eq_true rfl) e_X6_copyFrom_39 ?_
  refine V_ret (pc := 42) (v := none) ⟨e_X6_copyFrom_42, rfl⟩ ?_
  refine k _ (fun t h0 h1 => ?_) (fun a a2 a3 a4 => ?_)
  · refine ⟨?_, ?_, ?_⟩ <;> simp (disch := omega) only [upA_o, upA_e] <;> exact cpy_at h0 h1
  · simp (disch := omega) only [upA_o]
theorem c_X3_copyFrom {σ : Sto} {b b2 : Nat} {c c2 : Nat → Int → Int} {π π2 : Int → Nat} {Q : Option Value → Sto → Prop} (hB : MB b) (hB2 : MB b2) (hne : ¬ b = b2) (k : ∀ c' : Nat → Int → Int, (∀ t : Int, 0 ≤ t → t < 9 → c' 18 t = c2 18 t) → (∀ t : Int, 0 ≤ t → t < 16 → c' 19 t = c2 19 t ∧ c' 20 t = c2 20 t ∧ c' 21 t = c2 21 t) → (c' 17 4 = c2 17 4 ∧ c' 17 5 = c2 17 5) → (∀ a : Nat, ¬ (17 ≤ a ∧ a ≤ 21) → c' a = c a) → Q none (kst b (kst b2 σ c2 π2) c' π)) : Con M_X3_copyFrom 144 144 (kst b (kst b2 σ c2 π2) c π) [.ref (b + 17), .ref (b2 + 17)] Q := by
  refine V_entry ok_X3_copyFrom (Nat.le_refl _) (Nat.le_of_ble_eq_true rfl) (V_ls [(0, .ref (b + 17)), (1, .ref (b2 + 17))] ⟨rfl, rfl, trivial⟩ ?_)
  refine V_aload_n (pc := 0) e_X3_copyFrom_0 rfl (Or.inl ⟨_, rfl⟩) ?_
  refine Vy_getR (pc := 1) (q := 0) hB hB2 hne rfl (by decide) rfl fx_3_9 e_X3_copyFrom_1 rfl rfl (by decide) rfl ?_
  refine V_iconst (pc := 4) e_X3_copyFrom_4 ?_
  refine V_aload_n (pc := 5) e_X3_copyFrom_5 rfl (Or.inl ⟨_, rfl⟩) ?_
  refine Vk_getR (pc := 6) (q := 0) hB rfl (by decide) rfl fx_3_9 e_X3_copyFrom_6 rfl rfl (by decide) rfl ?_
  refine V_iconst (pc := 9) e_X3_copyFrom_9 ?_
  refine V_bipush (pc := 10) (by decide) e_X3_copyFrom_10 ?_
  refine Vy_copy (pc := 12) (n := 9) hB hB2 hne rfl rfl (by decide) (by decide) rfl rfl (by decide) (by decide) rfl (by decide) (Nat.le_of_ble_eq_true rfl) e_X3_copyFrom_12 ?_
  refine V_aload_n (pc := 15) e_X3_copyFrom_15 rfl (Or.inl ⟨_, rfl⟩) ?_
  refine Vy_getR (pc := 16) (q := 1) hB hB2 hne rfl (by decide) rfl fx_3_15 e_X3_copyFrom_16 rfl rfl (by decide) rfl ?_
  refine V_iconst (pc := 19) e_X3_copyFrom_19 ?_
  refine V_aload_n (pc := 20) e_X3_copyFrom_20 rfl (Or.inl ⟨_, rfl⟩) ?_
  refine Vk_getR (pc := 21) (q := 1) hB rfl (by decide) rfl fx_3_15 e_X3_copyFrom_21 rfl rfl (by decide) rfl ?_
  refine V_iconst (pc := 24) e_X3_copyFrom_24 ?_
  refine V_bipush (pc := 25) (by decide) e_X3_copyFrom_25 ?_
  refine Vy_copy (pc := 27) (n := 16) hB hB2 hne rfl rfl (by decide) (by decide) rfl rfl (by decide) (by decide) rfl (by decide) (Nat.le_of_ble_eq_true rfl) e_X3_copyFrom_27 ?_
  refine V_aload_n (pc := 30) e_X3_copyFrom_30 rfl (Or.inl ⟨_, rfl⟩) ?_
  refine Vy_getR (pc := 31) (q := 2) hB hB2 hne rfl (by decide) rfl fx_3_18 e_X3_copyFrom_31 rfl rfl (by decide) rfl ?_
  refine V_iconst (pc := 34) e_X3_copyFrom_34 ?_
  refine V_aload_n (pc := 35) e_X3_copyFrom_35 rfl (Or.inl ⟨_, rfl⟩) ?_
  refine Vk_getR (pc := 36) (q := 2) hB rfl (by decide) rfl fx_3_18 e_X3_copyFrom_36 rfl rfl (by decide) rfl ?_
  refine V_iconst (pc := 39) e_X3_copyFrom_39 ?_
  refine V_bipush (pc := 40) (by decide) e_X3_copyFrom_40 ?_
  refine Vy_copy (pc := 42) (n := 16) hB hB2 hne rfl rfl (by decide) (by decide) rfl rfl (by decide) (by decide) rfl (by decide) (Nat.le_of_ble_eq_true rfl) e_X3_copyFrom_42 ?_
  refine V_aload_n (pc := 45) e_X3_copyFrom_45 rfl (Or.inl ⟨_, rfl⟩) ?_
  refine Vy_getR (pc := 46) (q := 3) hB hB2 hne rfl (by decide) rfl fx_3_21 e_X3_copyFrom_46 rfl rfl (by decide) rfl ?_
  refine V_iconst (pc := 49) e_X3_copyFrom_49 ?_
  refine V_aload_n (pc := 50) e_X3_copyFrom_50 rfl (Or.inl ⟨_, rfl⟩) ?_
  refine Vk_getR (pc := 51) (q := 3) hB rfl (by decide) rfl fx_3_21 e_X3_copyFrom_51 rfl rfl (by decide) rfl ?_
  refine V_iconst (pc := 54) e_X3_copyFrom_54 ?_
  refine V_bipush (pc := 55) (by decide) e_X3_copyFrom_55 ?_
  refine Vy_copy (pc := 57) (n := 16) hB hB2 hne rfl rfl (by decide) (by decide) rfl rfl (by decide) (by decide) rfl (by decide) (Nat.le_of_ble_eq_true rfl) e_X3_copyFrom_57 ?_
  refine V_aload_n (pc := 60) e_X3_copyFrom_60 rfl (Or.inl ⟨_, rfl⟩) ?_
  refine V_aload_n (pc := 61) e_X3_copyFrom_61 rfl (Or.inl ⟨_, rfl⟩) ?_
  refine Vy_get (pc := 62) (q := 4) hB hB2 hne rfl (by decide) rfl fx_3_30 e_X3_copyFrom_62 rfl rfl ?_
  refine Vk_put (pc := 65) (q := 4) hB rfl (by decide) rfl fx_3_30 e_X3_copyFrom_65 rfl rfl rfl rfl rfl ?_
  refine V_aload_n (pc := 68) e_X3_copyFrom_68 rfl (Or.inl ⟨_, rfl⟩) ?_
  refine V_aload_n (pc := 69) e_X3_copyFrom_69 rfl (Or.inl ⟨_, rfl⟩) ?_
  refine Vy_get (pc := 70) (q := 5) hB hB2 hne rfl (by decide) rfl fx_3_34 e_X3_copyFrom_70 rfl rfl ?_
  refine Vk_put (pc := 73) (q := 5) hB rfl (by decide) rfl fx_3_34 e_X3_copyFrom_73 rfl rfl rfl rfl rfl ?_
  refine V_ret (pc := 76) (v := none) ⟨e_X3_copyFrom_76, rfl⟩ ?_
  refine k _ (fun t h0 h1 => ?_) (fun t h0 h1 => ?_) ⟨?_, ?_⟩ (fun a h => ?_)
  · simp (disch := omega) only [up2_o, upA_o, upA_e]
    exact cpy_at h0 h1
  · refine ⟨?_, ?_, ?_⟩ <;> simp (disch := omega) only [up2_o, upA_o, upA_e] <;> exact cpy_at h0 h1
  · simp (disch := omega) only [up2_o, up2_e]
  · simp (disch := omega) only [up2_e]
  · funext q
    simp (disch := omega) only [up2_o, upA_o]
