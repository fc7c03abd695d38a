/-! the model's work -/
theorem up1_lt {f : Int → Int} {k j x : Int} (h : j < k ∨ k < j) : up1 f k x j = f j := up1_ne (by omega)
theorem jf_up1 {r : Int → Int} {k x p w : Int} (h : k < 85 + 10 * p ∨ 85 + 10 * p + 10 ≤ k) (h0 : 0 ≤ w) (h1 : w < 10) : jf (up1 r k x) p w = jf r p w := up1_lt (by omega)
theorem JB_ext {r r' : Int → Int} {p : Int} (h : ∀ w, 0 ≤ w → w < 10 → jf r' p w = jf r p w) (hJ : JB r p) : JB r' p := by
  unfold JB at hJ ⊢
  rw [h 0 (by decide) (by decide), h 1 (by decide) (by decide), h 2 (by decide) (by decide), h 3 (by decide) (by decide), h 4 (by decide) (by decide), h 5 (by decide) (by decide), h 6 (by decide) (by decide), h 7 (by decide) (by decide), h 8 (by decide) (by decide), h 9 (by decide) (by decide)]
  exact hJ
theorem JB_up1 {r : Int → Int} {k x p : Int} (h : k < 85 + 10 * p ∨ 85 + 10 * p + 10 ≤ k) (hJ : JB r p) : JB (up1 r k x) p := JB_ext (fun w h0 h1 => jf_up1 h h0 h1) hJ
theorem JB_inc {r : Int → Int} {p w : Int} (hw : w = 8 ∨ w = 9) (h8 : jf r p 8 ≤ 9999) (h9 : jf r p 9 ≤ 999) (hJ : JB r p) : JB (inc r (85 + 10 * p + w)) p := by
  have e : ∀ v, jf (inc r (85 + 10 * p + w)) p v = if v = w then jf r p w + 1 else jf r p v := fun v => by
    by_cases h : v = w
    · rw [if_pos h, h]; exact up1_at
    · rw [if_neg h]; exact up1_ne (by omega)
  have hK := hJ
  unfold JB at hK ⊢
  simp only [e]
  rcases hw with rfl | rfl
  · simp only [Int.reduceEq, if_true, if_false]; omega
  · simp only [Int.reduceEq, if_true, if_false]; omega
theorem als_ext {r r' : Int → Int} {p : Int} (h : ∀ w, 0 ≤ w → w < 10 → jf r' p w = jf r p w) : als r' p = als r p := by
  unfold als sst
  rw [h 1 (by decide) (by decide), h 2 (by decide) (by decide), h 5 (by decide) (by decide)]
/-- a tray with a sheet of this paper; the lowest one -/
abbrev twk (r : Int → Int) (s q t : Int) : Prop := r (25 + 3 * t) = s ∧ r (25 + 3 * t + 1) = q ∧ ¬ r (25 + 3 * t + 2) = 0
noncomputable def lwt (r : Int → Int) (s q : Int) : Int := by
  classical exact if h : ∃ t, 0 ≤ t ∧ t ≤ 3 ∧ twk r s q t ∧ ∀ i, 0 ≤ i → i < t → ¬ twk r s q i then h.choose else -1
theorem lwt_at {r : Int → Int} {s q t : Int} (h0 : 0 ≤ t) (h1 : t ≤ 3) (h2 : twk r s q t) (h3 : ∀ i, 0 ≤ i → i < t → ¬ twk r s q i) : lwt r s q = t := by
  have h : ∃ t, 0 ≤ t ∧ t ≤ 3 ∧ twk r s q t ∧ ∀ i, 0 ≤ i → i < t → ¬ twk r s q i := ⟨t, h0, h1, h2, h3⟩
  unfold lwt
  rw [dif_pos h]
  obtain ⟨a, c, d, f⟩ := h.choose_spec
  generalize h.choose = u at a c d f
  rcases Int.lt_trichotomy t u with z | z | z
  · exact absurd h2 (f t h0 z)
  · exact z.symm
  · exact absurd d (h3 u a z)
abbrev ppm (r : Int → Int) (s q k : Int) : Prop := r (37 + 3 * k) = s ∧ r (37 + 3 * k + 1) = q
/-- where a paper is told; behind all if nowhere -/
noncomputable def ppl (r : Int → Int) (s q : Int) : Int := by
  classical exact if h : ∃ k, 0 ≤ k ∧ k < r 9 ∧ ppm r s q k ∧ ∀ i, 0 ≤ i → i < k → ¬ ppm r s q i then h.choose else r 9
theorem ppl_at {r : Int → Int} {s q k : Int} (h0 : 0 ≤ k) (h1 : k < r 9) (h2 : ppm r s q k) (h3 : ∀ i, 0 ≤ i → i < k → ¬ ppm r s q i) : ppl r s q = k := by
  have h : ∃ k, 0 ≤ k ∧ k < r 9 ∧ ppm r s q k ∧ ∀ i, 0 ≤ i → i < k → ¬ ppm r s q i := ⟨k, h0, h1, h2, h3⟩
  unfold ppl
  rw [dif_pos h]
  obtain ⟨a, c, d, f⟩ := h.choose_spec
  generalize h.choose = u at a c d f
  rcases Int.lt_trichotomy k u with z | z | z
  · exact absurd h2 (f k h0 z)
  · exact z.symm
  · exact absurd d (h3 u a z)
theorem ppl_no {r : Int → Int} {s q : Int} (h3 : ∀ i, 0 ≤ i → i < r 9 → ¬ ppm r s q i) : ppl r s q = r 9 := by
  unfold ppl
  rw [dif_neg (fun ⟨p, a, c, d, f⟩ => h3 p a c d)]
theorem ppl_sp (r : Int → Int) (s q : Int) (h9 : 0 ≤ r 9) : (ppl r s q = r 9 ∧ ∀ i, 0 ≤ i → i < r 9 → ¬ ppm r s q i) ∨ (0 ≤ ppl r s q ∧ ppl r s q < r 9 ∧ ppm r s q (ppl r s q) ∧ ∀ i, 0 ≤ i → i < ppl r s q → ¬ ppm r s q i) := by
  classical
  by_cases h : ∃ p, 0 ≤ p ∧ p < r 9 ∧ ppm r s q p ∧ ∀ i, 0 ≤ i → i < p → ¬ ppm r s q i
  · obtain ⟨p, a, c, d, f⟩ := h
    rw [ppl_at a c d f]
    exact Or.inr ⟨a, c, d, f⟩
  · refine Or.inl ?_
    have h3 : ∀ n : Nat, ∀ i : Int, 0 ≤ i → i < r 9 → i < n → ¬ ppm r s q i := by
      intro n
      induction n with
      | zero => exact fun i a _ c => absurd c (by omega)
      | succ n ih => exact fun i a c _ d => h ⟨i, a, c, d, fun k e f => ih k e (by omega) (by omega)⟩
    have h4 : ∀ i, 0 ≤ i → i < r 9 → ¬ ppm r s q i := fun i a c => h3 (i + 1).toNat i a c (by omega)
    exact ⟨ppl_no h4, h4⟩
noncomputable def tk0 (r : Int → Int) (s q : Int) : Int → Int := inc (sbn r (25 + 3 * lwt r s q + 2) 1) 16
noncomputable def tk1 (r : Int → Int) (s q : Int) : Int → Int := if ppl r s q = r 9 then inc (up1 (up1 (up1 r (37 + 3 * ppl r s q) s) (37 + 3 * ppl r s q + 1) q) (37 + 3 * ppl r s q + 2) 0) 9 else r
noncomputable def tkF (r : Int → Int) (s q : Int) : Int → Int := inc (tk1 (tk0 r s q) s q) (37 + 3 * ppl (tk0 r s q) s q + 2)
noncomputable def bsh0 (r : Int → Int) (p : Int) : Int → Int := tkF r (jf r p 3) (jf r p 4)
def bsh2 (r : Int → Int) (p : Int) : Int → Int := up1 (up1 r 7 (jf r p 0)) 5 1
def bsh1 (r : Int → Int) (p : Int) : Int → Int := up1 (bsh2 r p) 6 (jf (bsh2 r p) p 0)
def bshL (r : Int → Int) (s : Int) : Int → Int := up1 r 4 (s * r 10 + (if s = 2 then r 11 else 0))
noncomputable def bshF (r : Int → Int) (p : Int) : Int → Int := bshL (bsh1 (bsh0 r p) p) (sid (bsh0 r p) p)
def sta2 (r : Int → Int) (p : Int) : Int → Int := up1 (up1 (up1 r 4 (r 12)) 5 2) 6 (jf (up1 (up1 r 4 (r 12)) 5 2) p 0)
noncomputable def bstF (r : Int → Int) (p : Int) : Int → Int := if hset r p then (if r 12 = 0 then stapF (up1 r 4 (r 12)) p else sta2 r p) else bshF r p
noncomputable def begF : Nat → (Int → Int) → Int × (Int → Int)
  | 0, r => (0, r)
  | n + 1, r => if r 5 = 0 then (if wst r (nxj r) = 0 then begF n (bstF r (nxj r)) else (wst r (nxj r), r)) else (0, r)
def fin2 (r : Int → Int) (p : Int) : Int → Int := inc (adn (inc (inc r 2) 17) 19 (sid (inc (inc r 2) 17) p)) (85 + 10 * p + 8)
def fin1 (r : Int → Int) (p : Int) : Int → Int := if 0 < r 14 ∧ r 8 % r 14 = 0 then inc r 18 else leavF (fin2 r p) p
noncomputable def finF (r : Int → Int) : Int → Int := if r 5 = 2 then stapF (endsF r) (plc r (r 6)) else fin1 (inc (endsF r) 8) (plc r (r 6))
def gbT (r : Int → Int) (w m : Int) : Int := if 0 < w ∨ m < r 4 then m else r 4
noncomputable def gbF (r : Int → Int) (w m : Int) : Int → Int := if 0 < w then adn (adn r 24 (gbT r w m)) 23 (gbT r w m) else if r 4 - gbT r w m = 0 then finF (sbn (adn r 24 (gbT r w m)) 4 (gbT r w m)) else sbn (adn r 24 (gbT r w m)) 4 (gbT r w m)
theorem T_X8_leaves {σ : Sto} {now : Int → Int} {P : PT} {T : TT} {Q : Option Value → Sto → Prop} {p : Int} (h0 : now 0 ≤ 10) (hp : 0 ≤ p ∧ p < now 0) (hJ : JB now p) (h7 : -3000000 ≤ now 7 ∧ now 7 ≤ 3000000) (k : Q none (mst σ (inc (goesF (stayF now (jf now p 0)) p) 21) P T)) : V M_X8_leaves 150 49 [(0, .ref 144), (1, zI p)] [] 150 (mst σ now P T) Q := by
  have jj := hJ
  unfold JB at jj
  refine V_aload_n (pc := 49) e_X8_leaves_49 rfl (Or.inl ⟨_, rfl⟩) ?_
  refine V_getR (pc := 50) (q := 0) (j := 145) fx_8_7 e_X8_leaves_50 rfl rfl (by decide) rfl rfl ?_
  refine V_bipush (pc := 53) (by decide) e_X8_leaves_53 ?_
  refine V_aload_n (pc := 55) e_X8_leaves_55 rfl (Or.inl ⟨_, rfl⟩) ?_
  refine V_getR (pc := 56) (q := 0) (j := 145) fx_8_7 e_X8_leaves_56 rfl rfl (by decide) rfl rfl ?_
  refine V_bipush (pc := 59) (by decide) e_X8_leaves_59 ?_
  refine Vm_now (pc := 61) e_X8_leaves_61 (by decide) ?_
  refine V_aload_n (pc := 62) e_X8_leaves_62 rfl (Or.inl ⟨_, rfl⟩) ?_
  refine V_iload_n (pc := 63) e_X8_leaves_63 rfl ?_
  refine V_iconst (pc := 64) e_X8_leaves_64 ?_
  refine V_cV2 (pc := 65) ca_8_64 e_X8_leaves_65 (by decide) (Nat.le_of_ble_eq_true rfl) (by decide) rfl (by decide) (c_X8_of (by omega) ?_)
  refine V_icmp_ne (pc := 68) e_X8_leaves_68 (by decide) (by omega) (by omega) (fun h68 => ?_) (fun h68 => ?_)
  · refine V_aload_n (pc := 76) e_X8_leaves_76 rfl (Or.inl ⟨_, rfl⟩) ?_
    refine V_getR (pc := 77) (q := 0) (j := 145) fx_8_7 e_X8_leaves_77 rfl rfl (by decide) rfl rfl ?_
    refine V_bipush (pc := 80) (by decide) e_X8_leaves_80 ?_
    refine Vm_now (pc := 82) e_X8_leaves_82 (by decide) ?_
    refine Vm_nowS (pc := 83) e_X8_leaves_83 (by decide) ?_
    refine V_aload_n (pc := 84) e_X8_leaves_84 rfl (Or.inl ⟨_, rfl⟩) ?_
    refine V_iload_n (pc := 85) e_X8_leaves_85 rfl ?_
    refine V_cV1 (pc := 86) ca_8_94 e_X8_leaves_86 (by decide) (Nat.le_of_ble_eq_true rfl) (by decide) rfl (by decide) (c_X8_goesJob (by rw [up1_ne (by decide)]; omega) (by rw [up1_ne (by decide)]; omega) ?_)
    refine V_aload_n (pc := 89) e_X8_leaves_89 rfl (Or.inl ⟨_, rfl⟩) ?_
    refine V_getR (pc := 90) (q := 0) (j := 145) fx_8_7 e_X8_leaves_90 rfl rfl (by decide) rfl rfl ?_
    refine V_bipush (pc := 93) (by decide) e_X8_leaves_93 ?_
    refine V_dup2 (pc := 95) e_X8_leaves_95 rfl rfl ?_
    refine Vm_now (pc := 96) e_X8_leaves_96 (by decide) ?_
    refine V_iconst (pc := 97) e_X8_leaves_97 ?_
    refine V_iadd (pc := 98) e_X8_leaves_98 ?_
    refine Vm_nowS (pc := 99) e_X8_leaves_99 (by decide) ?_
    refine V_ret (pc := 100) (v := none) ⟨e_X8_leaves_100, rfl⟩ ?_
    first | exact Qn k (mnow (by unfold stayF; rw [if_pos h68]; rfl)) | exact Qn k (mnow (by unfold stayF; rw [if_neg h68]; rfl))
  · refine V_bipush (pc := 71) (by decide) e_X8_leaves_71 ?_
    refine V_goto (pc := 73) e_X8_leaves_73 (by decide) ?_
    refine Vm_nowS (pc := 83) e_X8_leaves_83 (by decide) ?_
    refine V_aload_n (pc := 84) e_X8_leaves_84 rfl (Or.inl ⟨_, rfl⟩) ?_
    refine V_iload_n (pc := 85) e_X8_leaves_85 rfl ?_
    refine V_cV1 (pc := 86) ca_8_94 e_X8_leaves_86 (by decide) (Nat.le_of_ble_eq_true rfl) (by decide) rfl (by decide) (c_X8_goesJob (by rw [up1_ne (by decide)]; omega) (by rw [up1_ne (by decide)]; omega) ?_)
    refine V_aload_n (pc := 89) e_X8_leaves_89 rfl (Or.inl ⟨_, rfl⟩) ?_
    refine V_getR (pc := 90) (q := 0) (j := 145) fx_8_7 e_X8_leaves_90 rfl rfl (by decide) rfl rfl ?_
    refine V_bipush (pc := 93) (by decide) e_X8_leaves_93 ?_
    refine V_dup2 (pc := 95) e_X8_leaves_95 rfl rfl ?_
    refine Vm_now (pc := 96) e_X8_leaves_96 (by decide) ?_
    refine V_iconst (pc := 97) e_X8_leaves_97 ?_
    refine V_iadd (pc := 98) e_X8_leaves_98 ?_
    refine Vm_nowS (pc := 99) e_X8_leaves_99 (by decide) ?_
    refine V_ret (pc := 100) (v := none) ⟨e_X8_leaves_100, rfl⟩ ?_
    first | exact Qn k (mnow (by unfold stayF; rw [if_pos h68]; rfl)) | exact Qn k (mnow (by unfold stayF; rw [if_neg h68]; rfl))
theorem c_X8_leaves {σ : Sto} {now : Int → Int} {P : PT} {T : TT} {Q : Option Value → Sto → Prop} {p : Int} (h0 : now 0 ≤ 10) (hp : 0 ≤ p ∧ p < now 0) (hJ : JB now p) (h7 : -3000000 ≤ now 7 ∧ now 7 ≤ 3000000) (k : Q none (mst σ (leavF now p) P T)) : Con M_X8_leaves 150 150 (mst σ now P T) [.ref 144, zI p] Q := by
  refine V_entry ok_X8_leaves (Nat.le_refl _) (Nat.le_of_ble_eq_true rfl) (V_ls [(0, .ref 144), (1, zI p)] ⟨rfl, rfl, trivial⟩ ?_)
  have jj := hJ
  unfold JB at jj
  have a := als_rg hJ
  refine V_aload_n (pc := 0) e_X8_leaves_0 rfl (Or.inl ⟨_, rfl⟩) ?_
  refine V_iload_n (pc := 1) e_X8_leaves_1 rfl ?_
  refine V_bipush (pc := 2) (by decide) e_X8_leaves_2 ?_
  refine V_cV2 (pc := 4) ca_8_64 e_X8_leaves_4 (by decide) (Nat.le_of_ble_eq_true rfl) (by decide) rfl (by decide) (c_X8_of (by omega) ?_)
  refine V_aload_n (pc := 7) e_X8_leaves_7 rfl (Or.inl ⟨_, rfl⟩) ?_
  refine V_iload_n (pc := 8) e_X8_leaves_8 rfl ?_
  refine V_cV1 (pc := 9) ca_8_103 e_X8_leaves_9 (by decide) (Nat.le_of_ble_eq_true rfl) (by decide) rfl (by decide) (c_X8_allSheets (by assumption) ?_)
  refine V_icmp_ne (pc := 12) e_X8_leaves_12 (by decide) (by omega) (by omega) (fun h12 => ?_) (fun h12 => ?_)
  · refine V_iconst (pc := 43) e_X8_leaves_43 ?_
    refine V_istore_n (pc := 44) e_X8_leaves_44 (by decide) ?_
    refine V_iload_n (pc := 45) e_X8_leaves_45 rfl ?_
    refine V_if_eq (pc := 46) e_X8_leaves_46 (by decide) (by decide) (fun _ => ?_) (fun h => absurd (by decide) h)
    refine V_ret (pc := 100) (v := none) ⟨e_X8_leaves_100, rfl⟩ ?_
    exact Qn k (mnow (by unfold leavF; rw [if_neg (by omega)]))
  · refine V_aload_n (pc := 15) e_X8_leaves_15 rfl (Or.inl ⟨_, rfl⟩) ?_
    refine V_iload_n (pc := 16) e_X8_leaves_16 rfl ?_
    refine V_cV1 (pc := 17) ca_8_118 e_X8_leaves_17 (by decide) (Nat.le_of_ble_eq_true rfl) (by decide) rfl (by decide) (c_X8_staplesOf (by assumption) ?_)
    refine V_if_eq (pc := 20) e_X8_leaves_20 (by decide) (by omega) (fun h20 => ?_) (fun h20 => ?_)
    · refine V_iconst (pc := 39) e_X8_leaves_39 ?_
      refine V_goto (pc := 40) e_X8_leaves_40 (by decide) ?_
      refine V_istore_n (pc := 44) e_X8_leaves_44 (by decide) ?_
      refine V_iload_n (pc := 45) e_X8_leaves_45 rfl ?_
      refine V_if_eq (pc := 46) e_X8_leaves_46 (by decide) (by decide) (fun h => absurd h (by decide)) (fun _ => ?_)
      exact V_lq [(0, .ref 144), (1, zI p)] ⟨⟨_, rfl, rfl⟩, ⟨_, rfl, rfl⟩, trivial⟩ (T_X8_leaves h0 hp hJ h7 (by unfold leavF at k; rw [if_pos (by omega)] at k; exact k))
    · refine V_aload_n (pc := 23) e_X8_leaves_23 rfl (Or.inl ⟨_, rfl⟩) ?_
      refine V_iload_n (pc := 24) e_X8_leaves_24 rfl ?_
      refine V_bipush (pc := 25) (by decide) e_X8_leaves_25 ?_
      refine V_cV2 (pc := 27) ca_8_64 e_X8_leaves_27 (by decide) (Nat.le_of_ble_eq_true rfl) (by decide) rfl (by decide) (c_X8_of (by omega) ?_)
      refine V_aload_n (pc := 30) e_X8_leaves_30 rfl (Or.inl ⟨_, rfl⟩) ?_
      refine V_iload_n (pc := 31) e_X8_leaves_31 rfl ?_
      refine V_iconst (pc := 32) e_X8_leaves_32 ?_
      refine V_cV2 (pc := 33) ca_8_64 e_X8_leaves_33 (by decide) (Nat.le_of_ble_eq_true rfl) (by decide) rfl (by decide) (c_X8_of (by omega) ?_)
      refine V_icmp_ne (pc := 36) e_X8_leaves_36 (by decide) (by omega) (by omega) (fun h36 => ?_) (fun h36 => ?_)
      · refine V_iconst (pc := 43) e_X8_leaves_43 ?_
        refine V_istore_n (pc := 44) e_X8_leaves_44 (by decide) ?_
        refine V_iload_n (pc := 45) e_X8_leaves_45 rfl ?_
        refine V_if_eq (pc := 46) e_X8_leaves_46 (by decide) (by decide) (fun _ => ?_) (fun h => absurd (by decide) h)
        refine V_ret (pc := 100) (v := none) ⟨e_X8_leaves_100, rfl⟩ ?_
        exact Qn k (mnow (by unfold leavF; rw [if_neg (by omega)]))
      · refine V_iconst (pc := 39) e_X8_leaves_39 ?_
        refine V_goto (pc := 40) e_X8_leaves_40 (by decide) ?_
        refine V_istore_n (pc := 44) e_X8_leaves_44 (by decide) ?_
        refine V_iload_n (pc := 45) e_X8_leaves_45 rfl ?_
        refine V_if_eq (pc := 46) e_X8_leaves_46 (by decide) (by decide) (fun h => absurd h (by decide)) (fun _ => ?_)
        exact V_lq [(0, .ref 144), (1, zI p)] ⟨⟨_, rfl, rfl⟩, ⟨_, rfl, rfl⟩, trivial⟩ (T_X8_leaves h0 hp hJ h7 (by unfold leavF at k; rw [if_pos (by omega)] at k; exact k))
theorem JB_inc9 {r : Int → Int} {p : Int} (h9 : jf r p 9 ≤ 999) (hJ : JB r p) : JB (inc r (85 + 10 * p + 9)) p := by
  have e : ∀ v, jf (inc r (85 + 10 * p + 9)) p v = if v = 9 then jf r p 9 + 1 else jf r p v := fun v => by
    by_cases h : v = 9
    · rw [if_pos h, h]; exact up1_at
    · rw [if_neg h]; exact up1_ne (by omega)
  have hK := hJ
  unfold JB at hK ⊢
  simp only [e, Int.reduceEq, if_true, if_false]
  omega
theorem stap0_J {r : Int → Int} {p : Int} (h9 : jf r p 9 ≤ 999) (hJ : JB r p) : JB (stapF0 r p) p := by
  have jj := hJ
  unfold JB at jj
  refine JB_inc9 ?_ (JB_up1 (by omega) (JB_up1 (by omega) hJ))
  unfold adn sbn
  rw [jf_up1 (by omega) (by decide) (by decide), jf_up1 (by omega) (by decide) (by decide)]
  exact h9
theorem stap0_at {r : Int → Int} {p k : Int} (hp : 0 ≤ p) (h3 : ¬ k = 3) (h20 : ¬ k = 20) (hk : k < 85) : stapF0 r p k = r k := by
  unfold stapF0 inc adn sbn
  rw [up1_ne (by omega), up1_ne h20, up1_ne h3]
theorem T_X8_stapled {σ : Sto} {now : Int → Int} {P : PT} {T : TT} {Q : Option Value → Sto → Prop} {p : Int} (h0 : now 0 ≤ 10) (hp : 0 ≤ p ∧ p < now 0) (hJ : JB now p) (h9 : jf now p 9 ≤ 999) (h7 : -3000000 ≤ now 7 ∧ now 7 ≤ 3000000) (k : Q none (mst σ (stapF now p) P T)) : V M_X8_stapled 150 29 [(0, .ref 144), (1, zI p), (2, zI (useF now p))] [] 150 (mst σ now P T) Q := by
  have jj := hJ
  unfold JB at jj
  refine V_aload_n (pc := 29) e_X8_stapled_29 rfl (Or.inl ⟨_, rfl⟩) ?_
  refine V_getR (pc := 30) (q := 0) (j := 145) fx_8_7 e_X8_stapled_30 rfl rfl (by decide) rfl rfl ?_
  refine V_iconst (pc := 33) e_X8_stapled_33 ?_
  refine V_dup2 (pc := 34) e_X8_stapled_34 rfl rfl ?_
  refine Vm_now (pc := 35) e_X8_stapled_35 (by decide) ?_
  refine V_iload_n (pc := 36) e_X8_stapled_36 rfl ?_
  refine V_isub (pc := 37) e_X8_stapled_37 ?_
  refine Vm_nowS (pc := 38) e_X8_stapled_38 (by decide) ?_
  refine V_aload_n (pc := 39) e_X8_stapled_39 rfl (Or.inl ⟨_, rfl⟩) ?_
  refine V_getR (pc := 40) (q := 0) (j := 145) fx_8_7 e_X8_stapled_40 rfl rfl (by decide) rfl rfl ?_
  refine V_bipush (pc := 43) (by decide) e_X8_stapled_43 ?_
  refine V_dup2 (pc := 45) e_X8_stapled_45 rfl rfl ?_
  refine Vm_now (pc := 46) e_X8_stapled_46 (by decide) ?_
  refine V_iload_n (pc := 47) e_X8_stapled_47 rfl ?_
  refine V_iadd (pc := 48) e_X8_stapled_48 ?_
  refine Vm_nowS (pc := 49) e_X8_stapled_49 (by decide) ?_
  refine V_aload_n (pc := 50) e_X8_stapled_50 rfl (Or.inl ⟨_, rfl⟩) ?_
  refine V_getR (pc := 51) (q := 0) (j := 145) fx_8_7 e_X8_stapled_51 rfl rfl (by decide) rfl rfl ?_
  refine V_iload_n (pc := 54) e_X8_stapled_54 rfl ?_
  refine V_cS1 (pc := 55) ca_8_60 e_X8_stapled_55 (by decide) (Nat.le_of_ble_eq_true rfl) (c_X8_jobAt ?_)
  refine V_bipush (pc := 58) (by decide) e_X8_stapled_58 ?_
  refine V_iadd (pc := 60) e_X8_stapled_60 ?_
  refine V_dup2 (pc := 61) e_X8_stapled_61 rfl rfl ?_
  refine Vm_now (pc := 62) e_X8_stapled_62 (by omega) ?_
  refine V_iconst (pc := 63) e_X8_stapled_63 ?_
  refine V_iadd (pc := 64) e_X8_stapled_64 ?_
  refine Vm_nowS (pc := 65) e_X8_stapled_65 (by omega) ?_
  refine V_aload_n (pc := 66) e_X8_stapled_66 rfl (Or.inl ⟨_, rfl⟩) ?_
  refine V_iload_n (pc := 67) e_X8_stapled_67 rfl ?_
  refine V_cV1 (pc := 68) ca_8_124 e_X8_stapled_68 (by decide) (Nat.le_of_ble_eq_true rfl) (by decide) rfl (by decide) (c_X8_leaves (now := stapF0 now p) (by rw [stap0_at hp.1 (by decide) (by decide) (by decide)]; exact h0) (by rw [stap0_at hp.1 (by decide) (by decide) (by decide)]; exact hp) (stap0_J h9 hJ) (by rw [stap0_at hp.1 (by decide) (by decide) (by decide)]; exact h7) ?_)
  refine V_ret (pc := 71) (v := none) ⟨e_X8_stapled_71, rfl⟩ ?_
  exact k
theorem c_X8_stapled {σ : Sto} {now : Int → Int} {P : PT} {T : TT} {Q : Option Value → Sto → Prop} {p : Int} (h0 : now 0 ≤ 10) (hp : 0 ≤ p ∧ p < now 0) (hJ : JB now p) (h9 : jf now p 9 ≤ 999) (h7 : -3000000 ≤ now 7 ∧ now 7 ≤ 3000000) (h3 : -3000000 ≤ now 3 ∧ now 3 ≤ 3000000) (k : Q none (mst σ (stapF now p) P T)) : Con M_X8_stapled 150 150 (mst σ now P T) [.ref 144, zI p] Q := by
  refine V_entry ok_X8_stapled (Nat.le_refl _) (Nat.le_of_ble_eq_true rfl) (V_ls [(0, .ref 144), (1, zI p)] ⟨rfl, rfl, trivial⟩ ?_)
  have jj := hJ
  unfold JB at jj
  refine V_aload_n (pc := 0) e_X8_stapled_0 rfl (Or.inl ⟨_, rfl⟩) ?_
  refine V_iload_n (pc := 1) e_X8_stapled_1 rfl ?_
  refine V_cV1 (pc := 2) ca_8_118 e_X8_stapled_2 (by decide) (Nat.le_of_ble_eq_true rfl) (by decide) rfl (by decide) (c_X8_staplesOf (by assumption) ?_)
  refine V_aload_n (pc := 5) e_X8_stapled_5 rfl (Or.inl ⟨_, rfl⟩) ?_
  refine V_getR (pc := 6) (q := 0) (j := 145) fx_8_7 e_X8_stapled_6 rfl rfl (by decide) rfl rfl ?_
  refine V_iconst (pc := 9) e_X8_stapled_9 ?_
  refine Vm_now (pc := 10) e_X8_stapled_10 (by decide) ?_
  refine V_icmp_ge (pc := 11) e_X8_stapled_11 (by decide) (by omega) (by omega) (fun h11 => ?_) (fun h11 => ?_)
  · refine V_aload_n (pc := 22) e_X8_stapled_22 rfl (Or.inl ⟨_, rfl⟩) ?_
    refine V_getR (pc := 23) (q := 0) (j := 145) fx_8_7 e_X8_stapled_23 rfl rfl (by decide) rfl rfl ?_
    refine V_iconst (pc := 26) e_X8_stapled_26 ?_
    refine Vm_now (pc := 27) e_X8_stapled_27 (by decide) ?_
    refine V_istore_n (pc := 28) e_X8_stapled_28 (by decide) ?_
    exact V_lq [(0, .ref 144), (1, zI p), (2, zI (useF now p))] ⟨⟨_, rfl, rfl⟩, ⟨_, rfl, rfl⟩, ⟨_, rfl, congrArg (fun e : Int => zI e) (by unfold useF; split <;> omega)⟩, trivial⟩ (T_X8_stapled h0 hp hJ h9 h7 k)
  · refine V_aload_n (pc := 14) e_X8_stapled_14 rfl (Or.inl ⟨_, rfl⟩) ?_
    refine V_iload_n (pc := 15) e_X8_stapled_15 rfl ?_
    refine V_cV1 (pc := 16) ca_8_118 e_X8_stapled_16 (by decide) (Nat.le_of_ble_eq_true rfl) (by decide) rfl (by decide) (c_X8_staplesOf (by assumption) ?_)
    refine V_goto (pc := 19) e_X8_stapled_19 (by decide) ?_
    refine V_istore_n (pc := 28) e_X8_stapled_28 (by decide) ?_
    exact V_lq [(0, .ref 144), (1, zI p), (2, zI (useF now p))] ⟨⟨_, rfl, rfl⟩, ⟨_, rfl, rfl⟩, ⟨_, rfl, congrArg (fun e : Int => zI e) (by unfold useF; split <;> omega)⟩, trivial⟩ (T_X8_stapled h0 hp hJ h9 h7 k)
theorem L_X8_takesPaper_t {σ : Sto} {now : Int → Int} {P : PT} {T : TT} {Q : Option Value → Sto → Prop} {s q : Int} (hR : RR now) (r_s : -2147483648 ≤ s ∧ s < 2147483648) (r_q : -2147483648 ≤ q ∧ q < 2147483648) (he : ∃ t, 0 ≤ t ∧ t ≤ 3 ∧ twk now s q t) (k : V M_X8_takesPaper 150 34 [(0, .ref 144), (1, zI s), (2, zI q), (3, zI (lwt now s q))] [] 150 (mst σ now P T) Q) : ∀ n : Nat, n ≤ 3 → (∀ i : Int, 0 ≤ i → i < (n : Int) → ¬ twk now s q i) → V M_X8_takesPaper 150 2 [(0, .ref 144), (1, zI s), (2, zI q), (3, zI (n : Int))] [] 150 (mst σ now P T) Q := by
  refine loop_nat (3) (fun n hn ih => ?_)
  intro hv
  have g2 := hR.1 (25 + 3 * (n : Int) + 2) (by omega) (by omega) (by omega)
  have hx : ¬ twk now s q (n : Int) → n < 3 := fun z => by
    obtain ⟨t, t0, t3, tt⟩ := he
    rcases Int.lt_trichotomy t n with y | y | y
    · exact absurd tt (hv t t0 y)
    · exact absurd tt (y ▸ z)
    · omega
  have hz : ¬ twk now s q (n : Int) → ∀ i : Int, 0 ≤ i → i < ((n + 1 : Nat) : Int) → ¬ twk now s q i := fun z i a c => by
    by_cases y : i = (n : Int)
    · rw [y]; exact z
    · exact hv i a (by omega)
  refine V_aload_n (pc := 2) e_X8_takesPaper_2 rfl (Or.inl ⟨_, rfl⟩) ?_
  refine V_iload_n (pc := 3) e_X8_takesPaper_3 rfl ?_
  refine V_iload_n (pc := 4) e_X8_takesPaper_4 rfl ?_
  refine V_iload_n (pc := 5) e_X8_takesPaper_5 rfl ?_
  refine V_cV3 (pc := 6) ca_8_47 e_X8_takesPaper_6 (by decide) (Nat.le_of_ble_eq_true rfl) (by decide) rfl (by decide) (c_X8_isOf hR.1 (by omega) (by omega) (by omega) (fun h_isOf => ?_) (fun h_isOf => ?_))
  · refine V_if_eq (pc := 9) e_X8_takesPaper_9 (by decide) (by decide) (fun h => absurd h (by decide)) (fun _ => ?_)
    refine V_aload_n (pc := 12) e_X8_takesPaper_12 rfl (Or.inl ⟨_, rfl⟩) ?_
    refine V_getR (pc := 13) (q := 0) (j := 145) fx_8_7 e_X8_takesPaper_13 rfl rfl (by decide) rfl rfl ?_
    refine V_bipush (pc := 16) (by decide) e_X8_takesPaper_16 ?_
    refine V_iconst (pc := 18) e_X8_takesPaper_18 ?_
    refine V_iload_n (pc := 19) e_X8_takesPaper_19 rfl ?_
    refine V_imul (pc := 20) e_X8_takesPaper_20 ?_
    refine V_iadd (pc := 21) e_X8_takesPaper_21 ?_
    refine V_iconst (pc := 22) e_X8_takesPaper_22 ?_
    refine V_iadd (pc := 23) e_X8_takesPaper_23 ?_
    refine Vm_now (pc := 24) e_X8_takesPaper_24 (by omega) ?_
    refine V_if_ne (pc := 25) e_X8_takesPaper_25 (by decide) (by omega) (fun h25 => ?_) (fun h25 => ?_)
    · exact V_lq [(0, .ref 144), (1, zI s), (2, zI q), (3, zI (lwt now s q))] ⟨⟨_, rfl, rfl⟩, ⟨_, rfl, rfl⟩, ⟨_, rfl, rfl⟩, ⟨_, rfl, congrArg (fun e : Int => zI e) (by (first | exact (lwt_at (by omega) (by omega) ⟨h_isOf.1, h_isOf.2, h25⟩ hv).symm))⟩, trivial⟩ k
    · refine V_iinc (pc := 28) e_X8_takesPaper_28 rfl (by decide) ?_
      refine V_goto (pc := 31) e_X8_takesPaper_31 (by decide) ?_
      have hy : ¬ twk now s q (n : Int) := by omega
      have hw := hx hy
      exact V_lq [(0, .ref 144), (1, zI s), (2, zI q), (3, zI ((n + 1 : Nat) : Int))] ⟨⟨_, rfl, rfl⟩, ⟨_, rfl, rfl⟩, ⟨_, rfl, rfl⟩, ⟨_, rfl, rfl⟩, trivial⟩ (ih (by omega) (hz hy))
  · refine V_if_eq (pc := 9) e_X8_takesPaper_9 (by decide) (by decide) (fun _ => ?_) (fun h => absurd (by decide) h)
    refine V_iinc (pc := 28) e_X8_takesPaper_28 rfl (by decide) ?_
    refine V_goto (pc := 31) e_X8_takesPaper_31 (by decide) ?_
    have hy : ¬ twk now s q (n : Int) := by omega
    have hw := hx hy
    exact V_lq [(0, .ref 144), (1, zI s), (2, zI q), (3, zI ((n + 1 : Nat) : Int))] ⟨⟨_, rfl, rfl⟩, ⟨_, rfl, rfl⟩, ⟨_, rfl, rfl⟩, ⟨_, rfl, rfl⟩, trivial⟩ (ih (by omega) (hz hy))
theorem L_X8_takesPaper_p {σ : Sto} {now : Int → Int} {P : PT} {T : TT} {Q : Option Value → Sto → Prop} {s q : Int} (hR : RB now) (h9 : 0 ≤ now 9 ∧ now 9 ≤ 16) (r_s : -2147483648 ≤ s ∧ s < 2147483648) (r_q : -2147483648 ≤ q ∧ q < 2147483648) (k : V M_X8_takesPaper 150 117 [(0, .ref 144), (1, zI s), (2, zI q), (4, zI (ppl now s q))] [] 150 (mst σ now P T) Q) : ∀ n : Nat, n ≤ (now 9).toNat → (∀ i : Int, 0 ≤ i → i < (n : Int) → ¬ ppm now s q i) → V M_X8_takesPaper 150 65 [(0, .ref 144), (1, zI s), (2, zI q), (4, zI (n : Int))] [] 150 (mst σ now P T) Q := by
  refine loop_nat ((now 9).toNat) (fun n hn ih => ?_)
  intro hv
  have hz : ¬ ppm now s q (n : Int) → ∀ i : Int, 0 ≤ i → i < ((n + 1 : Nat) : Int) → ¬ ppm now s q i := fun z i a c => by
    by_cases y : i = (n : Int)
    · rw [y]; exact z
    · exact hv i a (by omega)
  refine V_iload (pc := 65) e_X8_takesPaper_65 rfl ?_
  refine V_aload_n (pc := 67) e_X8_takesPaper_67 rfl (Or.inl ⟨_, rfl⟩) ?_
  refine V_getR (pc := 68) (q := 0) (j := 145) fx_8_7 e_X8_takesPaper_68 rfl rfl (by decide) rfl rfl ?_
  refine V_bipush (pc := 71) (by decide) e_X8_takesPaper_71 ?_
  refine Vm_now (pc := 73) e_X8_takesPaper_73 (by decide) ?_
  refine V_icmp_ge (pc := 74) e_X8_takesPaper_74 (by decide) (by omega) (by omega) (fun h74 => ?_) (fun h74 => ?_)
  · exact V_lq [(0, .ref 144), (1, zI s), (2, zI q), (4, zI (ppl now s q))] ⟨⟨_, rfl, rfl⟩, ⟨_, rfl, rfl⟩, ⟨_, rfl, rfl⟩, ⟨_, rfl, congrArg (fun e : Int => zI e) (by (first | exact (ppl_at (by omega) (by omega) ⟨h90, h108⟩ hv).symm | exact ((ppl_no (fun i a c => hv i a (by omega))).trans (by omega)).symm))⟩, trivial⟩ k
  · have g1 := hR (37 + 3 * (n : Int)) (by omega) (by omega) (by omega)
    have g2 := hR (37 + 3 * (n : Int) + 1) (by omega) (by omega) (by omega)
    refine V_aload_n (pc := 77) e_X8_takesPaper_77 rfl (Or.inl ⟨_, rfl⟩) ?_
    refine V_getR (pc := 78) (q := 0) (j := 145) fx_8_7 e_X8_takesPaper_78 rfl rfl (by decide) rfl rfl ?_
    refine V_bipush (pc := 81) (by decide) e_X8_takesPaper_81 ?_
    refine V_iconst (pc := 83) e_X8_takesPaper_83 ?_
    refine V_iload (pc := 84) e_X8_takesPaper_84 rfl ?_
    refine V_imul (pc := 86) e_X8_takesPaper_86 ?_
    refine V_iadd (pc := 87) e_X8_takesPaper_87 ?_
    refine Vm_now (pc := 88) e_X8_takesPaper_88 (by omega) ?_
    refine V_iload_n (pc := 89) e_X8_takesPaper_89 rfl ?_
    refine V_icmp_ne (pc := 90) e_X8_takesPaper_90 (by decide) (by omega) (by omega) (fun h90 => ?_) (fun h90 => ?_)
    · refine V_iinc (pc := 111) e_X8_takesPaper_111 rfl (by decide) ?_
      refine V_goto (pc := 114) e_X8_takesPaper_114 (by decide) ?_
      exact V_lq [(0, .ref 144), (1, zI s), (2, zI q), (4, zI ((n + 1 : Nat) : Int))] ⟨⟨_, rfl, rfl⟩, ⟨_, rfl, rfl⟩, ⟨_, rfl, rfl⟩, ⟨_, rfl, rfl⟩, trivial⟩ (ih (by omega) (hz (by omega)))
    · refine V_aload_n (pc := 93) e_X8_takesPaper_93 rfl (Or.inl ⟨_, rfl⟩) ?_
      refine V_getR (pc := 94) (q := 0) (j := 145) fx_8_7 e_X8_takesPaper_94 rfl rfl (by decide) rfl rfl ?_
      refine V_bipush (pc := 97) (by decide) e_X8_takesPaper_97 ?_
      refine V_iconst (pc := 99) e_X8_takesPaper_99 ?_
      refine V_iload (pc := 100) e_X8_takesPaper_100 rfl ?_
      refine V_imul (pc := 102) e_X8_takesPaper_102 ?_
      refine V_iadd (pc := 103) e_X8_takesPaper_103 ?_
      refine V_iconst (pc := 104) e_X8_takesPaper_104 ?_
      refine V_iadd (pc := 105) e_X8_takesPaper_105 ?_
      refine Vm_now (pc := 106) e_X8_takesPaper_106 (by omega) ?_
      refine V_iload_n (pc := 107) e_X8_takesPaper_107 rfl ?_
      refine V_icmp_eq (pc := 108) e_X8_takesPaper_108 (by decide) (by omega) (by omega) (fun h108 => ?_) (fun h108 => ?_)
      · exact V_lq [(0, .ref 144), (1, zI s), (2, zI q), (4, zI (ppl now s q))] ⟨⟨_, rfl, rfl⟩, ⟨_, rfl, rfl⟩, ⟨_, rfl, rfl⟩, ⟨_, rfl, congrArg (fun e : Int => zI e) (by (first | exact (ppl_at (by omega) (by omega) ⟨h90, h108⟩ hv).symm | exact ((ppl_no (fun i a c => hv i a (by omega))).trans (by omega)).symm))⟩, trivial⟩ k
      · refine V_iinc (pc := 111) e_X8_takesPaper_111 rfl (by decide) ?_
        refine V_goto (pc := 114) e_X8_takesPaper_114 (by decide) ?_
        exact V_lq [(0, .ref 144), (1, zI s), (2, zI q), (4, zI ((n + 1 : Nat) : Int))] ⟨⟨_, rfl, rfl⟩, ⟨_, rfl, rfl⟩, ⟨_, rfl, rfl⟩, ⟨_, rfl, rfl⟩, trivial⟩ (ih (by omega) (hz (by omega)))
theorem T_X8_takesPaper_e {σ : Sto} {now : Int → Int} {P : PT} {T : TT} {Q : Option Value → Sto → Prop} {s q x : Int} (hx : 0 ≤ x ∧ x < 16) (k : Q none (mst σ (inc now (37 + 3 * x + 2)) P T)) : V M_X8_takesPaper 150 183 [(0, .ref 144), (1, zI s), (2, zI q), (4, zI x)] [] 150 (mst σ now P T) Q := by
  refine V_aload_n (pc := 183) e_X8_takesPaper_183 rfl (Or.inl ⟨_, rfl⟩) ?_
  refine V_getR (pc := 184) (q := 0) (j := 145) fx_8_7 e_X8_takesPaper_184 rfl rfl (by decide) rfl rfl ?_
  refine V_bipush (pc := 187) (by decide) e_X8_takesPaper_187 ?_
  refine V_iconst (pc := 189) e_X8_takesPaper_189 ?_
  refine V_iload (pc := 190) e_X8_takesPaper_190 rfl ?_
  refine V_imul (pc := 192) e_X8_takesPaper_192 ?_
  refine V_iadd (pc := 193) e_X8_takesPaper_193 ?_
  refine V_iconst (pc := 194) e_X8_takesPaper_194 ?_
  refine V_iadd (pc := 195) e_X8_takesPaper_195 ?_
  refine V_dup2 (pc := 196) e_X8_takesPaper_196 rfl rfl ?_
  refine Vm_now (pc := 197) e_X8_takesPaper_197 (by omega) ?_
  refine V_iconst (pc := 198) e_X8_takesPaper_198 ?_
  refine V_iadd (pc := 199) e_X8_takesPaper_199 ?_
  refine Vm_nowS (pc := 200) e_X8_takesPaper_200 (by omega) ?_
  refine V_ret (pc := 201) (v := none) ⟨e_X8_takesPaper_201, rfl⟩ ?_
  exact k
theorem T_X8_takesPaper_d {σ : Sto} {now : Int → Int} {P : PT} {T : TT} {Q : Option Value → Sto → Prop} {s q : Int} (h9 : -3000000 ≤ now 9 ∧ now 9 ≤ 3000000) (hx : 0 ≤ ppl now s q ∧ ppl now s q < 16) (k : Q none (mst σ (inc (tk1 now s q) (37 + 3 * ppl now s q + 2)) P T)) : V M_X8_takesPaper 150 117 [(0, .ref 144), (1, zI s), (2, zI q), (4, zI (ppl now s q))] [] 150 (mst σ now P T) Q := by
  refine V_iload (pc := 117) e_X8_takesPaper_117 rfl ?_
  refine V_aload_n (pc := 119) e_X8_takesPaper_119 rfl (Or.inl ⟨_, rfl⟩) ?_
  refine V_getR (pc := 120) (q := 0) (j := 145) fx_8_7 e_X8_takesPaper_120 rfl rfl (by decide) rfl rfl ?_
  refine V_bipush (pc := 123) (by decide) e_X8_takesPaper_123 ?_
  refine Vm_now (pc := 125) e_X8_takesPaper_125 (by decide) ?_
  refine V_icmp_ne (pc := 126) e_X8_takesPaper_126 (by decide) (by omega) (by omega) (fun h126 => ?_) (fun h126 => ?_)
  · exact V_lq [(0, .ref 144), (1, zI s), (2, zI q), (4, zI (ppl now s q))] ⟨⟨_, rfl, rfl⟩, ⟨_, rfl, rfl⟩, ⟨_, rfl, rfl⟩, ⟨_, rfl, rfl⟩, trivial⟩ (T_X8_takesPaper_e hx (by first | (unfold tk1 at k; rw [if_pos h126] at k; exact k) | (unfold tk1 at k; rw [if_neg h126] at k; exact k)))
  · refine V_aload_n (pc := 129) e_X8_takesPaper_129 rfl (Or.inl ⟨_, rfl⟩) ?_
    refine V_getR (pc := 130) (q := 0) (j := 145) fx_8_7 e_X8_takesPaper_130 rfl rfl (by decide) rfl rfl ?_
    refine V_bipush (pc := 133) (by decide) e_X8_takesPaper_133 ?_
    refine V_iconst (pc := 135) e_X8_takesPaper_135 ?_
    refine V_iload (pc := 136) e_X8_takesPaper_136 rfl ?_
    refine V_imul (pc := 138) e_X8_takesPaper_138 ?_
    refine V_iadd (pc := 139) e_X8_takesPaper_139 ?_
    refine V_iload_n (pc := 140) e_X8_takesPaper_140 rfl ?_
    refine Vm_nowS (pc := 141) e_X8_takesPaper_141 (by omega) ?_
    refine V_aload_n (pc := 142) e_X8_takesPaper_142 rfl (Or.inl ⟨_, rfl⟩) ?_
    refine V_getR (pc := 143) (q := 0) (j := 145) fx_8_7 e_X8_takesPaper_143 rfl rfl (by decide) rfl rfl ?_
    refine V_bipush (pc := 146) (by decide) e_X8_takesPaper_146 ?_
    refine V_iconst (pc := 148) e_X8_takesPaper_148 ?_
    refine V_iload (pc := 149) e_X8_takesPaper_149 rfl ?_
    refine V_imul (pc := 151) e_X8_takesPaper_151 ?_
    refine V_iadd (pc := 152) e_X8_takesPaper_152 ?_
    refine V_iconst (pc := 153) e_X8_takesPaper_153 ?_
    refine V_iadd (pc := 154) e_X8_takesPaper_154 ?_
    refine V_iload_n (pc := 155) e_X8_takesPaper_155 rfl ?_
    refine Vm_nowS (pc := 156) e_X8_takesPaper_156 (by omega) ?_
    refine V_aload_n (pc := 157) e_X8_takesPaper_157 rfl (Or.inl ⟨_, rfl⟩) ?_
    refine V_getR (pc := 158) (q := 0) (j := 145) fx_8_7 e_X8_takesPaper_158 rfl rfl (by decide) rfl rfl ?_
    refine V_bipush (pc := 161) (by decide) e_X8_takesPaper_161 ?_
    refine V_iconst (pc := 163) e_X8_takesPaper_163 ?_
    refine V_iload (pc := 164) e_X8_takesPaper_164 rfl ?_
    refine V_imul (pc := 166) e_X8_takesPaper_166 ?_
    refine V_iadd (pc := 167) e_X8_takesPaper_167 ?_
    refine V_iconst (pc := 168) e_X8_takesPaper_168 ?_
    refine V_iadd (pc := 169) e_X8_takesPaper_169 ?_
    refine V_iconst (pc := 170) e_X8_takesPaper_170 ?_
    refine Vm_nowS (pc := 171) e_X8_takesPaper_171 (by omega) ?_
    refine V_aload_n (pc := 172) e_X8_takesPaper_172 rfl (Or.inl ⟨_, rfl⟩) ?_
    refine V_getR (pc := 173) (q := 0) (j := 145) fx_8_7 e_X8_takesPaper_173 rfl rfl (by decide) rfl rfl ?_
    refine V_bipush (pc := 176) (by decide) e_X8_takesPaper_176 ?_
    refine V_dup2 (pc := 178) e_X8_takesPaper_178 rfl rfl ?_
    refine Vm_now (pc := 179) e_X8_takesPaper_179 (by decide) ?_
    refine V_iconst (pc := 180) e_X8_takesPaper_180 ?_
    refine V_iadd (pc := 181) e_X8_takesPaper_181 ?_
    refine Vm_nowS (pc := 182) e_X8_takesPaper_182 (by decide) ?_
    exact V_lq [(0, .ref 144), (1, zI s), (2, zI q), (4, zI (ppl now s q))] ⟨⟨_, rfl, rfl⟩, ⟨_, rfl, rfl⟩, ⟨_, rfl, rfl⟩, ⟨_, rfl, rfl⟩, trivial⟩ (T_X8_takesPaper_e hx (by first | (unfold tk1 at k; rw [if_pos h126] at k; exact k) | (unfold tk1 at k; rw [if_neg h126] at k; exact k)))
theorem tk0_at {r : Int → Int} {s q k : Int} (hl : 0 ≤ lwt r s q ∧ lwt r s q ≤ 3) (hk : k < 16 ∨ (16 < k ∧ k < 25) ∨ 37 ≤ k) : tk0 r s q k = r k := by
  unfold tk0 inc sbn
  rw [up1_ne (by omega), up1_ne (by omega)]
theorem RB_up1 {r : Int → Int} {k x : Int} (hR : RB r) (h : -3000000 ≤ x ∧ x ≤ 3000000 ∨ (16 ≤ k ∧ k < 24) ∨ (37 ≤ k ∧ k < 85 ∧ (k - 37) % 3 = 2)) : RB (up1 r k x) := fun j a c d => by
  by_cases e : j = k
  · rw [e, up1_at]; omega
  · rw [up1_ne e]; exact hR j a c d
theorem lwt_sp {r : Int → Int} {s q : Int} (he : ∃ t, 0 ≤ t ∧ t ≤ 3 ∧ twk r s q t) : 0 ≤ lwt r s q ∧ lwt r s q ≤ 3 ∧ twk r s q (lwt r s q) ∧ ∀ i, 0 ≤ i → i < lwt r s q → ¬ twk r s q i := by
  classical
  have h3 : ∃ t, 0 ≤ t ∧ t ≤ 3 ∧ twk r s q t ∧ ∀ i, 0 ≤ i → i < t → ¬ twk r s q i := by
    apply Classical.byContradiction
    intro h
    have h3 : ∀ n : Nat, ∀ i : Int, 0 ≤ i → i ≤ 3 → i < n → ¬ twk r s q i := by
      intro n
      induction n with
      | zero => exact fun i a _ c => absurd c (by omega)
      | succ n ih => exact fun i a c _ d => h ⟨i, a, c, d, fun k e f => ih k e (by omega) (by omega)⟩
    obtain ⟨t, a, c, d⟩ := he
    exact h3 (t + 1).toNat t a c (by omega) d
  obtain ⟨t, a, c, d, f⟩ := h3
  rw [lwt_at a c d f]
  exact ⟨a, c, d, f⟩
/-- what a sheet needs to be taken -/
def tkO (r : Int → Int) (s q : Int) : Prop := RR r ∧ (∃ t, 0 ≤ t ∧ t ≤ 3 ∧ twk r s q t) ∧ (-2999999 ≤ r (25 + 3 * lwt r s q + 2)) ∧ ppl (tk0 r s q) s q < 16
theorem tkO_0 {r : Int → Int} {s q : Int} (h : tkO r s q) : (0 ≤ lwt r s q ∧ lwt r s q ≤ 3) ∧ RB (tk0 r s q) ∧ tk0 r s q 9 = r 9 ∧ (0 ≤ ppl (tk0 r s q) s q ∧ ppl (tk0 r s q) s q < 16) := by
  obtain ⟨hR, he, h2, h3⟩ := h
  obtain ⟨a, c, d, f⟩ := lwt_sp he
  have e := tk0_at (r := r) (s := s) (q := q) (k := 9) ⟨a, c⟩ (by decide)
  have h9 := hR.2.2.1
  have g := hR.1 (25 + 3 * lwt r s q + 2) (by omega) (by omega) (by omega)
  refine ⟨⟨a, c⟩, RB_up1 (RB_up1 hR.1 (by omega)) (Or.inr (by decide)), e, ?_, h3⟩
  rcases ppl_sp (tk0 r s q) s q (by omega) with z | z <;> omega
theorem T_X8_takesPaper_c {σ : Sto} {now : Int → Int} {P : PT} {T : TT} {Q : Option Value → Sto → Prop} {s q : Int} (hO : tkO now s q) (r_s : -2147483648 ≤ s ∧ s < 2147483648) (r_q : -2147483648 ≤ q ∧ q < 2147483648) (k : Q none (mst σ (tkF now s q) P T)) : V M_X8_takesPaper 150 34 [(0, .ref 144), (1, zI s), (2, zI q), (3, zI (lwt now s q))] [] 150 (mst σ now P T) Q := by
  obtain ⟨z1, z2, z3, z4⟩ := tkO_0 hO
  have h9 := hO.1.2.2.1
  refine V_aload_n (pc := 34) e_X8_takesPaper_34 rfl (Or.inl ⟨_, rfl⟩) ?_
  refine V_getR (pc := 35) (q := 0) (j := 145) fx_8_7 e_X8_takesPaper_35 rfl rfl (by decide) rfl rfl ?_
  refine V_bipush (pc := 38) (by decide) e_X8_takesPaper_38 ?_
  refine V_iconst (pc := 40) e_X8_takesPaper_40 ?_
  refine V_iload_n (pc := 41) e_X8_takesPaper_41 rfl ?_
  refine V_imul (pc := 42) e_X8_takesPaper_42 ?_
  refine V_iadd (pc := 43) e_X8_takesPaper_43 ?_
  refine V_iconst (pc := 44) e_X8_takesPaper_44 ?_
  refine V_iadd (pc := 45) e_X8_takesPaper_45 ?_
  refine V_dup2 (pc := 46) e_X8_takesPaper_46 rfl rfl ?_
  refine Vm_now (pc := 47) e_X8_takesPaper_47 (by omega) ?_
  refine V_iconst (pc := 48) e_X8_takesPaper_48 ?_
  refine V_isub (pc := 49) e_X8_takesPaper_49 ?_
  refine Vm_nowS (pc := 50) e_X8_takesPaper_50 (by omega) ?_
  refine V_aload_n (pc := 51) e_X8_takesPaper_51 rfl (Or.inl ⟨_, rfl⟩) ?_
  refine V_getR (pc := 52) (q := 0) (j := 145) fx_8_7 e_X8_takesPaper_52 rfl rfl (by decide) rfl rfl ?_
  refine V_bipush (pc := 55) (by decide) e_X8_takesPaper_55 ?_
  refine V_dup2 (pc := 57) e_X8_takesPaper_57 rfl rfl ?_
  refine Vm_now (pc := 58) e_X8_takesPaper_58 (by decide) ?_
  refine V_iconst (pc := 59) e_X8_takesPaper_59 ?_
  refine V_iadd (pc := 60) e_X8_takesPaper_60 ?_
  refine Vm_nowS (pc := 61) e_X8_takesPaper_61 (by decide) ?_
  refine V_iconst (pc := 62) e_X8_takesPaper_62 ?_
  refine V_istore (pc := 63) e_X8_takesPaper_63 (by decide) ?_
  exact V_lq [(0, .ref 144), (1, zI s), (2, zI q), (4, zI ((0 : Nat) : Int))] ⟨⟨_, rfl, rfl⟩, ⟨_, rfl, rfl⟩, ⟨_, rfl, rfl⟩, ⟨_, rfl, rfl⟩, trivial⟩ (L_X8_takesPaper_p (now := tk0 now s q) z2 (by omega) r_s r_q (T_X8_takesPaper_d (now := tk0 now s q) (by omega) z4 k) 0 (by omega) (fun i a c => absurd c (by omega)))
theorem c_X8_takesPaper {σ : Sto} {now : Int → Int} {P : PT} {T : TT} {Q : Option Value → Sto → Prop} {s q : Int} (hO : tkO now s q) (r_s : -2147483648 ≤ s ∧ s < 2147483648) (r_q : -2147483648 ≤ q ∧ q < 2147483648) (k : Q none (mst σ (tkF now s q) P T)) : Con M_X8_takesPaper 150 150 (mst σ now P T) [.ref 144, zI s, zI q] Q := by
  refine V_entry ok_X8_takesPaper (Nat.le_refl _) (Nat.le_of_ble_eq_true rfl) (V_ls [(0, .ref 144), (1, zI s), (2, zI q)] ⟨rfl, rfl, rfl, trivial⟩ ?_)
  refine V_iconst (pc := 0) e_X8_takesPaper_0 ?_
  refine V_istore_n (pc := 1) e_X8_takesPaper_1 (by decide) ?_
  exact V_lq [(0, .ref 144), (1, zI s), (2, zI q), (3, zI ((0 : Nat) : Int))] ⟨⟨_, rfl, rfl⟩, ⟨_, rfl, rfl⟩, ⟨_, rfl, rfl⟩, ⟨_, rfl, rfl⟩, trivial⟩ (L_X8_takesPaper_t hO.1 r_s r_q hO.2.1 (T_X8_takesPaper_c hO r_s r_q k) 0 (by omega) (fun i a c => absurd c (by omega)))
