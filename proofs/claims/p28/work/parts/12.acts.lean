/-! the model's changes -/
def cpr (f g : Int → Int) (a : Int) (n : Nat) : Int → Int := fun k => if 0 ≤ k ∧ k < (n : Int) then f (a + k) else g k
def cpw (f g : Int → Int) (a : Int) (n : Nat) : Int → Int := fun k => if a ≤ k ∧ k < a + (n : Int) then f (k - a) else g k
theorem cpr_0 (f g : Int → Int) (a : Int) : cpr f g a 0 = g := by
  funext k
  exact if_neg (by omega)
theorem cpw_0 (f g : Int → Int) (a : Int) : cpw f g a 0 = g := by
  funext k
  exact if_neg (by omega)
theorem cpr_s (f g : Int → Int) (a : Int) (n : Nat) : up1 (cpr f g a n) (n : Int) (f (a + (n : Int))) = cpr f g a (n + 1) := by
  funext k
  unfold up1 cpr
  by_cases h : k = (n : Int)
  · rw [if_pos h, if_pos (by omega), h]
  · rw [if_neg h]
    by_cases h2 : 0 ≤ k ∧ k < (n : Int)
    · rw [if_pos h2, if_pos (by omega)]
    · rw [if_neg h2, if_neg (by omega)]
theorem cpw_s (f g : Int → Int) (a : Int) (n : Nat) : up1 (cpw f g a n) (a + (n : Int)) (f (n : Int)) = cpw f g a (n + 1) := by
  funext k
  unfold up1 cpw
  by_cases h : k = a + (n : Int)
  · rw [if_pos h, if_pos (by omega), h, show a + (n : Int) - a = (n : Int) by omega]
  · rw [if_neg h]
    by_cases h2 : a ≤ k ∧ k < a + (n : Int)
    · rw [if_pos h2, if_pos (by omega)]
    · rw [if_neg h2, if_neg (by omega)]
/-- the past, one row on -/
def shp (f : Int → Int) (n : Nat) : Int → Int := fun k => if 0 ≤ k ∧ k < (n : Int) then f (k + 185) else f k
theorem shp_s (f : Int → Int) (n : Nat) : up1 (shp f n) (n : Int) (shp f n ((n : Int) + 185)) = shp f (n + 1) := by
  have e : shp f n ((n : Int) + 185) = f ((n : Int) + 185) := if_neg (by omega)
  rw [e]
  funext k
  unfold up1 shp
  by_cases h : k = (n : Int)
  · rw [if_pos h, if_pos (by omega), h]
  · rw [if_neg h]
    by_cases h2 : 0 ≤ k ∧ k < (n : Int)
    · rw [if_pos h2, if_pos (by omega)]
    · rw [if_neg h2, if_neg (by omega)]
/-- the jobs behind a place, one row on -/
def sh10 (r : Int → Int) (lo n : Int) : Int → Int := fun k => if lo ≤ k ∧ k < n then r (k + 10) else r k
theorem sh10_0 (r : Int → Int) (lo : Int) : sh10 r lo lo = r := by
  funext k
  exact if_neg (by omega)
theorem sh10_s (r : Int → Int) (lo n : Int) (h0 : lo ≤ n) : up1 (sh10 r lo n) n (sh10 r lo n (n + 10)) = sh10 r lo (n + 1) := by
  have e : sh10 r lo n (n + 10) = r (n + 10) := if_neg (by omega)
  rw [e]
  funext k
  unfold up1 sh10
  by_cases h : k = n
  · rw [if_pos h, if_pos (by omega), h]
  · rw [if_neg h]
    by_cases h2 : lo ≤ k ∧ k < n
    · rw [if_pos h2, if_pos (by omega)]
    · rw [if_neg h2, if_neg (by omega)]
def inc (r : Int → Int) (k : Int) : Int → Int := up1 r k (r k + 1)
def adn (r : Int → Int) (k v : Int) : Int → Int := up1 r k (r k + v)
def sbn (r : Int → Int) (k v : Int) : Int → Int := up1 r k (r k - v)
/-- the past and how many states it holds, behind a record -/
def recA (past : Int → Int) (sv : Int) : Int → Int := if sv = 4 then shp past 555 else past
def recN (sv : Int) : Int := if sv = 4 then 3 else sv
def recP (now past : Int → Int) (sv : Int) : Int → Int := cpw now (recA past sv) (185 * recN sv) 185
def recS (sv : Int) : Int := recN sv + 1
def comesF (r : Int → Int) (pg cp sz kd hw : Int) : Int → Int :=
  inc (inc (up1 (up1 (up1 (up1 (up1 (up1 (up1 (up1 (up1 (up1 r (85 + 10 * r 0 + 0) (r 1)) (85 + 10 * r 0 + 1) pg) (85 + 10 * r 0 + 2) cp) (85 + 10 * r 0 + 3) sz) (85 + 10 * r 0 + 4) kd) (85 + 10 * r 0 + 5) hw) (85 + 10 * r 0 + 6) 0) (85 + 10 * r 0 + (6 + 1)) 0) (85 + 10 * r 0 + (6 + 1 + 1)) 0) (85 + 10 * r 0 + (6 + 1 + 1 + 1)) 0) 0) 1
def goesF (r : Int → Int) (p : Int) : Int → Int := sh10 (sbn r 0 1) (85 + 10 * p) (85 + 10 * (r 0 - 1))
def endsF (r : Int → Int) : Int → Int := up1 (up1 (up1 r 4 0) 5 0) 6 (-4)
def stayF (r : Int → Int) (j : Int) : Int → Int := up1 r 7 (if r 7 = j then -4 else r 7)
def givF (r : Int → Int) (j : Int) : Int → Int := stayF (if r 6 = j then endsF (adn r 18 (if r 5 = 1 then 1 else 0)) else r) j
abbrev donF (r : Int → Int) (p : Int) : Prop := jf r p 8 = als r p ∧ (jf r p 5 / 4 = 0 ∨ jf r p 9 = jf r p 2)
def leavF (r : Int → Int) (p : Int) : Int → Int := if donF r p then inc (goesF (stayF r (jf r p 0)) p) 21 else r
def useF (r : Int → Int) (p : Int) : Int := if jf r p 5 / 4 < r 3 then jf r p 5 / 4 else r 3
def stapF0 (r : Int → Int) (p : Int) : Int → Int := inc (adn (sbn r 3 (useF r p)) 20 (useF r p)) (85 + 10 * p + 9)
def stapF (r : Int → Int) (p : Int) : Int → Int := leavF (stapF0 r p) p
theorem L_X8_records_b {σ : Sto} {now past aside : Int → Int} {sv rf : Int} {T : TT} {Q : Option Value → Sto → Prop} (hs : 0 ≤ sv ∧ sv ≤ 3) (k : Q none (mst σ now (cpw now past (185 * sv) 185, aside, sv + 1, rf) T)) : ∀ n : Nat, n ≤ 185 → V M_X8_records 150 51 [(0, .ref 144), (1, zI (n : Int))] [] 150 (mst σ now (cpw now past (185 * sv) n, aside, sv, rf) T) Q := by
  refine loop_nat (185) (fun n hn ih => ?_)
  refine V_iload_n (pc := 51) e_X8_records_51 rfl ?_
  refine V_sipush (pc := 52) (by decide) e_X8_records_52 ?_
  refine V_icmp_ge (pc := 55) e_X8_records_55 (by decide) (by omega) (by decide) (fun h55 => ?_) (fun h55 => ?_)
  · refine V_aload_n (pc := 85) e_X8_records_85 rfl (Or.inl ⟨_, rfl⟩) ?_
    refine V_dup (pc := 86) e_X8_records_86 rfl ?_
    refine Vm_saved (pc := 87) fx_8_29 e_X8_records_87 ?_
    refine V_iconst (pc := 90) e_X8_records_90 ?_
    refine V_iadd (pc := 91) e_X8_records_91 ?_
    refine Vm_psaved (pc := 92) fx_8_29 e_X8_records_92 ?_
    refine V_ret (pc := 95) (v := none) ⟨e_X8_records_95, rfl⟩ ?_
    exact Qn k (by rw [show n = 185 by omega])
  · refine V_aload_n (pc := 58) e_X8_records_58 rfl (Or.inl ⟨_, rfl⟩) ?_
    refine V_getR (pc := 59) (q := 1) (j := 146) fx_8_13 e_X8_records_59 rfl rfl (by decide) rfl rfl ?_
    refine V_sipush (pc := 62) (by decide) e_X8_records_62 ?_
    refine V_aload_n (pc := 65) e_X8_records_65 rfl (Or.inl ⟨_, rfl⟩) ?_
    refine Vm_saved (pc := 66) fx_8_29 e_X8_records_66 ?_
    refine V_imul (pc := 69) e_X8_records_69 ?_
    refine V_iload_n (pc := 70) e_X8_records_70 rfl ?_
    refine V_iadd (pc := 71) e_X8_records_71 ?_
    refine V_aload_n (pc := 72) e_X8_records_72 rfl (Or.inl ⟨_, rfl⟩) ?_
    refine V_getR (pc := 73) (q := 0) (j := 145) fx_8_7 e_X8_records_73 rfl rfl (by decide) rfl rfl ?_
    refine V_iload_n (pc := 76) e_X8_records_76 rfl ?_
    refine Vm_now (pc := 77) e_X8_records_77 (by omega) ?_
    refine Vm_pastS (pc := 78) e_X8_records_78 (by omega) ?_
    refine V_iinc (pc := 79) e_X8_records_79 rfl (by decide) ?_
    refine V_goto (pc := 82) e_X8_records_82 (by decide) ?_
    rw [cpw_s]
    exact V_lq [(0, .ref 144), (1, zI ((n + 1 : Nat) : Int))] ⟨⟨_, rfl, rfl⟩, ⟨_, rfl, rfl⟩, trivial⟩ (ih (by omega))
theorem L_X8_records_a {σ : Sto} {now past aside : Int → Int} {rf : Int} {T : TT} {Q : Option Value → Sto → Prop}  (k : Q none (mst σ now (cpw now (shp past 555) (185 * 3) 185, aside, 3 + 1, rf) T)) : ∀ n : Nat, n ≤ 555 → V M_X8_records 150 10 [(0, .ref 144), (1, zI (n : Int))] [] 150 (mst σ now (shp past n, aside, 4, rf) T) Q := by
  refine loop_nat (555) (fun n hn ih => ?_)
  refine V_iload_n (pc := 10) e_X8_records_10 rfl ?_
  refine V_sipush (pc := 11) (by decide) e_X8_records_11 ?_
  refine V_icmp_ge (pc := 14) e_X8_records_14 (by decide) (by omega) (by decide) (fun h14 => ?_) (fun h14 => ?_)
  · refine V_aload_n (pc := 39) e_X8_records_39 rfl (Or.inl ⟨_, rfl⟩) ?_
    refine V_dup (pc := 40) e_X8_records_40 rfl ?_
    refine Vm_saved (pc := 41) fx_8_29 e_X8_records_41 ?_
    refine V_iconst (pc := 44) e_X8_records_44 ?_
    refine V_isub (pc := 45) e_X8_records_45 ?_
    refine Vm_psaved (pc := 46) fx_8_29 e_X8_records_46 ?_
    refine V_iconst (pc := 49) e_X8_records_49 ?_
    refine V_istore_n (pc := 50) e_X8_records_50 (by decide) ?_
    obtain rfl : n = 555 := by omega
    exact V_lq [(0, .ref 144), (1, zI ((0 : Nat) : Int))] ⟨⟨_, rfl, rfl⟩, ⟨_, rfl, rfl⟩, trivial⟩ (V_sq (by rw [cpw_0]; rfl) (L_X8_records_b (past := shp past 555) (sv := 3) (by omega) k 0 (by omega)))
  · refine V_aload_n (pc := 17) e_X8_records_17 rfl (Or.inl ⟨_, rfl⟩) ?_
    refine V_getR (pc := 18) (q := 1) (j := 146) fx_8_13 e_X8_records_18 rfl rfl (by decide) rfl rfl ?_
    refine V_iload_n (pc := 21) e_X8_records_21 rfl ?_
    refine V_aload_n (pc := 22) e_X8_records_22 rfl (Or.inl ⟨_, rfl⟩) ?_
    refine V_getR (pc := 23) (q := 1) (j := 146) fx_8_13 e_X8_records_23 rfl rfl (by decide) rfl rfl ?_
    refine V_iload_n (pc := 26) e_X8_records_26 rfl ?_
    refine V_sipush (pc := 27) (by decide) e_X8_records_27 ?_
    refine V_iadd (pc := 30) e_X8_records_30 ?_
    refine Vm_past (pc := 31) e_X8_records_31 (by omega) ?_
    refine Vm_pastS (pc := 32) e_X8_records_32 (by omega) ?_
    refine V_iinc (pc := 33) e_X8_records_33 rfl (by decide) ?_
    refine V_goto (pc := 36) e_X8_records_36 (by decide) ?_
    rw [shp_s]
    exact V_lq [(0, .ref 144), (1, zI ((n + 1 : Nat) : Int))] ⟨⟨_, rfl, rfl⟩, ⟨_, rfl, rfl⟩, trivial⟩ (ih (by omega))
theorem c_X8_records {σ : Sto} {now past aside : Int → Int} {sv rf : Int} {T : TT} {Q : Option Value → Sto → Prop} (hs : 0 ≤ sv ∧ sv ≤ 4) (k : Q none (mst σ now (recP now past sv, aside, recS sv, rf) T)) : Con M_X8_records 150 150 (mst σ now (past, aside, sv, rf) T) [.ref 144] Q := by
  refine V_entry ok_X8_records (Nat.le_refl _) (Nat.le_of_ble_eq_true rfl) (V_ls [(0, .ref 144)] ⟨rfl, trivial⟩ ?_)
  refine V_aload_n (pc := 0) e_X8_records_0 rfl (Or.inl ⟨_, rfl⟩) ?_
  refine Vm_saved (pc := 1) fx_8_29 e_X8_records_1 ?_
  refine V_iconst (pc := 4) e_X8_records_4 ?_
  refine V_icmp_ne (pc := 5) e_X8_records_5 (by decide) (by omega) (by decide) (fun h5 => ?_) (fun h5 => ?_)
  · refine V_iconst (pc := 49) e_X8_records_49 ?_
    refine V_istore_n (pc := 50) e_X8_records_50 (by decide) ?_
    exact V_lq [(0, .ref 144), (1, zI ((0 : Nat) : Int))] ⟨⟨_, rfl, rfl⟩, ⟨_, rfl, rfl⟩, trivial⟩ (V_sq (by rw [cpw_0]) (L_X8_records_b (by omega) (by unfold recP recA recS recN at k; rw [if_neg h5, if_neg h5] at k; exact k) 0 (by omega)))
  · refine V_iconst (pc := 8) e_X8_records_8 ?_
    refine V_istore_n (pc := 9) e_X8_records_9 (by decide) ?_
    subst h5
    exact V_lq [(0, .ref 144), (1, zI ((0 : Nat) : Int))] ⟨⟨_, rfl, rfl⟩, ⟨_, rfl, rfl⟩, trivial⟩ (V_sq (by rw [show shp past 0 = past from funext fun q => if_neg (by omega)]) (L_X8_records_a k 0 (by omega)))
theorem L_X8_undo {σ : Sto} {now past aside : Int → Int} {sv rf : Int} {T : TT} {Q : Option Value → Sto → Prop} (hs : 0 ≤ sv ∧ sv ≤ 3) (k : Q (some (zI sv)) (mst σ (cpr past now (185 * sv) 185) (past, aside, sv, rf) T)) : ∀ n : Nat, n ≤ 185 → V M_X8_undo 150 22 [(0, .ref 144), (1, zI (n : Int))] [] 150 (mst σ (cpr past now (185 * sv) n) (past, aside, sv, rf) T) Q := by
  refine loop_nat (185) (fun n hn ih => ?_)
  refine V_iload_n (pc := 22) e_X8_undo_22 rfl ?_
  refine V_sipush (pc := 23) (by decide) e_X8_undo_23 ?_
  refine V_icmp_ge (pc := 26) e_X8_undo_26 (by decide) (by omega) (by decide) (fun h26 => ?_) (fun h26 => ?_)
  · refine V_aload_n (pc := 56) e_X8_undo_56 rfl (Or.inl ⟨_, rfl⟩) ?_
    refine Vm_saved (pc := 57) fx_8_29 e_X8_undo_57 ?_
    refine V_ret (pc := 60) (v := some (zI _)) ⟨e_X8_undo_60, _, rfl, rfl⟩ ?_
    exact Qv k rfl (by rw [show n = 185 by omega])
  · refine V_aload_n (pc := 29) e_X8_undo_29 rfl (Or.inl ⟨_, rfl⟩) ?_
    refine V_getR (pc := 30) (q := 0) (j := 145) fx_8_7 e_X8_undo_30 rfl rfl (by decide) rfl rfl ?_
    refine V_iload_n (pc := 33) e_X8_undo_33 rfl ?_
    refine V_aload_n (pc := 34) e_X8_undo_34 rfl (Or.inl ⟨_, rfl⟩) ?_
    refine V_getR (pc := 35) (q := 1) (j := 146) fx_8_13 e_X8_undo_35 rfl rfl (by decide) rfl rfl ?_
    refine V_sipush (pc := 38) (by decide) e_X8_undo_38 ?_
    refine V_aload_n (pc := 41) e_X8_undo_41 rfl (Or.inl ⟨_, rfl⟩) ?_
    refine Vm_saved (pc := 42) fx_8_29 e_X8_undo_42 ?_
    refine V_imul (pc := 45) e_X8_undo_45 ?_
    refine V_iload_n (pc := 46) e_X8_undo_46 rfl ?_
    refine V_iadd (pc := 47) e_X8_undo_47 ?_
    refine Vm_past (pc := 48) e_X8_undo_48 (by omega) ?_
    refine Vm_nowS (pc := 49) e_X8_undo_49 (by omega) ?_
    refine V_iinc (pc := 50) e_X8_undo_50 rfl (by decide) ?_
    refine V_goto (pc := 53) e_X8_undo_53 (by decide) ?_
    rw [cpr_s]
    exact V_lq [(0, .ref 144), (1, zI ((n + 1 : Nat) : Int))] ⟨⟨_, rfl, rfl⟩, ⟨_, rfl, rfl⟩, trivial⟩ (ih (by omega))
theorem c_X8_undo {σ : Sto} {now past aside : Int → Int} {sv rf : Int} {T : TT} {Q : Option Value → Sto → Prop} (hs : 0 ≤ sv ∧ sv ≤ 4) (k1 : sv = 0 → Q (some (zI (-2))) (mst σ now (past, aside, sv, rf) T)) (k : 0 < sv → Q (some (zI (sv - 1))) (mst σ (cpr past now (185 * (sv - 1)) 185) (past, aside, sv - 1, rf) T)) : Con M_X8_undo 150 150 (mst σ now (past, aside, sv, rf) T) [.ref 144] Q := by
  refine V_entry ok_X8_undo (Nat.le_refl _) (Nat.le_of_ble_eq_true rfl) (V_ls [(0, .ref 144)] ⟨rfl, trivial⟩ ?_)
  refine V_aload_n (pc := 0) e_X8_undo_0 rfl (Or.inl ⟨_, rfl⟩) ?_
  refine Vm_saved (pc := 1) fx_8_29 e_X8_undo_1 ?_
  refine V_if_ne (pc := 4) e_X8_undo_4 (by decide) (by omega) (fun h4 => ?_) (fun h4 => ?_)
  · refine V_aload_n (pc := 10) e_X8_undo_10 rfl (Or.inl ⟨_, rfl⟩) ?_
    refine V_dup (pc := 11) e_X8_undo_11 rfl ?_
    refine Vm_saved (pc := 12) fx_8_29 e_X8_undo_12 ?_
    refine V_iconst (pc := 15) e_X8_undo_15 ?_
    refine V_isub (pc := 16) e_X8_undo_16 ?_
    refine Vm_psaved (pc := 17) fx_8_29 e_X8_undo_17 ?_
    refine V_iconst (pc := 20) e_X8_undo_20 ?_
    refine V_istore_n (pc := 21) e_X8_undo_21 (by decide) ?_
    exact V_lq [(0, .ref 144), (1, zI ((0 : Nat) : Int))] ⟨⟨_, rfl, rfl⟩, ⟨_, rfl, rfl⟩, trivial⟩ (V_sq (by rw [cpr_0]) (L_X8_undo (by omega) (k (by omega)) 0 (by omega)))
  · refine V_bipush (pc := 7) (by decide) e_X8_undo_7 ?_
    refine V_ret (pc := 9) (v := some (zI _)) ⟨e_X8_undo_9, _, rfl, rfl⟩ ?_
    exact k1 (by omega)
theorem L_X8_keeps {σ : Sto} {now past aside : Int → Int} {sv rf : Int} {T : TT} {Q : Option Value → Sto → Prop}  (k : Q none (mst σ now (past, cpr now aside 0 185, sv, rf) T)) : ∀ n : Nat, n ≤ 185 → V M_X8_keeps 150 2 [(0, .ref 144), (1, zI (n : Int))] [] 150 (mst σ now (past, cpr now aside 0 n, sv, rf) T) Q := by
  refine loop_nat (185) (fun n hn ih => ?_)
  refine V_iload_n (pc := 2) e_X8_keeps_2 rfl ?_
  refine V_sipush (pc := 3) (by decide) e_X8_keeps_3 ?_
  refine V_icmp_ge (pc := 6) e_X8_keeps_6 (by decide) (by omega) (by decide) (fun h6 => ?_) (fun h6 => ?_)
  · refine V_ret (pc := 27) (v := none) ⟨e_X8_keeps_27, rfl⟩ ?_
    exact Qn k (by rw [show n = 185 by omega])
  · refine V_aload_n (pc := 9) e_X8_keeps_9 rfl (Or.inl ⟨_, rfl⟩) ?_
    refine V_getR (pc := 10) (q := 2) (j := 147) fx_8_16 e_X8_keeps_10 rfl rfl (by decide) rfl rfl ?_
    refine V_iload_n (pc := 13) e_X8_keeps_13 rfl ?_
    refine V_aload_n (pc := 14) e_X8_keeps_14 rfl (Or.inl ⟨_, rfl⟩) ?_
    refine V_getR (pc := 15) (q := 0) (j := 145) fx_8_7 e_X8_keeps_15 rfl rfl (by decide) rfl rfl ?_
    refine V_iload_n (pc := 18) e_X8_keeps_18 rfl ?_
    refine Vm_now (pc := 19) e_X8_keeps_19 (by omega) ?_
    refine Vm_asideS (pc := 20) e_X8_keeps_20 (by omega) ?_
    refine V_iinc (pc := 21) e_X8_keeps_21 rfl (by decide) ?_
    refine V_goto (pc := 24) e_X8_keeps_24 (by decide) ?_
    have e := cpr_s now aside 0 n
    rw [show (0 : Int) + (n : Int) = (n : Int) by omega] at e
    rw [e]
    exact V_lq [(0, .ref 144), (1, zI ((n + 1 : Nat) : Int))] ⟨⟨_, rfl, rfl⟩, ⟨_, rfl, rfl⟩, trivial⟩ (ih (by omega))
theorem c_X8_keeps {σ : Sto} {now past aside : Int → Int} {sv rf : Int} {T : TT} {Q : Option Value → Sto → Prop}  (k : Q none (mst σ now (past, cpr now aside 0 185, sv, rf) T)) : Con M_X8_keeps 150 150 (mst σ now (past, aside, sv, rf) T) [.ref 144] Q := by
  refine V_entry ok_X8_keeps (Nat.le_refl _) (Nat.le_of_ble_eq_true rfl) (V_ls [(0, .ref 144)] ⟨rfl, trivial⟩ ?_)
  refine V_iconst (pc := 0) e_X8_keeps_0 ?_
  refine V_istore_n (pc := 1) e_X8_keeps_1 (by decide) ?_
  exact V_lq [(0, .ref 144), (1, zI ((0 : Nat) : Int))] ⟨⟨_, rfl, rfl⟩, ⟨_, rfl, rfl⟩, trivial⟩ (V_sq (by rw [cpr_0]) (L_X8_keeps k 0 (by omega)))
theorem L_X8_takesBack {σ : Sto} {now past aside : Int → Int} {sv rf : Int} {T : TT} {Q : Option Value → Sto → Prop}  (k : Q none (mst σ (cpr aside now 0 185) (past, aside, sv, rf) T)) : ∀ n : Nat, n ≤ 185 → V M_X8_takesBack 150 2 [(0, .ref 144), (1, zI (n : Int))] [] 150 (mst σ (cpr aside now 0 n) (past, aside, sv, rf) T) Q := by
  refine loop_nat (185) (fun n hn ih => ?_)
  refine V_iload_n (pc := 2) e_X8_takesBack_2 rfl ?_
  refine V_sipush (pc := 3) (by decide) e_X8_takesBack_3 ?_
  refine V_icmp_ge (pc := 6) e_X8_takesBack_6 (by decide) (by omega) (by decide) (fun h6 => ?_) (fun h6 => ?_)
  · refine V_ret (pc := 27) (v := none) ⟨e_X8_takesBack_27, rfl⟩ ?_
    exact Qn k (by rw [show n = 185 by omega])
  · refine V_aload_n (pc := 9) e_X8_takesBack_9 rfl (Or.inl ⟨_, rfl⟩) ?_
    refine V_getR (pc := 10) (q := 0) (j := 145) fx_8_7 e_X8_takesBack_10 rfl rfl (by decide) rfl rfl ?_
    refine V_iload_n (pc := 13) e_X8_takesBack_13 rfl ?_
    refine V_aload_n (pc := 14) e_X8_takesBack_14 rfl (Or.inl ⟨_, rfl⟩) ?_
    refine V_getR (pc := 15) (q := 2) (j := 147) fx_8_16 e_X8_takesBack_15 rfl rfl (by decide) rfl rfl ?_
    refine V_iload_n (pc := 18) e_X8_takesBack_18 rfl ?_
    refine Vm_aside (pc := 19) e_X8_takesBack_19 (by omega) ?_
    refine Vm_nowS (pc := 20) e_X8_takesBack_20 (by omega) ?_
    refine V_iinc (pc := 21) e_X8_takesBack_21 rfl (by decide) ?_
    refine V_goto (pc := 24) e_X8_takesBack_24 (by decide) ?_
    have e := cpr_s aside now 0 n
    rw [show (0 : Int) + (n : Int) = (n : Int) by omega] at e
    rw [e]
    exact V_lq [(0, .ref 144), (1, zI ((n + 1 : Nat) : Int))] ⟨⟨_, rfl, rfl⟩, ⟨_, rfl, rfl⟩, trivial⟩ (ih (by omega))
theorem c_X8_takesBack {σ : Sto} {now past aside : Int → Int} {sv rf : Int} {T : TT} {Q : Option Value → Sto → Prop}  (k : Q none (mst σ (cpr aside now 0 185) (past, aside, sv, rf) T)) : Con M_X8_takesBack 150 150 (mst σ now (past, aside, sv, rf) T) [.ref 144] Q := by
  refine V_entry ok_X8_takesBack (Nat.le_refl _) (Nat.le_of_ble_eq_true rfl) (V_ls [(0, .ref 144)] ⟨rfl, trivial⟩ ?_)
  refine V_iconst (pc := 0) e_X8_takesBack_0 ?_
  refine V_istore_n (pc := 1) e_X8_takesBack_1 (by decide) ?_
  exact V_lq [(0, .ref 144), (1, zI ((0 : Nat) : Int))] ⟨⟨_, rfl, rfl⟩, ⟨_, rfl, rfl⟩, trivial⟩ (V_sq (by rw [cpr_0]) (L_X8_takesBack k 0 (by omega)))
theorem c_X8_puts {σ : Sto} {now past aside : Int → Int} {sv rf : Int} {T : TT} {Q : Option Value → Sto → Prop} {a v : Int} (hs : 0 ≤ sv ∧ sv ≤ 4) (ha : 0 ≤ a ∧ a < 185) (k : Q (some (zI (now a))) (mst σ (up1 now a v) (recP now past sv, aside, recS sv, rf) T)) : Con M_X8_puts 150 150 (mst σ now (past, aside, sv, rf) T) [.ref 144, zI a, zI v] Q := by
  refine V_entry ok_X8_puts (Nat.le_refl _) (Nat.le_of_ble_eq_true rfl) (V_ls [(0, .ref 144), (1, zI a), (2, zI v)] ⟨rfl, rfl, rfl, trivial⟩ ?_)
  refine V_aload_n (pc := 0) e_X8_puts_0 rfl (Or.inl ⟨_, rfl⟩) ?_
  refine V_cV0 (pc := 1) ca_8_40 e_X8_puts_1 (by decide) (Nat.le_of_ble_eq_true rfl) (by decide) rfl (by decide) (c_X8_records (by omega) ?_)
  refine V_aload_n (pc := 4) e_X8_puts_4 rfl (Or.inl ⟨_, rfl⟩) ?_
  refine V_getR (pc := 5) (q := 0) (j := 145) fx_8_7 e_X8_puts_5 rfl rfl (by decide) rfl rfl ?_
  refine V_iload_n (pc := 8) e_X8_puts_8 rfl ?_
  refine Vm_now (pc := 9) e_X8_puts_9 (by omega) ?_
  refine V_istore_n (pc := 10) e_X8_puts_10 (by decide) ?_
  refine V_aload_n (pc := 11) e_X8_puts_11 rfl (Or.inl ⟨_, rfl⟩) ?_
  refine V_getR (pc := 12) (q := 0) (j := 145) fx_8_7 e_X8_puts_12 rfl rfl (by decide) rfl rfl ?_
  refine V_iload_n (pc := 15) e_X8_puts_15 rfl ?_
  refine V_iload_n (pc := 16) e_X8_puts_16 rfl ?_
  refine Vm_nowS (pc := 17) e_X8_puts_17 (by omega) ?_
  refine V_iload_n (pc := 18) e_X8_puts_18 rfl ?_
  refine V_ret (pc := 19) (v := some (zI _)) ⟨e_X8_puts_19, _, rfl, rfl⟩ ?_
  exact k
theorem c_X8_comes {σ : Sto} {now : Int → Int} {P : PT} {T : TT} {Q : Option Value → Sto → Prop} {pg cp sz kd hw : Int} (h0 : 0 ≤ now 0 ∧ now 0 < 10) (k : Q (some (zI (comesF now pg cp sz kd hw 1 - 1))) (mst σ (comesF now pg cp sz kd hw) P T)) : Con M_X8_comes 150 150 (mst σ now P T) [.ref 144, zI pg, zI cp, zI sz, zI kd, zI hw] Q := by
  refine V_entry ok_X8_comes (Nat.le_refl _) (Nat.le_of_ble_eq_true rfl) (V_ls [(0, .ref 144), (1, zI pg), (2, zI cp), (3, zI sz), (4, zI kd), (5, zI hw)] ⟨rfl, rfl, rfl, rfl, rfl, rfl, trivial⟩ ?_)
  refine V_aload_n (pc := 0) e_X8_comes_0 rfl (Or.inl ⟨_, rfl⟩) ?_
  refine V_getR (pc := 1) (q := 0) (j := 145) fx_8_7 e_X8_comes_1 rfl rfl (by decide) rfl rfl ?_
  refine V_iconst (pc := 4) e_X8_comes_4 ?_
  refine Vm_now (pc := 5) e_X8_comes_5 (by decide) ?_
  refine V_cS1 (pc := 6) ca_8_60 e_X8_comes_6 (by decide) (Nat.le_of_ble_eq_true rfl) (c_X8_jobAt ?_)
  refine V_istore (pc := 9) e_X8_comes_9 (by decide) ?_
  refine V_aload_n (pc := 11) e_X8_comes_11 rfl (Or.inl ⟨_, rfl⟩) ?_
  refine V_getR (pc := 12) (q := 0) (j := 145) fx_8_7 e_X8_comes_12 rfl rfl (by decide) rfl rfl ?_
  refine V_iload (pc := 15) e_X8_comes_15 rfl ?_
  refine V_iconst (pc := 17) e_X8_comes_17 ?_
  refine V_iadd (pc := 18) e_X8_comes_18 ?_
  refine V_aload_n (pc := 19) e_X8_comes_19 rfl (Or.inl ⟨_, rfl⟩) ?_
  refine V_getR (pc := 20) (q := 0) (j := 145) fx_8_7 e_X8_comes_20 rfl rfl (by decide) rfl rfl ?_
  refine V_iconst (pc := 23) e_X8_comes_23 ?_
  refine Vm_now (pc := 24) e_X8_comes_24 (by decide) ?_
  refine Vm_nowS (pc := 25) e_X8_comes_25 (by omega) ?_
  refine V_aload_n (pc := 26) e_X8_comes_26 rfl (Or.inl ⟨_, rfl⟩) ?_
  refine V_getR (pc := 27) (q := 0) (j := 145) fx_8_7 e_X8_comes_27 rfl rfl (by decide) rfl rfl ?_
  refine V_iload (pc := 30) e_X8_comes_30 rfl ?_
  refine V_iconst (pc := 32) e_X8_comes_32 ?_
  refine V_iadd (pc := 33) e_X8_comes_33 ?_
  refine V_iload_n (pc := 34) e_X8_comes_34 rfl ?_
  refine Vm_nowS (pc := 35) e_X8_comes_35 (by omega) ?_
  refine V_aload_n (pc := 36) e_X8_comes_36 rfl (Or.inl ⟨_, rfl⟩) ?_
  refine V_getR (pc := 37) (q := 0) (j := 145) fx_8_7 e_X8_comes_37 rfl rfl (by decide) rfl rfl ?_
  refine V_iload (pc := 40) e_X8_comes_40 rfl ?_
  refine V_iconst (pc := 42) e_X8_comes_42 ?_
  refine V_iadd (pc := 43) e_X8_comes_43 ?_
  refine V_iload_n (pc := 44) e_X8_comes_44 rfl ?_
  refine Vm_nowS (pc := 45) e_X8_comes_45 (by omega) ?_
  refine V_aload_n (pc := 46) e_X8_comes_46 rfl (Or.inl ⟨_, rfl⟩) ?_
  refine V_getR (pc := 47) (q := 0) (j := 145) fx_8_7 e_X8_comes_47 rfl rfl (by decide) rfl rfl ?_
  refine V_iload (pc := 50) e_X8_comes_50 rfl ?_
  refine V_iconst (pc := 52) e_X8_comes_52 ?_
  refine V_iadd (pc := 53) e_X8_comes_53 ?_
  refine V_iload_n (pc := 54) e_X8_comes_54 rfl ?_
  refine Vm_nowS (pc := 55) e_X8_comes_55 (by omega) ?_
  refine V_aload_n (pc := 56) e_X8_comes_56 rfl (Or.inl ⟨_, rfl⟩) ?_
  refine V_getR (pc := 57) (q := 0) (j := 145) fx_8_7 e_X8_comes_57 rfl rfl (by decide) rfl rfl ?_
  refine V_iload (pc := 60) e_X8_comes_60 rfl ?_
  refine V_iconst (pc := 62) e_X8_comes_62 ?_
  refine V_iadd (pc := 63) e_X8_comes_63 ?_
  refine V_iload (pc := 64) e_X8_comes_64 rfl ?_
  refine Vm_nowS (pc := 66) e_X8_comes_66 (by omega) ?_
  refine V_aload_n (pc := 67) e_X8_comes_67 rfl (Or.inl ⟨_, rfl⟩) ?_
  refine V_getR (pc := 68) (q := 0) (j := 145) fx_8_7 e_X8_comes_68 rfl rfl (by decide) rfl rfl ?_
  refine V_iload (pc := 71) e_X8_comes_71 rfl ?_
  refine V_iconst (pc := 73) e_X8_comes_73 ?_
  refine V_iadd (pc := 74) e_X8_comes_74 ?_
  refine V_iload (pc := 75) e_X8_comes_75 rfl ?_
  refine Vm_nowS (pc := 77) e_X8_comes_77 (by omega) ?_
  refine V_bipush (pc := 78) (by decide) e_X8_comes_78 ?_
  refine V_istore (pc := 80) e_X8_comes_80 (by decide) ?_
  refine V_iload (pc := 82) e_X8_comes_82 rfl ?_
  refine V_bipush (pc := 84) (by decide) e_X8_comes_84 ?_
  refine V_icmp_gt (pc := 86) e_X8_comes_86 (by decide) (by decide) (by decide) (fun h => absurd h (by decide)) (fun _ => ?_)
  refine V_aload_n (pc := 89) e_X8_comes_89 rfl (Or.inl ⟨_, rfl⟩) ?_
  refine V_getR (pc := 90) (q := 0) (j := 145) fx_8_7 e_X8_comes_90 rfl rfl (by decide) rfl rfl ?_
  refine V_iload (pc := 93) e_X8_comes_93 rfl ?_
  refine V_iload (pc := 95) e_X8_comes_95 rfl ?_
  refine V_iadd (pc := 97) e_X8_comes_97 ?_
  refine V_iconst (pc := 98) e_X8_comes_98 ?_
  refine Vm_nowS (pc := 99) e_X8_comes_99 (by omega) ?_
  refine V_iinc (pc := 100) e_X8_comes_100 rfl (by decide) ?_
  refine V_goto (pc := 103) e_X8_comes_103 (by decide) ?_
  refine V_iload (pc := 82) e_X8_comes_82 rfl ?_
  refine V_bipush (pc := 84) (by decide) e_X8_comes_84 ?_
  refine V_icmp_gt (pc := 86) e_X8_comes_86 (by decide) (by decide) (by decide) (fun h => absurd h (by decide)) (fun _ => ?_)
  refine V_aload_n (pc := 89) e_X8_comes_89 rfl (Or.inl ⟨_, rfl⟩) ?_
  refine V_getR (pc := 90) (q := 0) (j := 145) fx_8_7 e_X8_comes_90 rfl rfl (by decide) rfl rfl ?_
  refine V_iload (pc := 93) e_X8_comes_93 rfl ?_
  refine V_iload (pc := 95) e_X8_comes_95 rfl ?_
  refine V_iadd (pc := 97) e_X8_comes_97 ?_
  refine V_iconst (pc := 98) e_X8_comes_98 ?_
  refine Vm_nowS (pc := 99) e_X8_comes_99 (by omega) ?_
  refine V_iinc (pc := 100) e_X8_comes_100 rfl (by decide) ?_
  refine V_goto (pc := 103) e_X8_comes_103 (by decide) ?_
  refine V_iload (pc := 82) e_X8_comes_82 rfl ?_
  refine V_bipush (pc := 84) (by decide) e_X8_comes_84 ?_
  refine V_icmp_gt (pc := 86) e_X8_comes_86 (by decide) (by decide) (by decide) (fun h => absurd h (by decide)) (fun _ => ?_)
  refine V_aload_n (pc := 89) e_X8_comes_89 rfl (Or.inl ⟨_, rfl⟩) ?_
  refine V_getR (pc := 90) (q := 0) (j := 145) fx_8_7 e_X8_comes_90 rfl rfl (by decide) rfl rfl ?_
  refine V_iload (pc := 93) e_X8_comes_93 rfl ?_
  refine V_iload (pc := 95) e_X8_comes_95 rfl ?_
  refine V_iadd (pc := 97) e_X8_comes_97 ?_
  refine V_iconst (pc := 98) e_X8_comes_98 ?_
  refine Vm_nowS (pc := 99) e_X8_comes_99 (by omega) ?_
  refine V_iinc (pc := 100) e_X8_comes_100 rfl (by decide) ?_
  refine V_goto (pc := 103) e_X8_comes_103 (by decide) ?_
  refine V_iload (pc := 82) e_X8_comes_82 rfl ?_
  refine V_bipush (pc := 84) (by decide) e_X8_comes_84 ?_
  refine V_icmp_gt (pc := 86) e_X8_comes_86 (by decide) (by decide) (by decide) (fun h => absurd h (by decide)) (fun _ => ?_)
  refine V_aload_n (pc := 89) e_X8_comes_89 rfl (Or.inl ⟨_, rfl⟩) ?_
  refine V_getR (pc := 90) (q := 0) (j := 145) fx_8_7 e_X8_comes_90 rfl rfl (by decide) rfl rfl ?_
  refine V_iload (pc := 93) e_X8_comes_93 rfl ?_
  refine V_iload (pc := 95) e_X8_comes_95 rfl ?_
  refine V_iadd (pc := 97) e_X8_comes_97 ?_
  refine V_iconst (pc := 98) e_X8_comes_98 ?_
  refine Vm_nowS (pc := 99) e_X8_comes_99 (by omega) ?_
  refine V_iinc (pc := 100) e_X8_comes_100 rfl (by decide) ?_
  refine V_goto (pc := 103) e_X8_comes_103 (by decide) ?_
  refine V_iload (pc := 82) e_X8_comes_82 rfl ?_
  refine V_bipush (pc := 84) (by decide) e_X8_comes_84 ?_
  refine V_icmp_gt (pc := 86) e_X8_comes_86 (by decide) (by decide) (by decide) (fun _ => ?_) (fun h => absurd (by decide) h)
  refine V_aload_n (pc := 106) e_X8_comes_106 rfl (Or.inl ⟨_, rfl⟩) ?_
  refine V_getR (pc := 107) (q := 0) (j := 145) fx_8_7 e_X8_comes_107 rfl rfl (by decide) rfl rfl ?_
  refine V_iconst (pc := 110) e_X8_comes_110 ?_
  refine V_dup2 (pc := 111) e_X8_comes_111 rfl rfl ?_
  refine Vm_now (pc := 112) e_X8_comes_112 (by decide) ?_
  refine V_iconst (pc := 113) e_X8_comes_113 ?_
  refine V_iadd (pc := 114) e_X8_comes_114 ?_
  refine Vm_nowS (pc := 115) e_X8_comes_115 (by decide) ?_
  refine V_aload_n (pc := 116) e_X8_comes_116 rfl (Or.inl ⟨_, rfl⟩) ?_
  refine V_getR (pc := 117) (q := 0) (j := 145) fx_8_7 e_X8_comes_117 rfl rfl (by decide) rfl rfl ?_
  refine V_iconst (pc := 120) e_X8_comes_120 ?_
  refine V_dup2 (pc := 121) e_X8_comes_121 rfl rfl ?_
  refine Vm_now (pc := 122) e_X8_comes_122 (by decide) ?_
  refine V_iconst (pc := 123) e_X8_comes_123 ?_
  refine V_iadd (pc := 124) e_X8_comes_124 ?_
  refine Vm_nowS (pc := 125) e_X8_comes_125 (by decide) ?_
  refine V_aload_n (pc := 126) e_X8_comes_126 rfl (Or.inl ⟨_, rfl⟩) ?_
  refine V_getR (pc := 127) (q := 0) (j := 145) fx_8_7 e_X8_comes_127 rfl rfl (by decide) rfl rfl ?_
  refine V_iconst (pc := 130) e_X8_comes_130 ?_
  refine Vm_now (pc := 131) e_X8_comes_131 (by decide) ?_
  refine V_iconst (pc := 132) e_X8_comes_132 ?_
  refine V_isub (pc := 133) e_X8_comes_133 ?_
  refine V_ret (pc := 134) (v := some (zI _)) ⟨e_X8_comes_134, _, rfl, rfl⟩ ?_
  exact k
theorem c_X8_endsWork {σ : Sto} {now : Int → Int} {P : PT} {T : TT} {Q : Option Value → Sto → Prop}  (k : Q none (mst σ (endsF now) P T)) : Con M_X8_endsWork 150 150 (mst σ now P T) [.ref 144] Q := by
  refine V_entry ok_X8_endsWork (Nat.le_refl _) (Nat.le_of_ble_eq_true rfl) (V_ls [(0, .ref 144)] ⟨rfl, trivial⟩ ?_)
  refine V_aload_n (pc := 0) e_X8_endsWork_0 rfl (Or.inl ⟨_, rfl⟩) ?_
  refine V_getR (pc := 1) (q := 0) (j := 145) fx_8_7 e_X8_endsWork_1 rfl rfl (by decide) rfl rfl ?_
  refine V_iconst (pc := 4) e_X8_endsWork_4 ?_
  refine V_iconst (pc := 5) e_X8_endsWork_5 ?_
  refine Vm_nowS (pc := 6) e_X8_endsWork_6 (by decide) ?_
  refine V_aload_n (pc := 7) e_X8_endsWork_7 rfl (Or.inl ⟨_, rfl⟩) ?_
  refine V_getR (pc := 8) (q := 0) (j := 145) fx_8_7 e_X8_endsWork_8 rfl rfl (by decide) rfl rfl ?_
  refine V_iconst (pc := 11) e_X8_endsWork_11 ?_
  refine V_iconst (pc := 12) e_X8_endsWork_12 ?_
  refine Vm_nowS (pc := 13) e_X8_endsWork_13 (by decide) ?_
  refine V_aload_n (pc := 14) e_X8_endsWork_14 rfl (Or.inl ⟨_, rfl⟩) ?_
  refine V_getR (pc := 15) (q := 0) (j := 145) fx_8_7 e_X8_endsWork_15 rfl rfl (by decide) rfl rfl ?_
  refine V_bipush (pc := 18) (by decide) e_X8_endsWork_18 ?_
  refine V_bipush (pc := 20) (by decide) e_X8_endsWork_20 ?_
  refine Vm_nowS (pc := 22) e_X8_endsWork_22 (by decide) ?_
  refine V_ret (pc := 23) (v := none) ⟨e_X8_endsWork_23, rfl⟩ ?_
  exact k
theorem L_X8_goesJob {σ : Sto} {now : Int → Int} {P : PT} {T : TT} {Q : Option Value → Sto → Prop} {p lo : Int} (h0 : 0 ≤ now 0 ∧ now 0 ≤ 9) (hlo : 85 ≤ lo) (k : Q none (mst σ (sh10 now lo (85 + 10 * now 0)) P T)) : ∀ n : Int, n ≤ 85 + 10 * now 0 → lo ≤ n → V M_X8_goesJob 150 15 [(0, .ref 144), (1, zI p), (2, zI n)] [] 150 (mst σ (sh10 now lo n) P T) Q := by
  refine loop_up (85 + 10 * now 0) (fun n hn ih => ?_)
  intro hv
  have e0 : sh10 now lo n 0 = now 0 := if_neg (by omega)
  refine V_iload_n (pc := 15) e_X8_goesJob_15 rfl ?_
  refine V_aload_n (pc := 16) e_X8_goesJob_16 rfl (Or.inl ⟨_, rfl⟩) ?_
  refine V_getR (pc := 17) (q := 0) (j := 145) fx_8_7 e_X8_goesJob_17 rfl rfl (by decide) rfl rfl ?_
  refine V_iconst (pc := 20) e_X8_goesJob_20 ?_
  refine Vm_now (pc := 21) e_X8_goesJob_21 (by decide) ?_
  refine V_cS1 (pc := 22) ca_8_60 e_X8_goesJob_22 (by decide) (Nat.le_of_ble_eq_true rfl) (c_X8_jobAt ?_)
  refine V_icmp_ge (pc := 25) e_X8_goesJob_25 (by decide) (by omega) (by omega) (fun h25 => ?_) (fun h25 => ?_)
  · refine V_ret (pc := 49) (v := none) ⟨e_X8_goesJob_49, rfl⟩ ?_
    exact Qn k (by rw [show n = 85 + 10 * now 0 by omega])
  · refine V_aload_n (pc := 28) e_X8_goesJob_28 rfl (Or.inl ⟨_, rfl⟩) ?_
    refine V_getR (pc := 29) (q := 0) (j := 145) fx_8_7 e_X8_goesJob_29 rfl rfl (by decide) rfl rfl ?_
    refine V_iload_n (pc := 32) e_X8_goesJob_32 rfl ?_
    refine V_aload_n (pc := 33) e_X8_goesJob_33 rfl (Or.inl ⟨_, rfl⟩) ?_
    refine V_getR (pc := 34) (q := 0) (j := 145) fx_8_7 e_X8_goesJob_34 rfl rfl (by decide) rfl rfl ?_
    refine V_iload_n (pc := 37) e_X8_goesJob_37 rfl ?_
    refine V_bipush (pc := 38) (by decide) e_X8_goesJob_38 ?_
    refine V_iadd (pc := 40) e_X8_goesJob_40 ?_
    refine Vm_now (pc := 41) e_X8_goesJob_41 (by omega) ?_
    refine Vm_nowS (pc := 42) e_X8_goesJob_42 (by omega) ?_
    refine V_iinc (pc := 43) e_X8_goesJob_43 rfl (by decide) ?_
    refine V_goto (pc := 46) e_X8_goesJob_46 (by decide) ?_
    rw [sh10_s _ _ _ hv]
    exact V_lq [(0, .ref 144), (1, zI p), (2, zI (n + 1))] ⟨⟨_, rfl, rfl⟩, ⟨_, rfl, rfl⟩, ⟨_, rfl, rfl⟩, trivial⟩ (ih (n + 1) (by omega) (by omega) (by omega))
theorem c_X8_goesJob {σ : Sto} {now : Int → Int} {P : PT} {T : TT} {Q : Option Value → Sto → Prop} {p : Int} (h0 : now 0 ≤ 10) (hp : 0 ≤ p ∧ p < now 0) (k : Q none (mst σ (goesF now p) P T)) : Con M_X8_goesJob 150 150 (mst σ now P T) [.ref 144, zI p] Q := by
  refine V_entry ok_X8_goesJob (Nat.le_refl _) (Nat.le_of_ble_eq_true rfl) (V_ls [(0, .ref 144), (1, zI p)] ⟨rfl, rfl, trivial⟩ ?_)
  refine V_aload_n (pc := 0) e_X8_goesJob_0 rfl (Or.inl ⟨_, rfl⟩) ?_
  refine V_getR (pc := 1) (q := 0) (j := 145) fx_8_7 e_X8_goesJob_1 rfl rfl (by decide) rfl rfl ?_
  refine V_iconst (pc := 4) e_X8_goesJob_4 ?_
  refine V_dup2 (pc := 5) e_X8_goesJob_5 rfl rfl ?_
  refine Vm_now (pc := 6) e_X8_goesJob_6 (by decide) ?_
  refine V_iconst (pc := 7) e_X8_goesJob_7 ?_
  refine V_isub (pc := 8) e_X8_goesJob_8 ?_
  refine Vm_nowS (pc := 9) e_X8_goesJob_9 (by decide) ?_
  refine V_iload_n (pc := 10) e_X8_goesJob_10 rfl ?_
  refine V_cS1 (pc := 11) ca_8_60 e_X8_goesJob_11 (by decide) (Nat.le_of_ble_eq_true rfl) (c_X8_jobAt ?_)
  refine V_istore_n (pc := 14) e_X8_goesJob_14 (by decide) ?_
  have e0 : (sbn now 0 1) 0 = now 0 - 1 := up1_at
  exact V_lq [(0, .ref 144), (1, zI p), (2, zI (85 + 10 * p))] ⟨⟨_, rfl, rfl⟩, ⟨_, rfl, rfl⟩, ⟨_, rfl, rfl⟩, trivial⟩ (V_sq (by rw [sh10_0]; rfl) (L_X8_goesJob (now := sbn now 0 1) (lo := 85 + 10 * p) (by omega) (by omega) (by rw [e0]; exact k) (85 + 10 * p) (by omega) (Int.le_refl _)))
theorem T_X8_givesUp {σ : Sto} {now : Int → Int} {P : PT} {T : TT} {Q : Option Value → Sto → Prop} {j : Int} (r_j : -2147483648 ≤ j ∧ j < 2147483648) (h7 : -3000000 ≤ now 7 ∧ now 7 ≤ 3000000) (k : Q none (mst σ (stayF now j) P T)) : V M_X8_givesUp 150 40 [(0, .ref 144), (1, zI j)] [] 150 (mst σ now P T) Q := by
  refine V_aload_n (pc := 40) e_X8_givesUp_40 rfl (Or.inl ⟨_, rfl⟩) ?_
  refine V_getR (pc := 41) (q := 0) (j := 145) fx_8_7 e_X8_givesUp_41 rfl rfl (by decide) rfl rfl ?_
  refine V_bipush (pc := 44) (by decide) e_X8_givesUp_44 ?_
  refine V_aload_n (pc := 46) e_X8_givesUp_46 rfl (Or.inl ⟨_, rfl⟩) ?_
  refine V_getR (pc := 47) (q := 0) (j := 145) fx_8_7 e_X8_givesUp_47 rfl rfl (by decide) rfl rfl ?_
  refine V_bipush (pc := 50) (by decide) e_X8_givesUp_50 ?_
  refine Vm_now (pc := 52) e_X8_givesUp_52 (by decide) ?_
  refine V_iload_n (pc := 53) e_X8_givesUp_53 rfl ?_
  refine V_icmp_ne (pc := 54) e_X8_givesUp_54 (by decide) (by omega) (by omega) (fun h54 => ?_) (fun h54 => ?_)
  · refine V_aload_n (pc := 62) e_X8_givesUp_62 rfl (Or.inl ⟨_, rfl⟩) ?_
    refine V_getR (pc := 63) (q := 0) (j := 145) fx_8_7 e_X8_givesUp_63 rfl rfl (by decide) rfl rfl ?_
    refine V_bipush (pc := 66) (by decide) e_X8_givesUp_66 ?_
    refine Vm_now (pc := 68) e_X8_givesUp_68 (by decide) ?_
    refine Vm_nowS (pc := 69) e_X8_givesUp_69 (by decide) ?_
    refine V_ret (pc := 70) (v := none) ⟨e_X8_givesUp_70, rfl⟩ ?_
    first | exact Qn k (mnow (by unfold stayF; rw [if_pos h54])) | exact Qn k (mnow (by unfold stayF; rw [if_neg h54]))
  · refine V_bipush (pc := 57) (by decide) e_X8_givesUp_57 ?_
    refine V_goto (pc := 59) e_X8_givesUp_59 (by decide) ?_
    refine Vm_nowS (pc := 69) e_X8_givesUp_69 (by decide) ?_
    refine V_ret (pc := 70) (v := none) ⟨e_X8_givesUp_70, rfl⟩ ?_
    first | exact Qn k (mnow (by unfold stayF; rw [if_pos h54])) | exact Qn k (mnow (by unfold stayF; rw [if_neg h54]))
theorem c_X8_givesUp {σ : Sto} {now : Int → Int} {P : PT} {T : TT} {Q : Option Value → Sto → Prop} {j : Int} (r_j : -2147483648 ≤ j ∧ j < 2147483648) (h5 : -3000000 ≤ now 5 ∧ now 5 ≤ 3000000) (h6 : -3000000 ≤ now 6 ∧ now 6 ≤ 3000000) (h7 : -3000000 ≤ now 7 ∧ now 7 ≤ 3000000) (k : Q none (mst σ (givF now j) P T)) : Con M_X8_givesUp 150 150 (mst σ now P T) [.ref 144, zI j] Q := by
  refine V_entry ok_X8_givesUp (Nat.le_refl _) (Nat.le_of_ble_eq_true rfl) (V_ls [(0, .ref 144), (1, zI j)] ⟨rfl, rfl, trivial⟩ ?_)
  refine V_aload_n (pc := 0) e_X8_givesUp_0 rfl (Or.inl ⟨_, rfl⟩) ?_
  refine V_getR (pc := 1) (q := 0) (j := 145) fx_8_7 e_X8_givesUp_1 rfl rfl (by decide) rfl rfl ?_
  refine V_bipush (pc := 4) (by decide) e_X8_givesUp_4 ?_
  refine Vm_now (pc := 6) e_X8_givesUp_6 (by decide) ?_
  refine V_iload_n (pc := 7) e_X8_givesUp_7 rfl ?_
  refine V_icmp_ne (pc := 8) e_X8_givesUp_8 (by decide) (by omega) (by omega) (fun h8 => ?_) (fun h8 => ?_)
  · exact V_lq [(0, .ref 144), (1, zI j)] ⟨⟨_, rfl, rfl⟩, ⟨_, rfl, rfl⟩, trivial⟩ (T_X8_givesUp r_j h7 (by
      unfold givF at k
      first
        | rw [if_neg h8] at k; exact k
        | rw [if_pos h8, if_pos h26] at k; exact k
        | rw [if_pos h8, if_neg h26] at k; exact k))
  · refine V_aload_n (pc := 11) e_X8_givesUp_11 rfl (Or.inl ⟨_, rfl⟩) ?_
    refine V_getR (pc := 12) (q := 0) (j := 145) fx_8_7 e_X8_givesUp_12 rfl rfl (by decide) rfl rfl ?_
    refine V_bipush (pc := 15) (by decide) e_X8_givesUp_15 ?_
    refine V_dup2 (pc := 17) e_X8_givesUp_17 rfl rfl ?_
    refine Vm_now (pc := 18) e_X8_givesUp_18 (by decide) ?_
    refine V_aload_n (pc := 19) e_X8_givesUp_19 rfl (Or.inl ⟨_, rfl⟩) ?_
    refine V_getR (pc := 20) (q := 0) (j := 145) fx_8_7 e_X8_givesUp_20 rfl rfl (by decide) rfl rfl ?_
    refine V_iconst (pc := 23) e_X8_givesUp_23 ?_
    refine Vm_now (pc := 24) e_X8_givesUp_24 (by decide) ?_
    refine V_iconst (pc := 25) e_X8_givesUp_25 ?_
    have e5 : now 5 = now 5 := rfl
    refine V_icmp_ne (pc := 26) e_X8_givesUp_26 (by decide) (by omega) (by decide) (fun h26 => ?_) (fun h26 => ?_)
    · refine V_iconst (pc := 33) e_X8_givesUp_33 ?_
      refine V_iadd (pc := 34) e_X8_givesUp_34 ?_
      refine Vm_nowS (pc := 35) e_X8_givesUp_35 (by decide) ?_
      refine V_aload_n (pc := 36) e_X8_givesUp_36 rfl (Or.inl ⟨_, rfl⟩) ?_
      refine V_cV0 (pc := 37) ca_8_84 e_X8_givesUp_37 (by decide) (Nat.le_of_ble_eq_true rfl) (by decide) rfl (by decide) (c_X8_endsWork ?_)
      exact V_lq [(0, .ref 144), (1, zI j)] ⟨⟨_, rfl, rfl⟩, ⟨_, rfl, rfl⟩, trivial⟩ (T_X8_givesUp r_j h7 (by
        unfold givF at k
        first
          | rw [if_neg h8] at k; exact k
          | rw [if_pos h8, if_pos h26] at k; exact k
          | rw [if_pos h8, if_neg h26] at k; exact k))
    · refine V_iconst (pc := 29) e_X8_givesUp_29 ?_
      refine V_goto (pc := 30) e_X8_givesUp_30 (by decide) ?_
      refine V_iadd (pc := 34) e_X8_givesUp_34 ?_
      refine Vm_nowS (pc := 35) e_X8_givesUp_35 (by decide) ?_
      refine V_aload_n (pc := 36) e_X8_givesUp_36 rfl (Or.inl ⟨_, rfl⟩) ?_
      refine V_cV0 (pc := 37) ca_8_84 e_X8_givesUp_37 (by decide) (Nat.le_of_ble_eq_true rfl) (by decide) rfl (by decide) (c_X8_endsWork ?_)
      exact V_lq [(0, .ref 144), (1, zI j)] ⟨⟨_, rfl, rfl⟩, ⟨_, rfl, rfl⟩, trivial⟩ (T_X8_givesUp r_j h7 (by
        unfold givF at k
        first
          | rw [if_neg h8] at k; exact k
          | rw [if_pos h8, if_pos h26] at k; exact k
          | rw [if_pos h8, if_neg h26] at k; exact k))
