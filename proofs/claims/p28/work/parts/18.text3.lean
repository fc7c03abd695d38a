/-! the model's texts: jobs, faults, entering -/
/-- a number and its letter -/
def nuO (tx : Int → Int) (ln s c : Int) : Prop := 0 < dgc tx ln s ∧ s + dgc tx ln s < ln ∧ tx (s + dgc tx ln s) = c
def t1E (tx : Int → Int) (ln s : Int) : Int := s + dgc tx ln s + 1
def tjU (tx : Int → Int) (ln s : Int) : Int := t1E tx ln (t1E tx ln s + 1)
noncomputable def tjW (tx : Int → Int) (ln u : Int) : Int := o1E tx ln (o1E tx ln u 0) 1
noncomputable def tjX (tx : Int → Int) (ln u : Int) : Int := o3E tx ln (tjW tx ln u)
def reO (tx : Int → Int) (ln u : Int) : Prop := o3O tx ln (tjW tx ln u) ∧ eO tx ln (tjX tx ln u)
/-- a job of the form stands at s -/
def tjO (tx : Int → Int) (ln s : Int) : Prop := nuO tx ln s 112 ∧ (t1E tx ln s < ln ∧ tx (t1E tx ln s) = 32) ∧ nuO tx ln (t1E tx ln s + 1) 99 ∧ reO tx ln (tjU tx ln s)
def tjP (tx : Int → Int) (ln s : Int) : Int := dgN tx ln s
def tjC (tx : Int → Int) (ln s : Int) : Int := dgN tx ln (t1E tx ln s + 1)
noncomputable def tjS (tx : Int → Int) (ln s : Int) : Int := eS tx ln (tjX tx ln (tjU tx ln s))
noncomputable def tjK (tx : Int → Int) (ln s : Int) : Int := eK tx ln (tjX tx ln (tjU tx ln s))
noncomputable def tjH (tx : Int → Int) (ln s : Int) : Int := o1V tx ln (tjU tx ln s) 0 1 + o1V tx ln (o1E tx ln (tjU tx ln s) 0) 1 2 + o3V tx ln (tjW tx ln (tjU tx ln s))
noncomputable def tjE (tx : Int → Int) (ln s : Int) : Int := eE tx ln (tjX tx ln (tjU tx ln s))
theorem tj_rg {tx : Int → Int} {ln s : Int} (h0 : 0 ≤ s) (h : tjO tx ln s) : (0 ≤ tjP tx ln s ∧ tjP tx ln s ≤ 999) ∧ (0 ≤ tjC tx ln s ∧ tjC tx ln s ≤ 999) ∧ (0 ≤ tjS tx ln s ∧ tjS tx ln s ≤ 3) ∧ (0 ≤ tjK tx ln s ∧ tjK tx ln s ≤ 3) ∧ (0 ≤ tjH tx ln s ∧ tjH tx ln s ≤ 11) ∧ (s < tjE tx ln s ∧ tjE tx ln s ≤ ln) := by
  obtain ⟨a, b, c, d⟩ := h
  have r1 := dgc_rg tx ln s
  have r2 := dgc_rg tx ln (t1E tx ln s + 1)
  have e1 : t1E tx ln s = s + dgc tx ln s + 1 := rfl
  have e2 : tjU tx ln s = t1E tx ln s + 1 + dgc tx ln (t1E tx ln s + 1) + 1 := rfl
  have c2 := c.2.1
  have u1 : tjU tx ln s ≤ ln := by omega
  have p1 := o1E_rg (tx := tx) (ln := ln) (w := 0) (by decide) u1
  have p2 := o1E_rg (tx := tx) (ln := ln) (w := 1) (by decide) p1.2
  have p3 := o3E_rg (tx := tx) (ln := ln) p2.2 d.1
  obtain ⟨f1, f2, f3, f4, f5⟩ := d.2
  have z := szE_rg f2
  have k := knd_sp f4
  have kl := wm_len (by omega) k.2
  have x1 : tjX tx ln (tjU tx ln s) = o3E tx ln (o1E tx ln (o1E tx ln (tjU tx ln s) 0) 1) := rfl
  refine ⟨dgN_rg, dgN_rg, ?_, ⟨f4, by unfold tjK eK; omega⟩, ?_, ?_⟩
  · unfold tjS eS szV
    rcases f2 with y | ⟨y, y2, y3, y4⟩
    · rw [if_pos y]; omega
    · rw [if_neg y]; omega
  · unfold tjH o1V o3V
    (repeat' split) <;> omega
  · unfold tjE eE
    omega
/-- why the job at s is not possible, m ahead of it; 0: it is -/
noncomputable def whyJ (tx : Int → Int) (ln : Int) (r : Int → Int) (s m : Int) : Int := by
  classical exact if ¬ tjO tx ln s then 1 else if ¬ ((1 ≤ tjP tx ln s ∧ tjP tx ln s ≤ 200) ∧ 1 ≤ tjC tx ln s ∧ tjC tx ln s ≤ 50) then 2 else if 0 < wny r (tjP tx ln s) (tjK tx ln s) (tjH tx ln s) then 3 else if 10 ≤ r 0 + m then 4 else 0
/-- (why, where, how many) of the text from s on -/
noncomputable def hfF (tx : Int → Int) (ln : Int) (r : Int → Int) : Nat → Int → Int → Int × Int × Int
  | 0, s, m => (0, s, m)
  | n + 1, s, m => if s < ln then (if whyJ tx ln r s m = 0 then hfF tx ln r n (tjE tx ln s) (m + 1) else (whyJ tx ln r s m, s, m)) else (0, s, m)
theorem whyJ_rg (tx : Int → Int) (ln : Int) (r : Int → Int) (s m : Int) : 0 ≤ whyJ tx ln r s m ∧ whyJ tx ln r s m ≤ 4 := by
  unfold whyJ
  (repeat' split) <;> omega
theorem whyJ_0 {tx : Int → Int} {ln : Int} {r : Int → Int} {s m : Int} (h : whyJ tx ln r s m = 0) : tjO tx ln s ∧ ((1 ≤ tjP tx ln s ∧ tjP tx ln s ≤ 200) ∧ 1 ≤ tjC tx ln s ∧ tjC tx ln s ≤ 50) ∧ ¬ 0 < wny r (tjP tx ln s) (tjK tx ln s) (tjH tx ln s) ∧ r 0 + m < 10 := by
  unfold whyJ at h
  split at h
  · omega
  · next a =>
    split at h
    · omega
    · next b =>
      split at h
      · omega
      · next c =>
        split at h
        · omega
        · next d => exact ⟨Classical.not_not.mp a, by omega, c, by omega⟩
theorem c_X8_takesJob {σ : Sto} {now text read : Int → Int} {P : PT} {len spot fat fwy many : Int} {Q : Option Value → Sto → Prop} (hl : 0 ≤ len ∧ len ≤ 100) (hs : 0 ≤ spot ∧ spot ≤ len) (ht : ∀ k : Int, 0 ≤ k → k < len → 32 ≤ text k ∧ text k ≤ 126) (k1 : tjO text len spot → ∀ rd : Int → Int, rd 0 = tjP text len spot → rd 1 = tjC text len spot → rd 2 = tjS text len spot → rd 3 = tjK text len spot → rd 4 = tjH text len spot → Q (some (zI 1)) (mst σ now P (text, rd, len, (tjE text len spot), fat, fwy, many))) (k0 : ¬ tjO text len spot → ∀ (rd : Int → Int) (s : Int), Q (some (zI 0)) (mst σ now P (text, rd, len, s, fat, fwy, many))) : Con M_X8_takesJob 150 150 (mst σ now P (text, read, len, spot, fat, fwy, many)) [.ref 144] Q := by
  refine V_entry ok_X8_takesJob (Nat.le_refl _) (Nat.le_of_ble_eq_true rfl) (V_ls [(0, .ref 144)] ⟨rfl, trivial⟩ ?_)
  have r1 := dgc_rg text len spot
  have r2 := dgc_rg text len (t1E text len spot + 1)
  have e1 : t1E text len spot = spot + dgc text len spot + 1 := rfl
  refine V_aload_n (pc := 0) e_X8_takesJob_0 rfl (Or.inl ⟨_, rfl⟩) ?_
  refine V_iconst (pc := 1) e_X8_takesJob_1 ?_
  refine V_bipush (pc := 2) (by decide) e_X8_takesJob_2 ?_
  refine V_cV2 (pc := 4) ca_8_204 e_X8_takesJob_4 (by decide) (Nat.le_of_ble_eq_true rfl) (by decide) rfl (by decide) (c_X8_takesNumber hl (by omega) ht (by omega) (by omega) (fun h_n0 => ?_) (fun h_n0 s_nm => ?_))
  · refine V_if_eq (pc := 7) e_X8_takesJob_7 (by decide) (by decide) (fun h => absurd h (by decide)) (fun _ => ?_)
    refine V_aload_n (pc := 10) e_X8_takesJob_10 rfl (Or.inl ⟨_, rfl⟩) ?_
    refine V_bipush (pc := 11) (by decide) e_X8_takesJob_11 ?_
    refine V_cV1 (pc := 13) ca_8_175 e_X8_takesJob_13 (by decide) (Nat.le_of_ble_eq_true rfl) (by decide) rfl (by decide) (c_X8_takes hl (by omega) ht (by omega) (fun h_tk => ?_) (fun h_tk => ?_))
    · refine V_if_eq (pc := 16) e_X8_takesJob_16 (by decide) (by decide) (fun h => absurd h (by decide)) (fun _ => ?_)
      have h_b := h_tk
      refine V_aload_n (pc := 19) e_X8_takesJob_19 rfl (Or.inl ⟨_, rfl⟩) ?_
      refine V_iconst (pc := 20) e_X8_takesJob_20 ?_
      refine V_bipush (pc := 21) (by decide) e_X8_takesJob_21 ?_
      refine V_cV2 (pc := 23) ca_8_204 e_X8_takesJob_23 (by decide) (Nat.le_of_ble_eq_true rfl) (by decide) rfl (by decide) (c_X8_takesNumber hl (by omega) ht (by omega) (by omega) (fun h_n1 => ?_) (fun h_n1 s_nm => ?_))
      · refine V_if_ne (pc := 26) e_X8_takesJob_26 (by decide) (by decide) (fun _ => ?_) (fun h => absurd h (by decide))
        exact V_lq [(0, .ref 144)] ⟨⟨_, rfl, rfl⟩, trivial⟩ (T_X8_takesJob_1 (spot := tjU text len spot) hl (by unfold tjU; rw [show t1E text len (t1E text len spot + 1) = t1E text len spot + 1 + dgc text len (t1E text len spot + 1) + 1 from rfl]; have q := h_n1.2.1; rw [← e1] at q; omega) ht (fun z => k1 ⟨h_n0, h_b, h_n1, z⟩ _ rfl rfl rfl rfl rfl) (fun z => k0 (fun y => z y.2.2.2)))
      · refine V_if_ne (pc := 26) e_X8_takesJob_26 (by decide) (by decide) (fun h => absurd (by decide) h) (fun _ => ?_)
        refine V_iconst (pc := 29) e_X8_takesJob_29 ?_
        refine V_ret (pc := 30) (v := some (zI _)) ⟨e_X8_takesJob_30, _, rfl, by decide⟩ ?_
        refine k0 (fun y => ?_) _ _
        first | exact h_n0 y.1 | exact h_tk y.2.1 | exact h_n1 y.2.2.1
    · refine V_if_eq (pc := 16) e_X8_takesJob_16 (by decide) (by decide) (fun _ => ?_) (fun h => absurd (by decide) h)
      refine V_iconst (pc := 29) e_X8_takesJob_29 ?_
      refine V_ret (pc := 30) (v := some (zI _)) ⟨e_X8_takesJob_30, _, rfl, by decide⟩ ?_
      refine k0 (fun y => ?_) _ _
      first | exact h_n0 y.1 | exact h_tk y.2.1 | exact h_n1 y.2.2.1
  · refine V_if_eq (pc := 7) e_X8_takesJob_7 (by decide) (by decide) (fun _ => ?_) (fun h => absurd (by decide) h)
    refine V_iconst (pc := 29) e_X8_takesJob_29 ?_
    refine V_ret (pc := 30) (v := some (zI _)) ⟨e_X8_takesJob_30, _, rfl, by decide⟩ ?_
    refine k0 (fun y => ?_) _ _
    first | exact h_n0 y.1 | exact h_tk y.2.1 | exact h_n1 y.2.2.1
theorem c_X8_type {σ : Sto} {now text read : Int → Int} {P : PT} {len spot fat fwy many : Int} {Q : Option Value → Sto → Prop} {c : Int} (hl : 0 ≤ len ∧ len ≤ 100) (r_c : -2147483648 ≤ c ∧ c < 2147483648) (k1 : ¬ (32 ≤ c ∧ c ≤ 126) → Q (some (zI (-1))) (mst σ now P (text, read, len, spot, fat, fwy, many))) (k2 : (32 ≤ c ∧ c ≤ 126) → len = 100 → Q (some (zI (-3))) (mst σ now P (text, read, len, spot, fat, fwy, many))) (k3 : (32 ≤ c ∧ c ≤ 126) → len < 100 → Q (some (zI (len + 1))) (mst σ now P ((up1 text len c), read, (len + 1), spot, fat, fwy, many))) : Con M_X8_type 150 150 (mst σ now P (text, read, len, spot, fat, fwy, many)) [.ref 144, zI c] Q := by
  refine V_entry ok_X8_type (Nat.le_refl _) (Nat.le_of_ble_eq_true rfl) (V_ls [(0, .ref 144), (1, zI c)] ⟨rfl, rfl, trivial⟩ ?_)
  refine V_iload_n (pc := 0) e_X8_type_0 rfl ?_
  refine V_bipush (pc := 1) (by decide) e_X8_type_1 ?_
  refine V_bipush (pc := 3) (by decide) e_X8_type_3 ?_
  refine V_cS3 (pc := 5) ca_8_32 e_X8_type_5 (by decide) (Nat.le_of_ble_eq_true rfl) (c_X8_in (by omega) (by omega) (by omega) (fun h_in => ?_) (fun h_in => ?_))
  · refine V_if_ne (pc := 8) e_X8_type_8 (by decide) (by decide) (fun _ => ?_) (fun h => absurd h (by decide))
    refine V_aload_n (pc := 13) e_X8_type_13 rfl (Or.inl ⟨_, rfl⟩) ?_
    refine Vm_length (pc := 14) fx_8_166 e_X8_type_14 ?_
    refine V_bipush (pc := 17) (by decide) e_X8_type_17 ?_
    refine V_icmp_ne (pc := 19) e_X8_type_19 (by decide) (by omega) (by decide) (fun h19 => ?_) (fun h19 => ?_)
    · refine V_aload_n (pc := 25) e_X8_type_25 rfl (Or.inl ⟨_, rfl⟩) ?_
      refine V_getR (pc := 26) (q := 5) (j := 148) fx_8_23 e_X8_type_26 rfl rfl (by decide) rfl rfl ?_
      refine V_aload_n (pc := 29) e_X8_type_29 rfl (Or.inl ⟨_, rfl⟩) ?_
      refine Vm_length (pc := 30) fx_8_166 e_X8_type_30 ?_
      refine V_iload_n (pc := 33) e_X8_type_33 rfl ?_
      refine Vm_textS (pc := 34) e_X8_type_34 (by omega) ?_
      refine V_aload_n (pc := 35) e_X8_type_35 rfl (Or.inl ⟨_, rfl⟩) ?_
      refine V_dup (pc := 36) e_X8_type_36 rfl ?_
      refine Vm_length (pc := 37) fx_8_166 e_X8_type_37 ?_
      refine V_iconst (pc := 40) e_X8_type_40 ?_
      refine V_iadd (pc := 41) e_X8_type_41 ?_
      refine Vm_plength (pc := 42) fx_8_166 e_X8_type_42 ?_
      refine V_aload_n (pc := 45) e_X8_type_45 rfl (Or.inl ⟨_, rfl⟩) ?_
      refine Vm_length (pc := 46) fx_8_166 e_X8_type_46 ?_
      refine V_ret (pc := 49) (v := some (zI _)) ⟨e_X8_type_49, _, rfl, rfl⟩ ?_
      exact k3 (by omega) (by omega)
    · refine V_bipush (pc := 22) (by decide) e_X8_type_22 ?_
      refine V_ret (pc := 24) (v := some (zI _)) ⟨e_X8_type_24, _, rfl, rfl⟩ ?_
      exact k2 (by omega) (by omega)
  · refine V_if_ne (pc := 8) e_X8_type_8 (by decide) (by decide) (fun h => absurd (by decide) h) (fun _ => ?_)
    refine V_iconst (pc := 11) e_X8_type_11 ?_
    refine V_ret (pc := 12) (v := some (zI _)) ⟨e_X8_type_12, _, rfl, rfl⟩ ?_
    exact k1 (by omega)
theorem c_X8_clearText {σ : Sto} {now text read : Int → Int} {P : PT} {len spot fat fwy many : Int} {Q : Option Value → Sto → Prop}  (k : Q (some (zI len)) (mst σ now P (text, read, 0, spot, fat, fwy, many))) : Con M_X8_clearText 150 150 (mst σ now P (text, read, len, spot, fat, fwy, many)) [.ref 144] Q := by
  refine V_entry ok_X8_clearText (Nat.le_refl _) (Nat.le_of_ble_eq_true rfl) (V_ls [(0, .ref 144)] ⟨rfl, trivial⟩ ?_)
  refine V_aload_n (pc := 0) e_X8_clearText_0 rfl (Or.inl ⟨_, rfl⟩) ?_
  refine Vm_length (pc := 1) fx_8_166 e_X8_clearText_1 ?_
  refine V_istore_n (pc := 4) e_X8_clearText_4 (by decide) ?_
  refine V_aload_n (pc := 5) e_X8_clearText_5 rfl (Or.inl ⟨_, rfl⟩) ?_
  refine V_iconst (pc := 6) e_X8_clearText_6 ?_
  refine Vm_plength (pc := 7) fx_8_166 e_X8_clearText_7 ?_
  refine V_iload_n (pc := 10) e_X8_clearText_10 rfl ?_
  refine V_ret (pc := 11) (v := some (zI _)) ⟨e_X8_clearText_11, _, rfl, rfl⟩ ?_
  exact k
theorem hfF_s {tx : Int → Int} {ln : Int} {r : Int → Int} {n : Nat} {s m : Int} (h : s < ln) (h2 : whyJ tx ln r s m = 0) : hfF tx ln r (n + 1) s m = hfF tx ln r n (tjE tx ln s) (m + 1) := by
  show (if _ then _ else _) = _
  rw [if_pos h, if_pos h2]
theorem hfF_f {tx : Int → Int} {ln : Int} {r : Int → Int} {n : Nat} {s m : Int} (h : s < ln) (h2 : ¬ whyJ tx ln r s m = 0) : hfF tx ln r (n + 1) s m = (whyJ tx ln r s m, s, m) := by
  show (if _ then _ else _) = _
  rw [if_pos h, if_neg h2]
theorem hfF_e {tx : Int → Int} {ln : Int} {r : Int → Int} {n : Nat} {s m : Int} (h : ¬ s < ln) : hfF tx ln r n s m = (0, s, m) := by
  cases n with
  | zero => rfl
  | succ n =>
    show (if _ then _ else _) = _
    rw [if_neg h]
theorem L_X8_hasFault {σ : Sto} {now text : Int → Int} {P : PT} {len fat fwy : Int} {Q : Option Value → Sto → Prop} (hl : 0 ≤ len ∧ len ≤ 100) (ht : ∀ k : Int, 0 ≤ k → k < len → 32 ≤ text k ∧ text k ≤ 126) (h0 : 0 ≤ now 0 ∧ now 0 ≤ 10) (h13 : 0 ≤ now 13 ∧ now 13 ≤ 1000) : ∀ (n : Nat) (read : Int → Int) (spot many : Int), (0 ≤ spot ∧ spot ≤ len) → len - spot ≤ (n : Int) → (0 ≤ many ∧ many ≤ 10) → (0 < (hfF text len now n spot many).1 → ∀ (rd : Int → Int) (s m : Int), Q (some (zI 1)) (mst σ now P (text, rd, len, s, (hfF text len now n spot many).2.1, (hfF text len now n spot many).1, m))) → ((hfF text len now n spot many).1 = 0 → ∀ (rd : Int → Int) (s : Int), Q (some (zI 0)) (mst σ now P (text, rd, len, s, fat, fwy, (hfF text len now n spot many).2.2))) → V M_X8_hasFault 150 10 [(0, .ref 144)] [] 150 (mst σ now P (text, read, len, spot, fat, fwy, many)) Q := by
  intro n
  induction n with
  | zero =>
    intro read spot many hs hn hm k1 k0
    have e := hfF_e (tx := text) (ln := len) (r := now) (n := 0) (s := spot) (m := many) (by omega)
    refine V_aload_n (pc := 10) e_X8_hasFault_10 rfl (Or.inl ⟨_, rfl⟩) ?_
    refine Vm_spot (pc := 11) fx_8_169 e_X8_hasFault_11 ?_
    refine V_aload_n (pc := 14) e_X8_hasFault_14 rfl (Or.inl ⟨_, rfl⟩) ?_
    refine Vm_length (pc := 15) fx_8_166 e_X8_hasFault_15 ?_
    refine V_icmp_ge (pc := 18) e_X8_hasFault_18 (by decide) (by omega) (by omega) (fun h18 => ?_) (fun h18 => ?_)
    · refine V_iconst (pc := 145) e_X8_hasFault_145 ?_
      refine V_ret (pc := 146) (v := some (zI _)) ⟨e_X8_hasFault_146, _, rfl, by decide⟩ ?_
      rw [e] at k0
      exact k0 rfl _ _
    · exact absurd h18 (by omega)
  | succ n ih =>
    intro read spot many hs hn hm k1 k0
    refine V_aload_n (pc := 10) e_X8_hasFault_10 rfl (Or.inl ⟨_, rfl⟩) ?_
    refine Vm_spot (pc := 11) fx_8_169 e_X8_hasFault_11 ?_
    refine V_aload_n (pc := 14) e_X8_hasFault_14 rfl (Or.inl ⟨_, rfl⟩) ?_
    refine Vm_length (pc := 15) fx_8_166 e_X8_hasFault_15 ?_
    refine V_icmp_ge (pc := 18) e_X8_hasFault_18 (by decide) (by omega) (by omega) (fun h18 => ?_) (fun h18 => ?_)
    · refine V_iconst (pc := 145) e_X8_hasFault_145 ?_
      refine V_ret (pc := 146) (v := some (zI _)) ⟨e_X8_hasFault_146, _, rfl, by decide⟩ ?_
      rw [hfF_e (by omega)] at k0
      exact k0 rfl _ _
    · refine V_aload_n (pc := 21) e_X8_hasFault_21 rfl (Or.inl ⟨_, rfl⟩) ?_
      refine Vm_spot (pc := 22) fx_8_169 e_X8_hasFault_22 ?_
      refine V_istore_n (pc := 25) e_X8_hasFault_25 (by decide) ?_
      refine V_aload_n (pc := 26) e_X8_hasFault_26 rfl (Or.inl ⟨_, rfl⟩) ?_
      refine V_cV0 (pc := 27) ca_8_220 e_X8_hasFault_27 (by decide) (Nat.le_of_ble_eq_true rfl) (by decide) rfl (by decide) (c_X8_takesJob hl (by omega) ht (fun h_tj rd q0 q1 q2 q3 q4 => ?_) (fun h_tj rd s_tj => ?_))
      · refine V_if_ne (pc := 30) e_X8_hasFault_30 (by decide) (by decide) (fun _ => ?_) (fun h => absurd h (by decide))
        have tr := tj_rg hs.1 h_tj
        refine V_aload_n (pc := 37) e_X8_hasFault_37 rfl (Or.inl ⟨_, rfl⟩) ?_
        refine V_getR (pc := 38) (q := 8) (j := 149) fx_8_26 e_X8_hasFault_38 rfl rfl (by decide) rfl rfl ?_
        refine V_iconst (pc := 41) e_X8_hasFault_41 ?_
        refine Vm_read (pc := 42) e_X8_hasFault_42 (by decide) ?_
        refine V_cS1 (pc := 43) ca_8_70 e_X8_hasFault_43 (by decide) (Nat.le_of_ble_eq_true rfl) (c_X8_isPages (by omega) (fun h_pg => ?_) (fun h_pg => ?_))
        · refine V_if_eq (pc := 46) e_X8_hasFault_46 (by decide) (by decide) (fun h => absurd h (by decide)) (fun _ => ?_)
          refine V_aload_n (pc := 49) e_X8_hasFault_49 rfl (Or.inl ⟨_, rfl⟩) ?_
          refine V_getR (pc := 50) (q := 8) (j := 149) fx_8_26 e_X8_hasFault_50 rfl rfl (by decide) rfl rfl ?_
          refine V_iconst (pc := 53) e_X8_hasFault_53 ?_
          refine Vm_read (pc := 54) e_X8_hasFault_54 (by decide) ?_
          refine V_cS1 (pc := 55) ca_8_73 e_X8_hasFault_55 (by decide) (Nat.le_of_ble_eq_true rfl) (c_X8_isCopies (by omega) (fun h_cp => ?_) (fun h_cp => ?_))
          · refine V_if_ne (pc := 58) e_X8_hasFault_58 (by decide) (by decide) (fun _ => ?_) (fun h => absurd h (by decide))
            refine V_aload_n (pc := 65) e_X8_hasFault_65 rfl (Or.inl ⟨_, rfl⟩) ?_
            refine V_aload_n (pc := 66) e_X8_hasFault_66 rfl (Or.inl ⟨_, rfl⟩) ?_
            refine V_getR (pc := 67) (q := 8) (j := 149) fx_8_26 e_X8_hasFault_67 rfl rfl (by decide) rfl rfl ?_
            refine V_iconst (pc := 70) e_X8_hasFault_70 ?_
            refine Vm_read (pc := 71) e_X8_hasFault_71 (by decide) ?_
            refine V_aload_n (pc := 72) e_X8_hasFault_72 rfl (Or.inl ⟨_, rfl⟩) ?_
            refine V_getR (pc := 73) (q := 8) (j := 149) fx_8_26 e_X8_hasFault_73 rfl rfl (by decide) rfl rfl ?_
            refine V_iconst (pc := 76) e_X8_hasFault_76 ?_
            refine Vm_read (pc := 77) e_X8_hasFault_77 (by decide) ?_
            refine V_aload_n (pc := 78) e_X8_hasFault_78 rfl (Or.inl ⟨_, rfl⟩) ?_
            refine V_getR (pc := 79) (q := 8) (j := 149) fx_8_26 e_X8_hasFault_79 rfl rfl (by decide) rfl rfl ?_
            refine V_iconst (pc := 82) e_X8_hasFault_82 ?_
            refine Vm_read (pc := 83) e_X8_hasFault_83 (by decide) ?_
            have wr : 0 ≤ wny now (rd 0) (rd 3) (rd 4) ∧ wny now (rd 0) (rd 3) (rd 4) ≤ 4 := by unfold wny; (repeat' split) <;> omega
            refine V_cV3 (pc := 84) ca_8_76 e_X8_hasFault_84 (by decide) (Nat.le_of_ble_eq_true rfl) (by decide) rfl (by decide) (c_X8_whyNot h13 (by omega) (by omega) (by omega) ?_)
            have eq : wny now (rd 0) (rd 3) (rd 4) = wny now (tjP text len spot) (tjK text len spot) (tjH text len spot) := by rw [q0, q3, q4]
            refine V_if_le (pc := 87) e_X8_hasFault_87 (by decide) (by omega) (fun h87 => ?_) (fun h87 => ?_)
            · refine V_aload_n (pc := 94) e_X8_hasFault_94 rfl (Or.inl ⟨_, rfl⟩) ?_
              refine V_getR (pc := 95) (q := 0) (j := 145) fx_8_7 e_X8_hasFault_95 rfl rfl (by decide) rfl rfl ?_
              refine V_iconst (pc := 98) e_X8_hasFault_98 ?_
              refine Vm_now (pc := 99) e_X8_hasFault_99 (by decide) ?_
              refine V_aload_n (pc := 100) e_X8_hasFault_100 rfl (Or.inl ⟨_, rfl⟩) ?_
              refine Vm_many (pc := 101) fx_8_217 e_X8_hasFault_101 ?_
              refine V_iadd (pc := 104) e_X8_hasFault_104 ?_
              refine V_bipush (pc := 105) (by decide) e_X8_hasFault_105 ?_
              refine V_icmp_lt (pc := 107) e_X8_hasFault_107 (by decide) (by omega) (by decide) (fun h107 => ?_) (fun h107 => ?_)
              · refine V_iconst (pc := 114) e_X8_hasFault_114 ?_
                refine V_istore_n (pc := 115) e_X8_hasFault_115 (by decide) ?_
                have ew : whyJ text len now spot many = 0 := by
                  unfold whyJ
                  first
                    | rw [if_pos h_tj]
                    | rw [if_neg (fun z => z h_tj), if_pos (by omega)]
                    | rw [if_neg (fun z => z h_tj), if_neg (by omega), if_pos (by omega)]
                    | rw [if_neg (fun z => z h_tj), if_neg (by omega), if_neg (by omega), if_pos (by omega)]
                    | rw [if_neg (fun z => z h_tj), if_neg (by omega), if_neg (by omega), if_neg (by omega)]
                refine V_iload_n (pc := 116) e_X8_hasFault_116 rfl ?_
                refine V_if_le (pc := 117) e_X8_hasFault_117 (by decide) (by decide) (fun _ => ?_) (fun h => absurd (by decide) h)
                refine V_aload_n (pc := 132) e_X8_hasFault_132 rfl (Or.inl ⟨_, rfl⟩) ?_
                refine V_dup (pc := 133) e_X8_hasFault_133 rfl ?_
                refine Vm_many (pc := 134) fx_8_217 e_X8_hasFault_134 ?_
                refine V_iconst (pc := 137) e_X8_hasFault_137 ?_
                refine V_iadd (pc := 138) e_X8_hasFault_138 ?_
                refine Vm_pmany (pc := 139) fx_8_217 e_X8_hasFault_139 ?_
                refine V_goto (pc := 142) e_X8_hasFault_142 (by decide) ?_
                rw [hfF_s (by omega) ew] at k1 k0
                exact V_lq [(0, .ref 144)] ⟨⟨_, rfl, rfl⟩, trivial⟩ (ih _ _ _ (by omega) (by omega) (by have := (whyJ_0 ew).2.2.2; omega) k1 k0)
              · refine V_iconst (pc := 110) e_X8_hasFault_110 ?_
                refine V_goto (pc := 111) e_X8_hasFault_111 (by decide) ?_
                refine V_istore_n (pc := 115) e_X8_hasFault_115 (by decide) ?_
                have ew : whyJ text len now spot many = 4 := by
                  unfold whyJ
                  first
                    | rw [if_pos h_tj]
                    | rw [if_neg (fun z => z h_tj), if_pos (by omega)]
                    | rw [if_neg (fun z => z h_tj), if_neg (by omega), if_pos (by omega)]
                    | rw [if_neg (fun z => z h_tj), if_neg (by omega), if_neg (by omega), if_pos (by omega)]
                    | rw [if_neg (fun z => z h_tj), if_neg (by omega), if_neg (by omega), if_neg (by omega)]
                refine V_iload_n (pc := 116) e_X8_hasFault_116 rfl ?_
                refine V_if_le (pc := 117) e_X8_hasFault_117 (by decide) (by decide) (fun h => absurd h (by decide)) (fun _ => ?_)
                refine V_aload_n (pc := 120) e_X8_hasFault_120 rfl (Or.inl ⟨_, rfl⟩) ?_
                refine V_iload_n (pc := 121) e_X8_hasFault_121 rfl ?_
                refine Vm_pfat (pc := 122) fx_8_223 e_X8_hasFault_122 ?_
                refine V_aload_n (pc := 125) e_X8_hasFault_125 rfl (Or.inl ⟨_, rfl⟩) ?_
                refine V_iload_n (pc := 126) e_X8_hasFault_126 rfl ?_
                refine Vm_pfwy (pc := 127) fx_8_226 e_X8_hasFault_127 ?_
                refine V_iconst (pc := 130) e_X8_hasFault_130 ?_
                refine V_ret (pc := 131) (v := some (zI _)) ⟨e_X8_hasFault_131, _, rfl, by decide⟩ ?_
                rw [hfF_f (by omega) (by omega)] at k1
                rw [ew] at k1
                exact k1 (show (0 : Int) < 4 by decide) _ _ _
            · refine V_iconst (pc := 90) e_X8_hasFault_90 ?_
              refine V_goto (pc := 91) e_X8_hasFault_91 (by decide) ?_
              refine V_istore_n (pc := 115) e_X8_hasFault_115 (by decide) ?_
              have ew : whyJ text len now spot many = 3 := by
                unfold whyJ
                first
                  | rw [if_pos h_tj]
                  | rw [if_neg (fun z => z h_tj), if_pos (by omega)]
                  | rw [if_neg (fun z => z h_tj), if_neg (by omega), if_pos (by omega)]
                  | rw [if_neg (fun z => z h_tj), if_neg (by omega), if_neg (by omega), if_pos (by omega)]
                  | rw [if_neg (fun z => z h_tj), if_neg (by omega), if_neg (by omega), if_neg (by omega)]
              refine V_iload_n (pc := 116) e_X8_hasFault_116 rfl ?_
              refine V_if_le (pc := 117) e_X8_hasFault_117 (by decide) (by decide) (fun h => absurd h (by decide)) (fun _ => ?_)
              refine V_aload_n (pc := 120) e_X8_hasFault_120 rfl (Or.inl ⟨_, rfl⟩) ?_
              refine V_iload_n (pc := 121) e_X8_hasFault_121 rfl ?_
              refine Vm_pfat (pc := 122) fx_8_223 e_X8_hasFault_122 ?_
              refine V_aload_n (pc := 125) e_X8_hasFault_125 rfl (Or.inl ⟨_, rfl⟩) ?_
              refine V_iload_n (pc := 126) e_X8_hasFault_126 rfl ?_
              refine Vm_pfwy (pc := 127) fx_8_226 e_X8_hasFault_127 ?_
              refine V_iconst (pc := 130) e_X8_hasFault_130 ?_
              refine V_ret (pc := 131) (v := some (zI _)) ⟨e_X8_hasFault_131, _, rfl, by decide⟩ ?_
              rw [hfF_f (by omega) (by omega)] at k1
              rw [ew] at k1
              exact k1 (show (0 : Int) < 3 by decide) _ _ _
          · refine V_if_ne (pc := 58) e_X8_hasFault_58 (by decide) (by decide) (fun h => absurd (by decide) h) (fun _ => ?_)
            refine V_iconst (pc := 61) e_X8_hasFault_61 ?_
            refine V_goto (pc := 62) e_X8_hasFault_62 (by decide) ?_
            refine V_istore_n (pc := 115) e_X8_hasFault_115 (by decide) ?_
            have ew : whyJ text len now spot many = 2 := by
              unfold whyJ
              first
                | rw [if_pos h_tj]
                | rw [if_neg (fun z => z h_tj), if_pos (by omega)]
                | rw [if_neg (fun z => z h_tj), if_neg (by omega), if_pos (by omega)]
                | rw [if_neg (fun z => z h_tj), if_neg (by omega), if_neg (by omega), if_pos (by omega)]
                | rw [if_neg (fun z => z h_tj), if_neg (by omega), if_neg (by omega), if_neg (by omega)]
            refine V_iload_n (pc := 116) e_X8_hasFault_116 rfl ?_
            refine V_if_le (pc := 117) e_X8_hasFault_117 (by decide) (by decide) (fun h => absurd h (by decide)) (fun _ => ?_)
            refine V_aload_n (pc := 120) e_X8_hasFault_120 rfl (Or.inl ⟨_, rfl⟩) ?_
            refine V_iload_n (pc := 121) e_X8_hasFault_121 rfl ?_
            refine Vm_pfat (pc := 122) fx_8_223 e_X8_hasFault_122 ?_
            refine V_aload_n (pc := 125) e_X8_hasFault_125 rfl (Or.inl ⟨_, rfl⟩) ?_
            refine V_iload_n (pc := 126) e_X8_hasFault_126 rfl ?_
            refine Vm_pfwy (pc := 127) fx_8_226 e_X8_hasFault_127 ?_
            refine V_iconst (pc := 130) e_X8_hasFault_130 ?_
            refine V_ret (pc := 131) (v := some (zI _)) ⟨e_X8_hasFault_131, _, rfl, by decide⟩ ?_
            rw [hfF_f (by omega) (by omega)] at k1
            rw [ew] at k1
            exact k1 (show (0 : Int) < 2 by decide) _ _ _
        · refine V_if_eq (pc := 46) e_X8_hasFault_46 (by decide) (by decide) (fun _ => ?_) (fun h => absurd (by decide) h)
          refine V_iconst (pc := 61) e_X8_hasFault_61 ?_
          refine V_goto (pc := 62) e_X8_hasFault_62 (by decide) ?_
          refine V_istore_n (pc := 115) e_X8_hasFault_115 (by decide) ?_
          have ew : whyJ text len now spot many = 2 := by
            unfold whyJ
            first
              | rw [if_pos h_tj]
              | rw [if_neg (fun z => z h_tj), if_pos (by omega)]
              | rw [if_neg (fun z => z h_tj), if_neg (by omega), if_pos (by omega)]
              | rw [if_neg (fun z => z h_tj), if_neg (by omega), if_neg (by omega), if_pos (by omega)]
              | rw [if_neg (fun z => z h_tj), if_neg (by omega), if_neg (by omega), if_neg (by omega)]
          refine V_iload_n (pc := 116) e_X8_hasFault_116 rfl ?_
          refine V_if_le (pc := 117) e_X8_hasFault_117 (by decide) (by decide) (fun h => absurd h (by decide)) (fun _ => ?_)
          refine V_aload_n (pc := 120) e_X8_hasFault_120 rfl (Or.inl ⟨_, rfl⟩) ?_
          refine V_iload_n (pc := 121) e_X8_hasFault_121 rfl ?_
          refine Vm_pfat (pc := 122) fx_8_223 e_X8_hasFault_122 ?_
          refine V_aload_n (pc := 125) e_X8_hasFault_125 rfl (Or.inl ⟨_, rfl⟩) ?_
          refine V_iload_n (pc := 126) e_X8_hasFault_126 rfl ?_
          refine Vm_pfwy (pc := 127) fx_8_226 e_X8_hasFault_127 ?_
          refine V_iconst (pc := 130) e_X8_hasFault_130 ?_
          refine V_ret (pc := 131) (v := some (zI _)) ⟨e_X8_hasFault_131, _, rfl, by decide⟩ ?_
          rw [hfF_f (by omega) (by omega)] at k1
          rw [ew] at k1
          exact k1 (show (0 : Int) < 2 by decide) _ _ _
      · refine V_if_ne (pc := 30) e_X8_hasFault_30 (by decide) (by decide) (fun h => absurd (by decide) h) (fun _ => ?_)
        refine V_iconst (pc := 33) e_X8_hasFault_33 ?_
        refine V_goto (pc := 34) e_X8_hasFault_34 (by decide) ?_
        refine V_istore_n (pc := 115) e_X8_hasFault_115 (by decide) ?_
        have ew : whyJ text len now spot many = 1 := by
          unfold whyJ
          first
            | rw [if_pos h_tj]
            | rw [if_neg (fun z => z h_tj), if_pos (by omega)]
            | rw [if_neg (fun z => z h_tj), if_neg (by omega), if_pos (by omega)]
            | rw [if_neg (fun z => z h_tj), if_neg (by omega), if_neg (by omega), if_pos (by omega)]
            | rw [if_neg (fun z => z h_tj), if_neg (by omega), if_neg (by omega), if_neg (by omega)]
        refine V_iload_n (pc := 116) e_X8_hasFault_116 rfl ?_
        refine V_if_le (pc := 117) e_X8_hasFault_117 (by decide) (by decide) (fun h => absurd h (by decide)) (fun _ => ?_)
        refine V_aload_n (pc := 120) e_X8_hasFault_120 rfl (Or.inl ⟨_, rfl⟩) ?_
        refine V_iload_n (pc := 121) e_X8_hasFault_121 rfl ?_
        refine Vm_pfat (pc := 122) fx_8_223 e_X8_hasFault_122 ?_
        refine V_aload_n (pc := 125) e_X8_hasFault_125 rfl (Or.inl ⟨_, rfl⟩) ?_
        refine V_iload_n (pc := 126) e_X8_hasFault_126 rfl ?_
        refine Vm_pfwy (pc := 127) fx_8_226 e_X8_hasFault_127 ?_
        refine V_iconst (pc := 130) e_X8_hasFault_130 ?_
        refine V_ret (pc := 131) (v := some (zI _)) ⟨e_X8_hasFault_131, _, rfl, by decide⟩ ?_
        rw [hfF_f (by omega) (by omega)] at k1
        rw [ew] at k1
        exact k1 (show (0 : Int) < 1 by decide) _ _ _
theorem c_X8_hasFault {σ : Sto} {now text read : Int → Int} {P : PT} {len spot fat fwy many : Int} {Q : Option Value → Sto → Prop} (hl : 0 ≤ len ∧ len ≤ 100) (ht : ∀ k : Int, 0 ≤ k → k < len → 32 ≤ text k ∧ text k ≤ 126) (h0 : 0 ≤ now 0 ∧ now 0 ≤ 10) (h13 : 0 ≤ now 13 ∧ now 13 ≤ 1000) (k1 : 0 < (hfF text len now 100 0 0).1 → ∀ (rd : Int → Int) (s m : Int), Q (some (zI 1)) (mst σ now P (text, rd, len, s, (hfF text len now 100 0 0).2.1, (hfF text len now 100 0 0).1, m))) (k0 : (hfF text len now 100 0 0).1 = 0 → ∀ (rd : Int → Int) (s : Int), Q (some (zI 0)) (mst σ now P (text, rd, len, s, fat, fwy, (hfF text len now 100 0 0).2.2))) : Con M_X8_hasFault 150 150 (mst σ now P (text, read, len, spot, fat, fwy, many)) [.ref 144] Q := by
  refine V_entry ok_X8_hasFault (Nat.le_refl _) (Nat.le_of_ble_eq_true rfl) (V_ls [(0, .ref 144)] ⟨rfl, trivial⟩ ?_)
  refine V_aload_n (pc := 0) e_X8_hasFault_0 rfl (Or.inl ⟨_, rfl⟩) ?_
  refine V_iconst (pc := 1) e_X8_hasFault_1 ?_
  refine Vm_pspot (pc := 2) fx_8_169 e_X8_hasFault_2 ?_
  refine V_aload_n (pc := 5) e_X8_hasFault_5 rfl (Or.inl ⟨_, rfl⟩) ?_
  refine V_iconst (pc := 6) e_X8_hasFault_6 ?_
  refine Vm_pmany (pc := 7) fx_8_217 e_X8_hasFault_7 ?_
  exact V_lq [(0, .ref 144)] ⟨⟨_, rfl, rfl⟩, trivial⟩ (L_X8_hasFault hl ht h0 h13 100 read 0 0 (by omega) (by omega) (by omega) k1 k0)
theorem c_X8_fault {σ : Sto} {now text read : Int → Int} {P : PT} {len spot fat fwy many : Int} {Q : Option Value → Sto → Prop} {w : Int} (hl : 0 ≤ len ∧ len ≤ 100) (ht : ∀ k : Int, 0 ≤ k → k < len → 32 ≤ text k ∧ text k ≤ 126) (h0 : 0 ≤ now 0 ∧ now 0 ≤ 10) (h13 : 0 ≤ now 13 ∧ now 13 ≤ 1000) (r_w : -2147483648 ≤ w ∧ w < 2147483648) (k1 : ¬ (0 ≤ w ∧ w ≤ 1) → Q (some (zI (-1))) (mst σ now P (text, read, len, spot, fat, fwy, many))) (k2 : (0 ≤ w ∧ w ≤ 1) → (hfF text len now 100 0 0).1 = 0 → ∀ (rd : Int → Int) (s f g m : Int), Q (some (zI (-4))) (mst σ now P (text, rd, len, s, f, g, m))) (k3 : (0 ≤ w ∧ w ≤ 1) → 0 < (hfF text len now 100 0 0).1 → ∀ (rd : Int → Int) (s f g m : Int), Q (some (zI (if w = 0 then (hfF text len now 100 0 0).2.1 else (hfF text len now 100 0 0).1))) (mst σ now P (text, rd, len, s, f, g, m))) : Con M_X8_fault 150 150 (mst σ now P (text, read, len, spot, fat, fwy, many)) [.ref 144, zI w] Q := by
  refine V_entry ok_X8_fault (Nat.le_refl _) (Nat.le_of_ble_eq_true rfl) (V_ls [(0, .ref 144), (1, zI w)] ⟨rfl, rfl, trivial⟩ ?_)
  refine V_iload_n (pc := 0) e_X8_fault_0 rfl ?_
  refine V_iconst (pc := 1) e_X8_fault_1 ?_
  refine V_iconst (pc := 2) e_X8_fault_2 ?_
  refine V_cS3 (pc := 3) ca_8_32 e_X8_fault_3 (by decide) (Nat.le_of_ble_eq_true rfl) (c_X8_in (by omega) (by omega) (by omega) (fun h_in => ?_) (fun h_in => ?_))
  · refine V_if_ne (pc := 6) e_X8_fault_6 (by decide) (by decide) (fun _ => ?_) (fun h => absurd h (by decide))
    refine V_aload_n (pc := 11) e_X8_fault_11 rfl (Or.inl ⟨_, rfl⟩) ?_
    refine V_cV0 (pc := 12) ca_8_229 e_X8_fault_12 (by decide) (Nat.le_of_ble_eq_true rfl) (by decide) rfl (by decide) (c_X8_hasFault hl ht h0 h13 (fun h_hf rd s_hf m_hf => ?_) (fun h_hf rd s_hf => ?_))
    · refine V_if_ne (pc := 15) e_X8_fault_15 (by decide) (by decide) (fun _ => ?_) (fun h => absurd h (by decide))
      refine V_iload_n (pc := 23) e_X8_fault_23 rfl ?_
      refine V_if_ne (pc := 24) e_X8_fault_24 (by decide) (by omega) (fun h24 => ?_) (fun h24 => ?_)
      · refine V_aload_n (pc := 34) e_X8_fault_34 rfl (Or.inl ⟨_, rfl⟩) ?_
        refine Vm_fwy (pc := 35) fx_8_226 e_X8_fault_35 ?_
        refine V_ret (pc := 38) (v := some (zI _)) ⟨e_X8_fault_38, _, rfl, rfl⟩ ?_
        first
          | exact k2 (by omega) h_hf _ _ _ _ _
          | exact Qv (k3 (by omega) h_hf _ _ _ _ _) (by first | rw [if_pos h24] | rw [if_neg h24]) rfl
      · refine V_aload_n (pc := 27) e_X8_fault_27 rfl (Or.inl ⟨_, rfl⟩) ?_
        refine Vm_fat (pc := 28) fx_8_223 e_X8_fault_28 ?_
        refine V_goto (pc := 31) e_X8_fault_31 (by decide) ?_
        refine V_ret (pc := 38) (v := some (zI _)) ⟨e_X8_fault_38, _, rfl, rfl⟩ ?_
        first
          | exact k2 (by omega) h_hf _ _ _ _ _
          | exact Qv (k3 (by omega) h_hf _ _ _ _ _) (by first | rw [if_pos h24] | rw [if_neg h24]) rfl
    · refine V_if_ne (pc := 15) e_X8_fault_15 (by decide) (by decide) (fun h => absurd (by decide) h) (fun _ => ?_)
      refine V_bipush (pc := 18) (by decide) e_X8_fault_18 ?_
      refine V_goto (pc := 20) e_X8_fault_20 (by decide) ?_
      refine V_ret (pc := 38) (v := some (zI _)) ⟨e_X8_fault_38, _, rfl, rfl⟩ ?_
      first
        | exact k2 (by omega) h_hf _ _ _ _ _
        | exact Qv (k3 (by omega) h_hf _ _ _ _ _) (by first | rw [if_pos h24] | rw [if_neg h24]) rfl
  · refine V_if_ne (pc := 6) e_X8_fault_6 (by decide) (by decide) (fun h => absurd (by decide) h) (fun _ => ?_)
    refine V_iconst (pc := 9) e_X8_fault_9 ?_
    refine V_ret (pc := 10) (v := some (zI _)) ⟨e_X8_fault_10, _, rfl, rfl⟩ ?_
    exact k1 (by omega)
/-- the rows behind the jobs of a text, and that they are of the form -/
noncomputable def entF (tx : Int → Int) (ln : Int) : Nat → (Int → Int) → Int → (Int → Int)
  | 0, r, _ => r
  | n + 1, r, s => entF tx ln n (comesF r (tjP tx ln s) (tjC tx ln s) (tjS tx ln s) (tjK tx ln s) (tjH tx ln s)) (tjE tx ln s)
def chn (tx : Int → Int) (ln : Int) : Nat → Int → Prop
  | 0, _ => True
  | n + 1, s => tjO tx ln s ∧ chn tx ln n (tjE tx ln s)
theorem comesF_0 {r : Int → Int} {pg cp sz kd hw : Int} (h0 : 0 ≤ r 0) : comesF r pg cp sz kd hw 0 = r 0 + 1 := by
  unfold comesF inc
  rw [up1_ne (by decide), up1_at]
  (repeat rw [up1_ne (by omega)])
theorem hfF_ok {tx : Int → Int} {ln : Int} {r : Int → Int} : ∀ (n : Nat) (s m : Int), 0 ≤ s → s ≤ ln → 0 ≤ m → r 0 + m ≤ 10 → (hfF tx ln r n s m).1 = 0 → m ≤ (hfF tx ln r n s m).2.2 ∧ r 0 + (hfF tx ln r n s m).2.2 ≤ 10 ∧ chn tx ln ((hfF tx ln r n s m).2.2 - m).toNat s := by
  intro n
  induction n with
  | zero =>
    intro s m h0 h1 h2 h3 h
    refine ⟨Int.le_refl _, h3, ?_⟩
    show chn tx ln (m - m).toNat s
    rw [show (m - m).toNat = 0 by omega]
    trivial
  | succ n ih =>
    intro s m h0 h1 h2 h3 h
    by_cases y : s < ln
    · by_cases z : whyJ tx ln r s m = 0
      · have w := whyJ_0 z
        have t := tj_rg h0 w.1
        rw [hfF_s y z] at h ⊢
        obtain ⟨a, b, c⟩ := ih (tjE tx ln s) (m + 1) (by omega) (by omega) (by omega) (by omega) h
        refine ⟨by omega, b, ?_⟩
        rw [show ((hfF tx ln r n (tjE tx ln s) (m + 1)).2.2 - m).toNat = ((hfF tx ln r n (tjE tx ln s) (m + 1)).2.2 - (m + 1)).toNat + 1 by omega]
        exact ⟨w.1, c⟩
      · rw [hfF_f y z] at h
        exact absurd h z
    · rw [hfF_e y] at h ⊢
      refine ⟨Int.le_refl _, h3, ?_⟩
      show chn tx ln (m - m).toNat s
      rw [show (m - m).toNat = 0 by omega]
      trivial
theorem L_X8_enter {σ : Sto} {text : Int → Int} {P : PT} {len : Int} {M : Nat} {Q : Option Value → Sto → Prop} (hl : 0 ≤ len ∧ len ≤ 100) (ht : ∀ k : Int, 0 ≤ k → k < len → 32 ≤ text k ∧ text k ≤ 126) (hM : M ≤ 10) : ∀ (r n : Nat) (now read : Int → Int) (spot fat fwy many : Int), n + r = M → (0 ≤ spot ∧ spot ≤ len) → chn text len r spot → (0 ≤ now 0 ∧ now 0 + (r : Int) ≤ 10) → (∀ (rd : Int → Int) (s f g m : Int), Q (some (zI (M : Int))) (mst σ (entF text len r now spot) P (text, rd, len, s, f, g, m))) → V M_X8_enter 150 26 [(0, .ref 144), (1, zI (M : Int)), (2, zI (n : Int))] [] 150 (mst σ now P (text, read, len, spot, fat, fwy, many)) Q := by
  intro r
  induction r with
  | zero =>
    intro n now read spot fat fwy many hn hs hc hr k
    refine V_iload_n (pc := 26) e_X8_enter_26 rfl ?_
    refine V_iload_n (pc := 27) e_X8_enter_27 rfl ?_
    refine V_icmp_ge (pc := 28) e_X8_enter_28 (by decide) (by omega) (by omega) (fun h28 => ?_) (fun h28 => ?_)
    · refine V_iload_n (pc := 78) e_X8_enter_78 rfl ?_
      refine V_ret (pc := 79) (v := some (zI _)) ⟨e_X8_enter_79, _, rfl, rfl⟩ ?_
      exact k _ _ _ _ _
    · exact absurd h28 (by omega)
  | succ r ih =>
    intro n now read spot fat fwy many hn hs hc hr k
    have tr := tj_rg hs.1 hc.1
    refine V_iload_n (pc := 26) e_X8_enter_26 rfl ?_
    refine V_iload_n (pc := 27) e_X8_enter_27 rfl ?_
    refine V_icmp_ge (pc := 28) e_X8_enter_28 (by decide) (by omega) (by omega) (fun h28 => ?_) (fun h28 => ?_)
    · refine V_iload_n (pc := 78) e_X8_enter_78 rfl ?_
      refine V_ret (pc := 79) (v := some (zI _)) ⟨e_X8_enter_79, _, rfl, rfl⟩ ?_
      exact absurd h28 (by omega)
    · refine V_aload_n (pc := 31) e_X8_enter_31 rfl (Or.inl ⟨_, rfl⟩) ?_
      refine V_cV0 (pc := 32) ca_8_220 e_X8_enter_32 (by decide) (Nat.le_of_ble_eq_true rfl) (by decide) rfl (by decide) (c_X8_takesJob hl (by omega) ht (fun h_tj rd q0 q1 q2 q3 q4 => ?_) (fun h_tj rd s_tj => ?_))
      · refine V_istore_n (pc := 35) e_X8_enter_35 (by decide) ?_
        refine V_aload_n (pc := 36) e_X8_enter_36 rfl (Or.inl ⟨_, rfl⟩) ?_
        refine V_aload_n (pc := 37) e_X8_enter_37 rfl (Or.inl ⟨_, rfl⟩) ?_
        refine V_getR (pc := 38) (q := 8) (j := 149) fx_8_26 e_X8_enter_38 rfl rfl (by decide) rfl rfl ?_
        refine V_iconst (pc := 41) e_X8_enter_41 ?_
        refine Vm_read (pc := 42) e_X8_enter_42 (by decide) ?_
        refine V_aload_n (pc := 43) e_X8_enter_43 rfl (Or.inl ⟨_, rfl⟩) ?_
        refine V_getR (pc := 44) (q := 8) (j := 149) fx_8_26 e_X8_enter_44 rfl rfl (by decide) rfl rfl ?_
        refine V_iconst (pc := 47) e_X8_enter_47 ?_
        refine Vm_read (pc := 48) e_X8_enter_48 (by decide) ?_
        refine V_aload_n (pc := 49) e_X8_enter_49 rfl (Or.inl ⟨_, rfl⟩) ?_
        refine V_getR (pc := 50) (q := 8) (j := 149) fx_8_26 e_X8_enter_50 rfl rfl (by decide) rfl rfl ?_
        refine V_iconst (pc := 53) e_X8_enter_53 ?_
        refine Vm_read (pc := 54) e_X8_enter_54 (by decide) ?_
        refine V_aload_n (pc := 55) e_X8_enter_55 rfl (Or.inl ⟨_, rfl⟩) ?_
        refine V_getR (pc := 56) (q := 8) (j := 149) fx_8_26 e_X8_enter_56 rfl rfl (by decide) rfl rfl ?_
        refine V_iconst (pc := 59) e_X8_enter_59 ?_
        refine Vm_read (pc := 60) e_X8_enter_60 (by decide) ?_
        refine V_aload_n (pc := 61) e_X8_enter_61 rfl (Or.inl ⟨_, rfl⟩) ?_
        refine V_getR (pc := 62) (q := 8) (j := 149) fx_8_26 e_X8_enter_62 rfl rfl (by decide) rfl rfl ?_
        refine V_iconst (pc := 65) e_X8_enter_65 ?_
        refine Vm_read (pc := 66) e_X8_enter_66 (by decide) ?_
        refine V_cV5 (pc := 67) ca_8_80 e_X8_enter_67 (by decide) (Nat.le_of_ble_eq_true rfl) (by decide) rfl (by decide) (c_X8_comes (now := now) (by omega) ?_)
        refine V_istore (pc := 70) e_X8_enter_70 (by decide) ?_
        refine V_iinc (pc := 72) e_X8_enter_72 rfl (by decide) ?_
        refine V_goto (pc := 75) e_X8_enter_75 (by decide) ?_
        first
          | exact absurd hc.1 h_tj
          | (rw [q0, q1, q2, q3, q4]
             exact V_lq [(0, .ref 144), (1, zI (M : Int)), (2, zI ((n + 1 : Nat) : Int))] ⟨⟨_, rfl, rfl⟩, ⟨_, rfl, rfl⟩, ⟨_, rfl, rfl⟩, trivial⟩ (ih (n + 1) _ _ _ _ _ _ (by omega) (by omega) hc.2 (by rw [comesF_0 (by omega)]; omega) k))
      · refine V_istore_n (pc := 35) e_X8_enter_35 (by decide) ?_
        refine V_aload_n (pc := 36) e_X8_enter_36 rfl (Or.inl ⟨_, rfl⟩) ?_
        refine V_aload_n (pc := 37) e_X8_enter_37 rfl (Or.inl ⟨_, rfl⟩) ?_
        refine V_getR (pc := 38) (q := 8) (j := 149) fx_8_26 e_X8_enter_38 rfl rfl (by decide) rfl rfl ?_
        refine V_iconst (pc := 41) e_X8_enter_41 ?_
        refine Vm_read (pc := 42) e_X8_enter_42 (by decide) ?_
        refine V_aload_n (pc := 43) e_X8_enter_43 rfl (Or.inl ⟨_, rfl⟩) ?_
        refine V_getR (pc := 44) (q := 8) (j := 149) fx_8_26 e_X8_enter_44 rfl rfl (by decide) rfl rfl ?_
        refine V_iconst (pc := 47) e_X8_enter_47 ?_
        refine Vm_read (pc := 48) e_X8_enter_48 (by decide) ?_
        refine V_aload_n (pc := 49) e_X8_enter_49 rfl (Or.inl ⟨_, rfl⟩) ?_
        refine V_getR (pc := 50) (q := 8) (j := 149) fx_8_26 e_X8_enter_50 rfl rfl (by decide) rfl rfl ?_
        refine V_iconst (pc := 53) e_X8_enter_53 ?_
        refine Vm_read (pc := 54) e_X8_enter_54 (by decide) ?_
        refine V_aload_n (pc := 55) e_X8_enter_55 rfl (Or.inl ⟨_, rfl⟩) ?_
        refine V_getR (pc := 56) (q := 8) (j := 149) fx_8_26 e_X8_enter_56 rfl rfl (by decide) rfl rfl ?_
        refine V_iconst (pc := 59) e_X8_enter_59 ?_
        refine Vm_read (pc := 60) e_X8_enter_60 (by decide) ?_
        refine V_aload_n (pc := 61) e_X8_enter_61 rfl (Or.inl ⟨_, rfl⟩) ?_
        refine V_getR (pc := 62) (q := 8) (j := 149) fx_8_26 e_X8_enter_62 rfl rfl (by decide) rfl rfl ?_
        refine V_iconst (pc := 65) e_X8_enter_65 ?_
        refine Vm_read (pc := 66) e_X8_enter_66 (by decide) ?_
        refine V_cV5 (pc := 67) ca_8_80 e_X8_enter_67 (by decide) (Nat.le_of_ble_eq_true rfl) (by decide) rfl (by decide) (c_X8_comes (now := now) (by omega) ?_)
        refine V_istore (pc := 70) e_X8_enter_70 (by decide) ?_
        refine V_iinc (pc := 72) e_X8_enter_72 rfl (by decide) ?_
        refine V_goto (pc := 75) e_X8_enter_75 (by decide) ?_
        first
          | exact absurd hc.1 h_tj
          | (rw [q0, q1, q2, q3, q4]
             exact V_lq [(0, .ref 144), (1, zI (M : Int)), (2, zI ((n + 1 : Nat) : Int))] ⟨⟨_, rfl, rfl⟩, ⟨_, rfl, rfl⟩, ⟨_, rfl, rfl⟩, trivial⟩ (ih (n + 1) _ _ _ _ _ _ (by omega) (by omega) hc.2 (by rw [comesF_0 (by omega)]; omega) k))
theorem c_X8_enter {σ : Sto} {now past aside text read : Int → Int} {sv rf len spot fat fwy many : Int} {Q : Option Value → Sto → Prop} (hv : 0 ≤ sv ∧ sv ≤ 4) (hl : 0 ≤ len ∧ len ≤ 100) (ht : ∀ k : Int, 0 ≤ k → k < len → 32 ≤ text k ∧ text k ≤ 126) (h0 : 0 ≤ now 0 ∧ now 0 ≤ 10) (h13 : 0 ≤ now 13 ∧ now 13 ≤ 1000) (k1 : 0 < (hfF text len now 100 0 0).1 → ∀ (rd : Int → Int) (s f g m : Int), Q (some (zI (-2))) (mst σ now (past, aside, sv, rf) (text, rd, len, s, f, g, m))) (k2 : (hfF text len now 100 0 0).1 = 0 → ∀ (rd : Int → Int) (s f g m : Int), Q (some (zI (hfF text len now 100 0 0).2.2)) (mst σ (entF text len (hfF text len now 100 0 0).2.2.toNat now 0) (recP now past sv, aside, recS sv, rf) (text, rd, len, s, f, g, m))) : Con M_X8_enter 150 150 (mst σ now (past, aside, sv, rf) (text, read, len, spot, fat, fwy, many)) [.ref 144] Q := by
  refine V_entry ok_X8_enter (Nat.le_refl _) (Nat.le_of_ble_eq_true rfl) (V_ls [(0, .ref 144)] ⟨rfl, trivial⟩ ?_)
  have hk := hfF_ok (tx := text) (ln := len) (r := now) 100 0 0 (by decide) hl.1 (by decide) (by omega)
  refine V_aload_n (pc := 0) e_X8_enter_0 rfl (Or.inl ⟨_, rfl⟩) ?_
  refine V_cV0 (pc := 1) ca_8_229 e_X8_enter_1 (by decide) (Nat.le_of_ble_eq_true rfl) (by decide) rfl (by decide) (c_X8_hasFault hl ht h0 h13 (fun h_hf rd s_hf m_hf => ?_) (fun h_hf rd s_hf => ?_))
  · refine V_if_eq (pc := 4) e_X8_enter_4 (by decide) (by decide) (fun h => absurd h (by decide)) (fun _ => ?_)
    refine V_bipush (pc := 7) (by decide) e_X8_enter_7 ?_
    refine V_ret (pc := 9) (v := some (zI _)) ⟨e_X8_enter_9, _, rfl, rfl⟩ ?_
    exact k1 h_hf _ _ _ _ _
  · refine V_if_eq (pc := 4) e_X8_enter_4 (by decide) (by decide) (fun _ => ?_) (fun h => absurd (by decide) h)
    refine V_aload_n (pc := 10) e_X8_enter_10 rfl (Or.inl ⟨_, rfl⟩) ?_
    refine V_cV0 (pc := 11) ca_8_40 e_X8_enter_11 (by decide) (Nat.le_of_ble_eq_true rfl) (by decide) rfl (by decide) (c_X8_records (by omega) ?_)
    refine V_aload_n (pc := 14) e_X8_enter_14 rfl (Or.inl ⟨_, rfl⟩) ?_
    refine Vm_many (pc := 15) fx_8_217 e_X8_enter_15 ?_
    refine V_istore_n (pc := 18) e_X8_enter_18 (by decide) ?_
    refine V_aload_n (pc := 19) e_X8_enter_19 rfl (Or.inl ⟨_, rfl⟩) ?_
    refine V_iconst (pc := 20) e_X8_enter_20 ?_
    refine Vm_pspot (pc := 21) fx_8_169 e_X8_enter_21 ?_
    refine V_iconst (pc := 24) e_X8_enter_24 ?_
    refine V_istore_n (pc := 25) e_X8_enter_25 (by decide) ?_
    obtain ⟨b1, b2, b3⟩ := hk h_hf
    rw [Int.sub_zero] at b3
    exact V_lq [(0, .ref 144), (1, zI ((((hfF text len now 100 0 0).2.2).toNat : Nat) : Int)), (2, zI ((0 : Nat) : Int))] ⟨⟨_, rfl, rfl⟩, ⟨_, rfl, congrArg (fun e : Int => zI e) (by omega)⟩, ⟨_, rfl, rfl⟩, trivial⟩ (L_X8_enter hl ht (by omega) _ 0 _ _ _ _ _ _ (by omega) (by omega) b3 (by omega) (fun rd s f g m => Qv (k2 h_hf rd s f g m) (by omega) rfl))
