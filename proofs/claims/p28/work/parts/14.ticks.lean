/-! the model's ticks -/
theorem sid_12 (r : Int → Int) (p : Int) : sid r p = 1 ∨ sid r p = 2 := by
  unfold sid
  split
  · exact Or.inr rfl
  · exact Or.inl rfl
theorem tkF_hi {r : Int → Int} {s q k : Int} (h : tkO r s q) (hk : 85 ≤ k) : tkF r s q k = r k := by
  obtain ⟨a, b, c, d⟩ := tkO_0 h
  have e : tk1 (tk0 r s q) s q k = tk0 r s q k := by
    unfold tk1
    split
    · unfold inc
      rw [up1_ne (by omega), up1_ne (by omega), up1_ne (by omega), up1_ne (by omega)]
    · rfl
  unfold tkF inc
  rw [up1_ne (by omega), e, tk0_at a (by omega)]
theorem tkF_J {r : Int → Int} {s q p : Int} (h : tkO r s q) (hJ : JB r p) : JB (tkF r s q) p := by
  have jj := hJ
  unfold JB at jj
  exact JB_ext (fun w h0 h1 => tkF_hi h (by omega)) hJ
theorem endsF_at {r : Int → Int} {k : Int} (h : k < 4 ∨ 6 < k) : endsF r k = r k := by
  unfold endsF
  rw [up1_ne (by omega), up1_ne (by omega), up1_ne (by omega)]
theorem endsF_J {r : Int → Int} {p : Int} (hJ : JB r p) : JB (endsF r) p := by
  have jj := hJ
  unfold JB at jj
  exact JB_ext (fun w h0 h1 => endsF_at (by omega)) hJ
def stO (r : Int → Int) (p : Int) : Prop := if hset r p then jf r p 9 ≤ 999 else tkO r (jf r p 3) (jf r p 4)
/-- the model's work can begin: enough sets at most n, each thing in its range -/
noncomputable def bOK : Nat → (Int → Int) → Prop
  | 0, r => RR r ∧ ¬ r 5 = 0
  | n + 1, r => RR r ∧ (r 5 = 0 → wst r (nxj r) = 0 → stO r (nxj r) ∧ bOK n (bstF r (nxj r)))
theorem wst_0 {r : Int → Int} {p : Int} (h : wst r p = 0) : 0 ≤ p := by
  unfold wst at h
  split at h <;> omega
theorem nxj_lt {r : Int → Int} (h0 : 0 ≤ r 0) : -1 ≤ nxj r ∧ nxj r < r 0 ∨ nxj r = -1 := by
  have h := nxF_rg r (r 0).toNat
  unfold nxj
  omega
/-- what an end of work needs -/
def fO (r : Int → Int) : Prop := RR r ∧ (0 ≤ plc r (r 6) ∧ plc r (r 6) < r 0) ∧ (jf r (plc r (r 6)) 9 ≤ 999 ∧ (¬ r 5 = 2 → jf r (plc r (r 6)) 8 ≤ 9999)) ∧ (0 ≤ r 8 ∧ r 8 ≤ 2999999) ∧ (0 ≤ r 14) ∧ (-3000000 ≤ r 2 ∧ r 2 ≤ 2999999)
theorem fin2_at {r : Int → Int} {p k : Int} (hp : 0 ≤ p) (hk : k < 85) (h2 : ¬ k = 2) (h17 : ¬ k = 17) (h19 : ¬ k = 19) : fin2 r p k = r k := by
  unfold fin2 inc adn
  rw [up1_ne (by omega), up1_ne (by omega), up1_ne (by omega), up1_ne (by omega)]
theorem JB_inc8 {r : Int → Int} {p : Int} (h8 : jf r p 8 ≤ 9999) (hJ : JB r p) : JB (inc r (85 + 10 * p + 8)) p := by
  have e : ∀ v, jf (inc r (85 + 10 * p + 8)) p v = if v = 8 then jf r p 8 + 1 else jf r p v := fun v => by
    by_cases h : v = 8
    · rw [if_pos h, h]; exact up1_at
    · rw [if_neg h]; exact up1_ne (by omega)
  have hK := hJ
  unfold JB at hK ⊢
  simp only [e, Int.reduceEq, if_true, if_false]
  omega
theorem fin2_J {r : Int → Int} {p : Int} (h8 : jf r p 8 ≤ 9999) (hJ : JB r p) : JB (fin2 r p) p := by
  have jj := hJ
  unfold JB at jj
  refine JB_inc8 ?_ (JB_up1 (by omega) (JB_up1 (by omega) (JB_up1 (by omega) hJ)))
  unfold adn inc
  rw [jf_up1 (by omega) (by decide) (by decide), jf_up1 (by omega) (by decide) (by decide), jf_up1 (by omega) (by decide) (by decide)]
  exact h8
def gO (r : Int → Int) (w m : Int) : Prop := RB r ∧ (0 ≤ m ∧ m ≤ 20000) ∧ (0 ≤ w ∧ w ≤ 4) ∧ (¬ 0 < w → r 4 - gbT r w m = 0 → fO (sbn (adn r 24 (gbT r w m)) 4 (gbT r w m)))
theorem c_X8_beginsSheet {σ : Sto} {now : Int → Int} {P : PT} {T : TT} {Q : Option Value → Sto → Prop} {p : Int} (hJ : JB now p) (hO : tkO now (jf now p 3) (jf now p 4)) (k : Q none (mst σ (bshF now p) P T)) : Con M_X8_beginsSheet 150 150 (mst σ now P T) [.ref 144, zI p] Q := by
  refine V_entry ok_X8_beginsSheet (Nat.le_refl _) (Nat.le_of_ble_eq_true rfl) (V_ls [(0, .ref 144), (1, zI p)] ⟨rfl, rfl, trivial⟩ ?_)
  have jj := hJ
  unfold JB at jj
  have hK : JB (bsh0 now p) p := tkF_J hO hJ
  have s12 := sid_12 (bsh0 now p) p
  refine V_aload_n (pc := 0) e_X8_beginsSheet_0 rfl (Or.inl ⟨_, rfl⟩) ?_
  refine V_aload_n (pc := 1) e_X8_beginsSheet_1 rfl (Or.inl ⟨_, rfl⟩) ?_
  refine V_iload_n (pc := 2) e_X8_beginsSheet_2 rfl ?_
  refine V_iconst (pc := 3) e_X8_beginsSheet_3 ?_
  refine V_cV2 (pc := 4) ca_8_64 e_X8_beginsSheet_4 (by decide) (Nat.le_of_ble_eq_true rfl) (by decide) rfl (by decide) (c_X8_of (by omega) ?_)
  refine V_aload_n (pc := 7) e_X8_beginsSheet_7 rfl (Or.inl ⟨_, rfl⟩) ?_
  refine V_iload_n (pc := 8) e_X8_beginsSheet_8 rfl ?_
  refine V_iconst (pc := 9) e_X8_beginsSheet_9 ?_
  refine V_cV2 (pc := 10) ca_8_64 e_X8_beginsSheet_10 (by decide) (Nat.le_of_ble_eq_true rfl) (by decide) rfl (by decide) (c_X8_of (by omega) ?_)
  refine V_cV2 (pc := 13) ca_8_127 e_X8_beginsSheet_13 (by decide) (Nat.le_of_ble_eq_true rfl) (by decide) rfl (by decide) (c_X8_takesPaper (by assumption) (by omega) (by omega) ?_)
  refine V_aload_n (pc := 16) e_X8_beginsSheet_16 rfl (Or.inl ⟨_, rfl⟩) ?_
  refine V_iload_n (pc := 17) e_X8_beginsSheet_17 rfl ?_
  refine V_cV1 (pc := 18) ca_8_131 e_X8_beginsSheet_18 (by decide) (Nat.le_of_ble_eq_true rfl) (by decide) rfl (by decide) (c_X8_sides (now := bsh0 now p) hK ?_)
  refine V_istore_n (pc := 21) e_X8_beginsSheet_21 (by decide) ?_
  refine V_aload_n (pc := 22) e_X8_beginsSheet_22 rfl (Or.inl ⟨_, rfl⟩) ?_
  refine V_getR (pc := 23) (q := 0) (j := 145) fx_8_7 e_X8_beginsSheet_23 rfl rfl (by decide) rfl rfl ?_
  refine V_bipush (pc := 26) (by decide) e_X8_beginsSheet_26 ?_
  refine V_aload_n (pc := 28) e_X8_beginsSheet_28 rfl (Or.inl ⟨_, rfl⟩) ?_
  refine V_iload_n (pc := 29) e_X8_beginsSheet_29 rfl ?_
  refine V_iconst (pc := 30) e_X8_beginsSheet_30 ?_
  refine V_cV2 (pc := 31) ca_8_64 e_X8_beginsSheet_31 (by decide) (Nat.le_of_ble_eq_true rfl) (by decide) rfl (by decide) (c_X8_of (by omega) ?_)
  refine Vm_nowS (pc := 34) e_X8_beginsSheet_34 (by decide) ?_
  refine V_aload_n (pc := 35) e_X8_beginsSheet_35 rfl (Or.inl ⟨_, rfl⟩) ?_
  refine V_getR (pc := 36) (q := 0) (j := 145) fx_8_7 e_X8_beginsSheet_36 rfl rfl (by decide) rfl rfl ?_
  refine V_iconst (pc := 39) e_X8_beginsSheet_39 ?_
  refine V_iconst (pc := 40) e_X8_beginsSheet_40 ?_
  refine Vm_nowS (pc := 41) e_X8_beginsSheet_41 (by decide) ?_
  refine V_aload_n (pc := 42) e_X8_beginsSheet_42 rfl (Or.inl ⟨_, rfl⟩) ?_
  refine V_getR (pc := 43) (q := 0) (j := 145) fx_8_7 e_X8_beginsSheet_43 rfl rfl (by decide) rfl rfl ?_
  refine V_bipush (pc := 46) (by decide) e_X8_beginsSheet_46 ?_
  refine V_aload_n (pc := 48) e_X8_beginsSheet_48 rfl (Or.inl ⟨_, rfl⟩) ?_
  refine V_iload_n (pc := 49) e_X8_beginsSheet_49 rfl ?_
  refine V_iconst (pc := 50) e_X8_beginsSheet_50 ?_
  refine V_cV2 (pc := 51) ca_8_64 e_X8_beginsSheet_51 (by decide) (Nat.le_of_ble_eq_true rfl) (by decide) rfl (by decide) (c_X8_of (by omega) ?_)
  refine Vm_nowS (pc := 54) e_X8_beginsSheet_54 (by decide) ?_
  refine V_aload_n (pc := 55) e_X8_beginsSheet_55 rfl (Or.inl ⟨_, rfl⟩) ?_
  refine V_getR (pc := 56) (q := 0) (j := 145) fx_8_7 e_X8_beginsSheet_56 rfl rfl (by decide) rfl rfl ?_
  refine V_iconst (pc := 59) e_X8_beginsSheet_59 ?_
  refine V_iload_n (pc := 60) e_X8_beginsSheet_60 rfl ?_
  refine V_aload_n (pc := 61) e_X8_beginsSheet_61 rfl (Or.inl ⟨_, rfl⟩) ?_
  refine V_getR (pc := 62) (q := 0) (j := 145) fx_8_7 e_X8_beginsSheet_62 rfl rfl (by decide) rfl rfl ?_
  refine V_bipush (pc := 65) (by decide) e_X8_beginsSheet_65 ?_
  refine Vm_now (pc := 67) e_X8_beginsSheet_67 (by decide) ?_
  refine V_imul (pc := 68) e_X8_beginsSheet_68 ?_
  refine V_iload_n (pc := 69) e_X8_beginsSheet_69 rfl ?_
  refine V_iconst (pc := 70) e_X8_beginsSheet_70 ?_
  refine V_icmp_ne (pc := 71) e_X8_beginsSheet_71 (by decide) (by omega) (by decide) (fun h71 => ?_) (fun h71 => ?_)
  · refine V_iconst (pc := 84) e_X8_beginsSheet_84 ?_
    refine V_iadd (pc := 85) e_X8_beginsSheet_85 ?_
    refine Vm_nowS (pc := 86) e_X8_beginsSheet_86 (by decide) ?_
    refine V_ret (pc := 87) (v := none) ⟨e_X8_beginsSheet_87, rfl⟩ ?_
    first | exact Qn k (mnow (by unfold bshF bshL; rw [if_pos h71]; rfl)) | exact Qn k (mnow (by unfold bshF bshL; rw [if_neg h71]; rfl))
  · refine V_aload_n (pc := 74) e_X8_beginsSheet_74 rfl (Or.inl ⟨_, rfl⟩) ?_
    refine V_getR (pc := 75) (q := 0) (j := 145) fx_8_7 e_X8_beginsSheet_75 rfl rfl (by decide) rfl rfl ?_
    refine V_bipush (pc := 78) (by decide) e_X8_beginsSheet_78 ?_
    refine Vm_now (pc := 80) e_X8_beginsSheet_80 (by decide) ?_
    refine V_goto (pc := 81) e_X8_beginsSheet_81 (by decide) ?_
    refine V_iadd (pc := 85) e_X8_beginsSheet_85 ?_
    refine Vm_nowS (pc := 86) e_X8_beginsSheet_86 (by decide) ?_
    refine V_ret (pc := 87) (v := none) ⟨e_X8_beginsSheet_87, rfl⟩ ?_
    first | exact Qn k (mnow (by unfold bshF bshL; rw [if_pos h71]; rfl)) | exact Qn k (mnow (by unfold bshF bshL; rw [if_neg h71]; rfl))
theorem T_X8_begins {σ : Sto} {now : Int → Int} {P : PT} {T : TT} {Q : Option Value → Sto → Prop} {w : Int} (hw : ¬ w = 0) (r_w : -2147483648 ≤ w ∧ w < 2147483648) (k : Q (some (zI w)) (mst σ now P T)) : V M_X8_begins 150 2 [(0, .ref 144), (1, zI w)] [] 150 (mst σ now P T) Q := by
  refine V_iload_n (pc := 2) e_X8_begins_2 rfl ?_
  refine V_if_ne (pc := 3) e_X8_begins_3 (by decide) (by omega) (fun h3 => ?_) (fun h3 => ?_)
  · refine V_iload_n (pc := 103) e_X8_begins_103 rfl ?_
    refine V_ret (pc := 104) (v := some (zI _)) ⟨e_X8_begins_104, _, rfl, rfl⟩ ?_
    exact k
  · exact absurd h3 hw
theorem L_X8_begins {σ : Sto} {P : PT} {T : TT} {Q : Option Value → Sto → Prop} : ∀ (n : Nat) (now : Int → Int), bOK n now → Q (some (zI (begF n now).1)) (mst σ (begF n now).2 P T) → V M_X8_begins 150 2 [(0, .ref 144), (1, zI 0)] [] 150 (mst σ now P T) Q := by
  intro n
  induction n with
  | zero =>
    intro now hO k
    have g5 := hO.1.1 5 (by decide) (by decide) (by decide)
    refine V_iload_n (pc := 2) e_X8_begins_2 rfl ?_
    refine V_if_ne (pc := 3) e_X8_begins_3 (by decide) (by decide) (fun h => absurd (by decide) h) (fun _ => ?_)
    refine V_aload_n (pc := 6) e_X8_begins_6 rfl (Or.inl ⟨_, rfl⟩) ?_
    refine V_getR (pc := 7) (q := 0) (j := 145) fx_8_7 e_X8_begins_7 rfl rfl (by decide) rfl rfl ?_
    refine V_iconst (pc := 10) e_X8_begins_10 ?_
    refine Vm_now (pc := 11) e_X8_begins_11 (by decide) ?_
    refine V_if_ne (pc := 12) e_X8_begins_12 (by decide) (by omega) (fun h12 => ?_) (fun h12 => ?_)
    · refine V_iload_n (pc := 103) e_X8_begins_103 rfl ?_
      refine V_ret (pc := 104) (v := some (zI _)) ⟨e_X8_begins_104, _, rfl, rfl⟩ ?_
      exact k
    · exact absurd h12 hO.2
  | succ n ih =>
    intro now hO k
    obtain ⟨hR, hS⟩ := hO
    have h0 := hR.2.1
    have g5 := hR.1 5 (by decide) (by decide) (by decide)
    have g7 := hR.1 7 (by decide) (by decide) (by decide)
    have g3 := hR.1 3 (by decide) (by decide) (by decide)
    have g12 := hR.1 12 (by decide) (by decide) (by decide)
    have e4 : up1 now 4 (now 12) 4 = now 12 := up1_at
    have nl := nxj_lt (r := now) h0.1
    have hq : nxj now < 0 ∨ JB now (nxj now) := by
      by_cases y : nxj now < 0
      · exact Or.inl y
      · exact Or.inr (hR.2.2.2 _ (by omega) (by omega))
    have wr : 0 ≤ wst now (nxj now) ∧ wst now (nxj now) ≤ 4 := by unfold wst; (repeat' split) <;> omega
    refine V_iload_n (pc := 2) e_X8_begins_2 rfl ?_
    refine V_if_ne (pc := 3) e_X8_begins_3 (by decide) (by decide) (fun h => absurd (by decide) h) (fun _ => ?_)
    refine V_aload_n (pc := 6) e_X8_begins_6 rfl (Or.inl ⟨_, rfl⟩) ?_
    refine V_getR (pc := 7) (q := 0) (j := 145) fx_8_7 e_X8_begins_7 rfl rfl (by decide) rfl rfl ?_
    refine V_iconst (pc := 10) e_X8_begins_10 ?_
    refine Vm_now (pc := 11) e_X8_begins_11 (by decide) ?_
    refine V_if_ne (pc := 12) e_X8_begins_12 (by decide) (by omega) (fun h12 => ?_) (fun h12 => ?_)
    · refine V_iload_n (pc := 103) e_X8_begins_103 rfl ?_
      refine V_ret (pc := 104) (v := some (zI _)) ⟨e_X8_begins_104, _, rfl, rfl⟩ ?_
      unfold begF at k
      rw [if_neg h12] at k
      exact k
    · refine V_aload_n (pc := 15) e_X8_begins_15 rfl (Or.inl ⟨_, rfl⟩) ?_
      refine V_cV0 (pc := 16) ca_8_134 e_X8_begins_16 (by decide) (Nat.le_of_ble_eq_true rfl) (by decide) rfl (by decide) (c_X8_nextJob hR ?_)
      refine V_istore_n (pc := 19) e_X8_begins_19 (by decide) ?_
      refine V_aload_n (pc := 20) e_X8_begins_20 rfl (Or.inl ⟨_, rfl⟩) ?_
      refine V_iload_n (pc := 21) e_X8_begins_21 rfl ?_
      refine V_cV1 (pc := 22) ca_8_138 e_X8_begins_22 (by decide) (Nat.le_of_ble_eq_true rfl) (by decide) rfl (by decide) (c_X8_whyStop hR (by assumption) (by omega) ?_)
      refine V_istore_n (pc := 25) e_X8_begins_25 (by decide) ?_
      refine V_iload_n (pc := 26) e_X8_begins_26 rfl ?_
      refine V_if_ne (pc := 27) e_X8_begins_27 (by decide) (by omega) (fun h27 => ?_) (fun h27 => ?_)
      · refine V_iload_n (pc := 91) e_X8_begins_91 rfl ?_
        refine V_if_ne (pc := 92) e_X8_begins_92 (by decide) (by omega) (fun h92 => ?_) (fun h92 => ?_)
        · refine V_goto (pc := 100) e_X8_begins_100 (by decide) ?_
          first
            | exact absurd h27 h92
            | exact V_lq [(0, .ref 144), (1, zI (wst now (nxj now)))] ⟨⟨_, rfl, rfl⟩, ⟨_, rfl, rfl⟩, trivial⟩ (T_X8_begins h27 (by omega) (by unfold begF at k; rw [if_pos h12, if_neg h27] at k; exact k))
            | (refine V_lq [(0, .ref 144), (1, zI 0)] ⟨⟨_, rfl, rfl⟩, ⟨_, rfl, congrArg (fun e : Int => zI e) h27⟩, trivial⟩ ?_
               have kk : Q (some (zI (begF n (bstF now (nxj now))).1)) (mst σ (begF n (bstF now (nxj now))).2 P T) := by unfold begF at k; rw [if_pos h12, if_pos h27] at k; exact k
               refine V_sq (mnow ?_) (ih _ hB kk)
               unfold bstF
               first
                 | rw [if_neg h_hs]
                 | rw [if_pos h_hs, if_pos (e4.symm.trans h57)]
                 | (rw [if_pos h_hs, if_neg (fun z => h57 (e4.trans z))]; rfl))
        · exact absurd h92 h27
      · have hp := wst_0 h27
        have hJ := hR.2.2.2 (nxj now) (by omega) (by omega)
        have jj := hJ
        unfold JB at jj
        have hT := (hS h12 h27).1
        have hB := (hS h12 h27).2
        refine V_aload_n (pc := 30) e_X8_begins_30 rfl (Or.inl ⟨_, rfl⟩) ?_
        refine V_iload_n (pc := 31) e_X8_begins_31 rfl ?_
        refine V_cV1 (pc := 32) ca_8_121 e_X8_begins_32 (by decide) (Nat.le_of_ble_eq_true rfl) (by decide) rfl (by decide) (c_X8_hasSet (by assumption) (fun h_hs => ?_) (fun h_hs => ?_))
        · refine V_if_eq (pc := 35) e_X8_begins_35 (by decide) (by decide) (fun h => absurd h (by decide)) (fun _ => ?_)
          unfold stO at hT
          rw [if_pos h_hs] at hT
          refine V_aload_n (pc := 38) e_X8_begins_38 rfl (Or.inl ⟨_, rfl⟩) ?_
          refine V_getR (pc := 39) (q := 0) (j := 145) fx_8_7 e_X8_begins_39 rfl rfl (by decide) rfl rfl ?_
          refine V_iconst (pc := 42) e_X8_begins_42 ?_
          refine V_aload_n (pc := 43) e_X8_begins_43 rfl (Or.inl ⟨_, rfl⟩) ?_
          refine V_getR (pc := 44) (q := 0) (j := 145) fx_8_7 e_X8_begins_44 rfl rfl (by decide) rfl rfl ?_
          refine V_bipush (pc := 47) (by decide) e_X8_begins_47 ?_
          refine Vm_now (pc := 49) e_X8_begins_49 (by decide) ?_
          refine Vm_nowS (pc := 50) e_X8_begins_50 (by decide) ?_
          refine V_aload_n (pc := 51) e_X8_begins_51 rfl (Or.inl ⟨_, rfl⟩) ?_
          refine V_getR (pc := 52) (q := 0) (j := 145) fx_8_7 e_X8_begins_52 rfl rfl (by decide) rfl rfl ?_
          refine V_iconst (pc := 55) e_X8_begins_55 ?_
          refine Vm_now (pc := 56) e_X8_begins_56 (by decide) ?_
          refine V_if_ne (pc := 57) e_X8_begins_57 (by decide) (by omega) (fun h57 => ?_) (fun h57 => ?_)
          · refine V_aload_n (pc := 68) e_X8_begins_68 rfl (Or.inl ⟨_, rfl⟩) ?_
            refine V_getR (pc := 69) (q := 0) (j := 145) fx_8_7 e_X8_begins_69 rfl rfl (by decide) rfl rfl ?_
            refine V_iconst (pc := 72) e_X8_begins_72 ?_
            refine V_iconst (pc := 73) e_X8_begins_73 ?_
            refine Vm_nowS (pc := 74) e_X8_begins_74 (by decide) ?_
            refine V_aload_n (pc := 75) e_X8_begins_75 rfl (Or.inl ⟨_, rfl⟩) ?_
            refine V_getR (pc := 76) (q := 0) (j := 145) fx_8_7 e_X8_begins_76 rfl rfl (by decide) rfl rfl ?_
            refine V_bipush (pc := 79) (by decide) e_X8_begins_79 ?_
            refine V_aload_n (pc := 81) e_X8_begins_81 rfl (Or.inl ⟨_, rfl⟩) ?_
            refine V_iload_n (pc := 82) e_X8_begins_82 rfl ?_
            refine V_iconst (pc := 83) e_X8_begins_83 ?_
            refine V_cV2 (pc := 84) ca_8_64 e_X8_begins_84 (by decide) (Nat.le_of_ble_eq_true rfl) (by decide) rfl (by decide) (c_X8_of (by omega) ?_)
            refine Vm_nowS (pc := 87) e_X8_begins_87 (by decide) ?_
            refine V_goto (pc := 88) e_X8_begins_88 (by decide) ?_
            refine V_goto (pc := 100) e_X8_begins_100 (by decide) ?_
            first
              | exact absurd h27 h92
              | exact V_lq [(0, .ref 144), (1, zI (wst now (nxj now)))] ⟨⟨_, rfl, rfl⟩, ⟨_, rfl, rfl⟩, trivial⟩ (T_X8_begins h27 (by omega) (by unfold begF at k; rw [if_pos h12, if_neg h27] at k; exact k))
              | (refine V_lq [(0, .ref 144), (1, zI 0)] ⟨⟨_, rfl, rfl⟩, ⟨_, rfl, congrArg (fun e : Int => zI e) h27⟩, trivial⟩ ?_
                 have kk : Q (some (zI (begF n (bstF now (nxj now))).1)) (mst σ (begF n (bstF now (nxj now))).2 P T) := by unfold begF at k; rw [if_pos h12, if_pos h27] at k; exact k
                 refine V_sq (mnow ?_) (ih _ hB kk)
                 unfold bstF
                 first
                   | rw [if_neg h_hs]
                   | rw [if_pos h_hs, if_pos (e4.symm.trans h57)]
                   | (rw [if_pos h_hs, if_neg (fun z => h57 (e4.trans z))]; rfl))
          · refine V_aload_n (pc := 60) e_X8_begins_60 rfl (Or.inl ⟨_, rfl⟩) ?_
            refine V_iload_n (pc := 61) e_X8_begins_61 rfl ?_
            refine V_cV1 (pc := 62) ca_8_141 e_X8_begins_62 (by decide) (Nat.le_of_ble_eq_true rfl) (by decide) rfl (by decide) (c_X8_stapled (now := up1 now 4 (now 12)) (by rw [up1_ne (by decide)]; omega) (by rw [up1_ne (by decide)]; omega) (JB_up1 (by omega) hJ) (by rw [jf_up1 (by omega) (by decide) (by decide)]; exact hT) (by rw [up1_ne (by decide)]; omega) (by rw [up1_ne (by decide)]; omega) ?_)
            refine V_goto (pc := 65) e_X8_begins_65 (by decide) ?_
            refine V_goto (pc := 100) e_X8_begins_100 (by decide) ?_
            first
              | exact absurd h27 h92
              | exact V_lq [(0, .ref 144), (1, zI (wst now (nxj now)))] ⟨⟨_, rfl, rfl⟩, ⟨_, rfl, rfl⟩, trivial⟩ (T_X8_begins h27 (by omega) (by unfold begF at k; rw [if_pos h12, if_neg h27] at k; exact k))
              | (refine V_lq [(0, .ref 144), (1, zI 0)] ⟨⟨_, rfl, rfl⟩, ⟨_, rfl, congrArg (fun e : Int => zI e) h27⟩, trivial⟩ ?_
                 have kk : Q (some (zI (begF n (bstF now (nxj now))).1)) (mst σ (begF n (bstF now (nxj now))).2 P T) := by unfold begF at k; rw [if_pos h12, if_pos h27] at k; exact k
                 refine V_sq (mnow ?_) (ih _ hB kk)
                 unfold bstF
                 first
                   | rw [if_neg h_hs]
                   | rw [if_pos h_hs, if_pos (e4.symm.trans h57)]
                   | (rw [if_pos h_hs, if_neg (fun z => h57 (e4.trans z))]; rfl))
        · refine V_if_eq (pc := 35) e_X8_begins_35 (by decide) (by decide) (fun _ => ?_) (fun h => absurd (by decide) h)
          refine V_iload_n (pc := 91) e_X8_begins_91 rfl ?_
          refine V_if_ne (pc := 92) e_X8_begins_92 (by decide) (by omega) (fun h92 => ?_) (fun h92 => ?_)
          · refine V_goto (pc := 100) e_X8_begins_100 (by decide) ?_
            first
              | exact absurd h27 h92
              | exact V_lq [(0, .ref 144), (1, zI (wst now (nxj now)))] ⟨⟨_, rfl, rfl⟩, ⟨_, rfl, rfl⟩, trivial⟩ (T_X8_begins h27 (by omega) (by unfold begF at k; rw [if_pos h12, if_neg h27] at k; exact k))
              | (refine V_lq [(0, .ref 144), (1, zI 0)] ⟨⟨_, rfl, rfl⟩, ⟨_, rfl, congrArg (fun e : Int => zI e) h27⟩, trivial⟩ ?_
                 have kk : Q (some (zI (begF n (bstF now (nxj now))).1)) (mst σ (begF n (bstF now (nxj now))).2 P T) := by unfold begF at k; rw [if_pos h12, if_pos h27] at k; exact k
                 refine V_sq (mnow ?_) (ih _ hB kk)
                 unfold bstF
                 first
                   | rw [if_neg h_hs]
                   | rw [if_pos h_hs, if_pos (e4.symm.trans h57)]
                   | (rw [if_pos h_hs, if_neg (fun z => h57 (e4.trans z))]; rfl))
          · unfold stO at hT
            rw [if_neg h_hs] at hT
            refine V_aload_n (pc := 95) e_X8_begins_95 rfl (Or.inl ⟨_, rfl⟩) ?_
            refine V_iload_n (pc := 96) e_X8_begins_96 rfl ?_
            refine V_cV1 (pc := 97) ca_8_144 e_X8_begins_97 (by decide) (Nat.le_of_ble_eq_true rfl) (by decide) rfl (by decide) (c_X8_beginsSheet (by assumption) (by assumption) ?_)
            refine V_goto (pc := 100) e_X8_begins_100 (by decide) ?_
            first
              | exact absurd h27 h92
              | exact V_lq [(0, .ref 144), (1, zI (wst now (nxj now)))] ⟨⟨_, rfl, rfl⟩, ⟨_, rfl, rfl⟩, trivial⟩ (T_X8_begins h27 (by omega) (by unfold begF at k; rw [if_pos h12, if_neg h27] at k; exact k))
              | (refine V_lq [(0, .ref 144), (1, zI 0)] ⟨⟨_, rfl, rfl⟩, ⟨_, rfl, congrArg (fun e : Int => zI e) h27⟩, trivial⟩ ?_
                 have kk : Q (some (zI (begF n (bstF now (nxj now))).1)) (mst σ (begF n (bstF now (nxj now))).2 P T) := by unfold begF at k; rw [if_pos h12, if_pos h27] at k; exact k
                 refine V_sq (mnow ?_) (ih _ hB kk)
                 unfold bstF
                 first
                   | rw [if_neg h_hs]
                   | rw [if_pos h_hs, if_pos (e4.symm.trans h57)]
                   | (rw [if_pos h_hs, if_neg (fun z => h57 (e4.trans z))]; rfl))
theorem c_X8_begins {σ : Sto} {now : Int → Int} {P : PT} {T : TT} {Q : Option Value → Sto → Prop} {n : Nat} (hO : bOK n now) (k : Q (some (zI (begF n now).1)) (mst σ (begF n now).2 P T)) : Con M_X8_begins 150 150 (mst σ now P T) [.ref 144] Q := by
  refine V_entry ok_X8_begins (Nat.le_refl _) (Nat.le_of_ble_eq_true rfl) (V_ls [(0, .ref 144)] ⟨rfl, trivial⟩ ?_)
  refine V_iconst (pc := 0) e_X8_begins_0 ?_
  refine V_istore_n (pc := 1) e_X8_begins_1 (by decide) ?_
  exact V_lq [(0, .ref 144), (1, zI 0)] ⟨⟨_, rfl, rfl⟩, ⟨_, rfl, rfl⟩, trivial⟩ (L_X8_begins n now hO k)
theorem c_X8_finishes {σ : Sto} {now : Int → Int} {P : PT} {T : TT} {Q : Option Value → Sto → Prop} (hO : fO now) (k : Q none (mst σ (finF now) P T)) : Con M_X8_finishes 150 150 (mst σ now P T) [.ref 144] Q := by
  refine V_entry ok_X8_finishes (Nat.le_refl _) (Nat.le_of_ble_eq_true rfl) (V_ls [(0, .ref 144)] ⟨rfl, trivial⟩ ?_)
  obtain ⟨hR, hp, h9, h8, h14, h2⟩ := hO
  have h0 := hR.2.1
  have g3 := hR.1 3 (by decide) (by decide) (by decide)
  have g5 := hR.1 5 (by decide) (by decide) (by decide)
  have g6 := hR.1 6 (by decide) (by decide) (by decide)
  have g7 := hR.1 7 (by decide) (by decide) (by decide)
  have g14 := hR.1 14 (by decide) (by decide) (by decide)
  have hJ := hR.2.2.2 _ hp.1 hp.2
  have jj := hJ
  unfold JB at jj
  have jE : ∀ w, 0 ≤ w → w < 10 → jf (endsF now) (plc now (now 6)) w = jf now (plc now (now 6)) w := fun w a b => endsF_at (by omega)
  have e14 : up1 (endsF now) 8 (endsF now 8 + 1) 14 = now 14 := by rw [up1_ne (by decide)]; exact endsF_at (by decide)
  have e8 : up1 (endsF now) 8 (endsF now 8 + 1) 8 = now 8 + 1 := by rw [up1_at, endsF_at (by decide)]
  have jF : ∀ w, 0 ≤ w → w < 10 → jf (inc (endsF now) 8) (plc now (now 6)) w = jf now (plc now (now 6)) w := fun w a b => (up1_ne (by omega)).trans (endsF_at (by omega))
  have hF : JB (inc (endsF now) 8) (plc now (now 6)) := JB_ext jF hJ
  refine V_aload_n (pc := 0) e_X8_finishes_0 rfl (Or.inl ⟨_, rfl⟩) ?_
  refine V_aload_n (pc := 1) e_X8_finishes_1 rfl (Or.inl ⟨_, rfl⟩) ?_
  refine V_getR (pc := 2) (q := 0) (j := 145) fx_8_7 e_X8_finishes_2 rfl rfl (by decide) rfl rfl ?_
  refine V_bipush (pc := 5) (by decide) e_X8_finishes_5 ?_
  refine Vm_now (pc := 7) e_X8_finishes_7 (by decide) ?_
  refine V_cV1 (pc := 8) ca_8_87 e_X8_finishes_8 (by decide) (Nat.le_of_ble_eq_true rfl) (by decide) rfl (by decide) (c_X8_placeOf (by omega) hR ?_)
  refine V_istore_n (pc := 11) e_X8_finishes_11 (by decide) ?_
  refine V_aload_n (pc := 12) e_X8_finishes_12 rfl (Or.inl ⟨_, rfl⟩) ?_
  refine V_getR (pc := 13) (q := 0) (j := 145) fx_8_7 e_X8_finishes_13 rfl rfl (by decide) rfl rfl ?_
  refine V_iconst (pc := 16) e_X8_finishes_16 ?_
  refine Vm_now (pc := 17) e_X8_finishes_17 (by decide) ?_
  refine V_istore_n (pc := 18) e_X8_finishes_18 (by decide) ?_
  refine V_aload_n (pc := 19) e_X8_finishes_19 rfl (Or.inl ⟨_, rfl⟩) ?_
  refine V_cV0 (pc := 20) ca_8_84 e_X8_finishes_20 (by decide) (Nat.le_of_ble_eq_true rfl) (by decide) rfl (by decide) (c_X8_endsWork ?_)
  refine V_iload_n (pc := 23) e_X8_finishes_23 rfl ?_
  refine V_iconst (pc := 24) e_X8_finishes_24 ?_
  refine V_icmp_ne (pc := 25) e_X8_finishes_25 (by decide) (by omega) (by decide) (fun h25 => ?_) (fun h25 => ?_)
  · refine V_aload_n (pc := 34) e_X8_finishes_34 rfl (Or.inl ⟨_, rfl⟩) ?_
    refine V_getR (pc := 35) (q := 0) (j := 145) fx_8_7 e_X8_finishes_35 rfl rfl (by decide) rfl rfl ?_
    refine V_bipush (pc := 38) (by decide) e_X8_finishes_38 ?_
    refine V_dup2 (pc := 40) e_X8_finishes_40 rfl rfl ?_
    refine Vm_now (pc := 41) e_X8_finishes_41 (by decide) ?_
    refine V_iconst (pc := 42) e_X8_finishes_42 ?_
    refine V_iadd (pc := 43) e_X8_finishes_43 ?_
    refine Vm_nowS (pc := 44) e_X8_finishes_44 (by decide) ?_
    refine V_aload_n (pc := 45) e_X8_finishes_45 rfl (Or.inl ⟨_, rfl⟩) ?_
    refine V_getR (pc := 46) (q := 0) (j := 145) fx_8_7 e_X8_finishes_46 rfl rfl (by decide) rfl rfl ?_
    refine V_bipush (pc := 49) (by decide) e_X8_finishes_49 ?_
    refine Vm_now (pc := 51) e_X8_finishes_51 (by decide) ?_
    refine V_if_le (pc := 52) e_X8_finishes_52 (by decide) (by omega) (fun h52 => ?_) (fun h52 => ?_)
    · refine V_aload_n (pc := 85) e_X8_finishes_85 rfl (Or.inl ⟨_, rfl⟩) ?_
      refine V_getR (pc := 86) (q := 0) (j := 145) fx_8_7 e_X8_finishes_86 rfl rfl (by decide) rfl rfl ?_
      refine V_iconst (pc := 89) e_X8_finishes_89 ?_
      refine V_dup2 (pc := 90) e_X8_finishes_90 rfl rfl ?_
      refine Vm_now (pc := 91) e_X8_finishes_91 (by decide) ?_
      refine V_iconst (pc := 92) e_X8_finishes_92 ?_
      refine V_iadd (pc := 93) e_X8_finishes_93 ?_
      refine Vm_nowS (pc := 94) e_X8_finishes_94 (by decide) ?_
      refine V_aload_n (pc := 95) e_X8_finishes_95 rfl (Or.inl ⟨_, rfl⟩) ?_
      refine V_getR (pc := 96) (q := 0) (j := 145) fx_8_7 e_X8_finishes_96 rfl rfl (by decide) rfl rfl ?_
      refine V_bipush (pc := 99) (by decide) e_X8_finishes_99 ?_
      refine V_dup2 (pc := 101) e_X8_finishes_101 rfl rfl ?_
      refine Vm_now (pc := 102) e_X8_finishes_102 (by decide) ?_
      refine V_iconst (pc := 103) e_X8_finishes_103 ?_
      refine V_iadd (pc := 104) e_X8_finishes_104 ?_
      refine Vm_nowS (pc := 105) e_X8_finishes_105 (by decide) ?_
      refine V_aload_n (pc := 106) e_X8_finishes_106 rfl (Or.inl ⟨_, rfl⟩) ?_
      refine V_getR (pc := 107) (q := 0) (j := 145) fx_8_7 e_X8_finishes_107 rfl rfl (by decide) rfl rfl ?_
      refine V_bipush (pc := 110) (by decide) e_X8_finishes_110 ?_
      refine V_dup2 (pc := 112) e_X8_finishes_112 rfl rfl ?_
      refine Vm_now (pc := 113) e_X8_finishes_113 (by decide) ?_
      refine V_aload_n (pc := 114) e_X8_finishes_114 rfl (Or.inl ⟨_, rfl⟩) ?_
      refine V_iload_n (pc := 115) e_X8_finishes_115 rfl ?_
      refine V_cV1 (pc := 116) ca_8_131 e_X8_finishes_116 (by decide) (Nat.le_of_ble_eq_true rfl) (by decide) rfl (by decide) (c_X8_sides (now := inc (inc (inc (endsF now) 8) 2) 17) (JB_up1 (by omega) (JB_up1 (by omega) hF)) ?_)
      refine V_iadd (pc := 119) e_X8_finishes_119 ?_
      refine Vm_nowS (pc := 120) e_X8_finishes_120 (by decide) ?_
      refine V_aload_n (pc := 121) e_X8_finishes_121 rfl (Or.inl ⟨_, rfl⟩) ?_
      refine V_getR (pc := 122) (q := 0) (j := 145) fx_8_7 e_X8_finishes_122 rfl rfl (by decide) rfl rfl ?_
      refine V_iload_n (pc := 125) e_X8_finishes_125 rfl ?_
      refine V_cS1 (pc := 126) ca_8_60 e_X8_finishes_126 (by decide) (Nat.le_of_ble_eq_true rfl) (c_X8_jobAt ?_)
      refine V_bipush (pc := 129) (by decide) e_X8_finishes_129 ?_
      refine V_iadd (pc := 131) e_X8_finishes_131 ?_
      refine V_dup2 (pc := 132) e_X8_finishes_132 rfl rfl ?_
      refine Vm_now (pc := 133) e_X8_finishes_133 (by omega) ?_
      refine V_iconst (pc := 134) e_X8_finishes_134 ?_
      refine V_iadd (pc := 135) e_X8_finishes_135 ?_
      refine Vm_nowS (pc := 136) e_X8_finishes_136 (by omega) ?_
      refine V_aload_n (pc := 137) e_X8_finishes_137 rfl (Or.inl ⟨_, rfl⟩) ?_
      refine V_iload_n (pc := 138) e_X8_finishes_138 rfl ?_
      refine V_cV1 (pc := 139) ca_8_124 e_X8_finishes_139 (by decide) (Nat.le_of_ble_eq_true rfl) (by decide) rfl (by decide) (c_X8_leaves (now := fin2 (inc (endsF now) 8) (plc now (now 6))) (by rw [fin2_at (by omega) (by decide) (by decide) (by decide) (by decide)]; unfold inc; rw [up1_ne (by decide), endsF_at (by decide)]; omega) (by rw [fin2_at (by omega) (by decide) (by decide) (by decide) (by decide)]; unfold inc; rw [up1_ne (by decide), endsF_at (by decide)]; omega) (fin2_J (by rw [jF 8 (by decide) (by decide)]; exact h9.2 h25) hF) (by rw [fin2_at (by omega) (by decide) (by decide) (by decide) (by decide)]; unfold inc; rw [up1_ne (by decide), endsF_at (by decide)]; omega) ?_)
      refine V_ret (pc := 142) (v := none) ⟨e_X8_finishes_142, rfl⟩ ?_
      exact Qn k (mnow (by unfold finF fin1; rw [if_neg h25, if_neg (by unfold inc; omega)]))
    · refine V_aload_n (pc := 55) e_X8_finishes_55 rfl (Or.inl ⟨_, rfl⟩) ?_
      refine V_getR (pc := 56) (q := 0) (j := 145) fx_8_7 e_X8_finishes_56 rfl rfl (by decide) rfl rfl ?_
      refine V_bipush (pc := 59) (by decide) e_X8_finishes_59 ?_
      refine Vm_now (pc := 61) e_X8_finishes_61 (by decide) ?_
      refine V_aload_n (pc := 62) e_X8_finishes_62 rfl (Or.inl ⟨_, rfl⟩) ?_
      refine V_getR (pc := 63) (q := 0) (j := 145) fx_8_7 e_X8_finishes_63 rfl rfl (by decide) rfl rfl ?_
      refine V_bipush (pc := 66) (by decide) e_X8_finishes_66 ?_
      refine Vm_now (pc := 68) e_X8_finishes_68 (by decide) ?_
      have dv := dv_rg (x := up1 (endsF now) 8 (endsF now 8 + 1) 8) (y := up1 (endsF now) 8 (endsF now 8 + 1) 14) (by omega) (by omega)
      refine V_irem (pc := 69) e_X8_finishes_69 (by omega) (by omega) ?_
      refine V_if_ne (pc := 70) e_X8_finishes_70 (by decide) (by omega) (fun h70 => ?_) (fun h70 => ?_)
      · refine V_aload_n (pc := 85) e_X8_finishes_85 rfl (Or.inl ⟨_, rfl⟩) ?_
        refine V_getR (pc := 86) (q := 0) (j := 145) fx_8_7 e_X8_finishes_86 rfl rfl (by decide) rfl rfl ?_
        refine V_iconst (pc := 89) e_X8_finishes_89 ?_
        refine V_dup2 (pc := 90) e_X8_finishes_90 rfl rfl ?_
        refine Vm_now (pc := 91) e_X8_finishes_91 (by decide) ?_
        refine V_iconst (pc := 92) e_X8_finishes_92 ?_
        refine V_iadd (pc := 93) e_X8_finishes_93 ?_
        refine Vm_nowS (pc := 94) e_X8_finishes_94 (by decide) ?_
        refine V_aload_n (pc := 95) e_X8_finishes_95 rfl (Or.inl ⟨_, rfl⟩) ?_
        refine V_getR (pc := 96) (q := 0) (j := 145) fx_8_7 e_X8_finishes_96 rfl rfl (by decide) rfl rfl ?_
        refine V_bipush (pc := 99) (by decide) e_X8_finishes_99 ?_
        refine V_dup2 (pc := 101) e_X8_finishes_101 rfl rfl ?_
        refine Vm_now (pc := 102) e_X8_finishes_102 (by decide) ?_
        refine V_iconst (pc := 103) e_X8_finishes_103 ?_
        refine V_iadd (pc := 104) e_X8_finishes_104 ?_
        refine Vm_nowS (pc := 105) e_X8_finishes_105 (by decide) ?_
        refine V_aload_n (pc := 106) e_X8_finishes_106 rfl (Or.inl ⟨_, rfl⟩) ?_
        refine V_getR (pc := 107) (q := 0) (j := 145) fx_8_7 e_X8_finishes_107 rfl rfl (by decide) rfl rfl ?_
        refine V_bipush (pc := 110) (by decide) e_X8_finishes_110 ?_
        refine V_dup2 (pc := 112) e_X8_finishes_112 rfl rfl ?_
        refine Vm_now (pc := 113) e_X8_finishes_113 (by decide) ?_
        refine V_aload_n (pc := 114) e_X8_finishes_114 rfl (Or.inl ⟨_, rfl⟩) ?_
        refine V_iload_n (pc := 115) e_X8_finishes_115 rfl ?_
        refine V_cV1 (pc := 116) ca_8_131 e_X8_finishes_116 (by decide) (Nat.le_of_ble_eq_true rfl) (by decide) rfl (by decide) (c_X8_sides (now := inc (inc (inc (endsF now) 8) 2) 17) (JB_up1 (by omega) (JB_up1 (by omega) hF)) ?_)
        refine V_iadd (pc := 119) e_X8_finishes_119 ?_
        refine Vm_nowS (pc := 120) e_X8_finishes_120 (by decide) ?_
        refine V_aload_n (pc := 121) e_X8_finishes_121 rfl (Or.inl ⟨_, rfl⟩) ?_
        refine V_getR (pc := 122) (q := 0) (j := 145) fx_8_7 e_X8_finishes_122 rfl rfl (by decide) rfl rfl ?_
        refine V_iload_n (pc := 125) e_X8_finishes_125 rfl ?_
        refine V_cS1 (pc := 126) ca_8_60 e_X8_finishes_126 (by decide) (Nat.le_of_ble_eq_true rfl) (c_X8_jobAt ?_)
        refine V_bipush (pc := 129) (by decide) e_X8_finishes_129 ?_
        refine V_iadd (pc := 131) e_X8_finishes_131 ?_
        refine V_dup2 (pc := 132) e_X8_finishes_132 rfl rfl ?_
        refine Vm_now (pc := 133) e_X8_finishes_133 (by omega) ?_
        refine V_iconst (pc := 134) e_X8_finishes_134 ?_
        refine V_iadd (pc := 135) e_X8_finishes_135 ?_
        refine Vm_nowS (pc := 136) e_X8_finishes_136 (by omega) ?_
        refine V_aload_n (pc := 137) e_X8_finishes_137 rfl (Or.inl ⟨_, rfl⟩) ?_
        refine V_iload_n (pc := 138) e_X8_finishes_138 rfl ?_
        refine V_cV1 (pc := 139) ca_8_124 e_X8_finishes_139 (by decide) (Nat.le_of_ble_eq_true rfl) (by decide) rfl (by decide) (c_X8_leaves (now := fin2 (inc (endsF now) 8) (plc now (now 6))) (by rw [fin2_at (by omega) (by decide) (by decide) (by decide) (by decide)]; unfold inc; rw [up1_ne (by decide), endsF_at (by decide)]; omega) (by rw [fin2_at (by omega) (by decide) (by decide) (by decide) (by decide)]; unfold inc; rw [up1_ne (by decide), endsF_at (by decide)]; omega) (fin2_J (by rw [jF 8 (by decide) (by decide)]; exact h9.2 h25) hF) (by rw [fin2_at (by omega) (by decide) (by decide) (by decide) (by decide)]; unfold inc; rw [up1_ne (by decide), endsF_at (by decide)]; omega) ?_)
        refine V_ret (pc := 142) (v := none) ⟨e_X8_finishes_142, rfl⟩ ?_
        exact Qn k (mnow (by unfold finF fin1; rw [if_neg h25, if_neg (by unfold inc; omega)]))
      · refine V_aload_n (pc := 73) e_X8_finishes_73 rfl (Or.inl ⟨_, rfl⟩) ?_
        refine V_getR (pc := 74) (q := 0) (j := 145) fx_8_7 e_X8_finishes_74 rfl rfl (by decide) rfl rfl ?_
        refine V_bipush (pc := 77) (by decide) e_X8_finishes_77 ?_
        refine V_dup2 (pc := 79) e_X8_finishes_79 rfl rfl ?_
        refine Vm_now (pc := 80) e_X8_finishes_80 (by decide) ?_
        refine V_iconst (pc := 81) e_X8_finishes_81 ?_
        refine V_iadd (pc := 82) e_X8_finishes_82 ?_
        refine Vm_nowS (pc := 83) e_X8_finishes_83 (by decide) ?_
        refine V_ret (pc := 84) (v := none) ⟨e_X8_finishes_84, rfl⟩ ?_
        exact Qn k (mnow (by unfold finF fin1; rw [if_neg h25, if_pos (by unfold inc; omega)]; rfl))
  · refine V_aload_n (pc := 28) e_X8_finishes_28 rfl (Or.inl ⟨_, rfl⟩) ?_
    refine V_iload_n (pc := 29) e_X8_finishes_29 rfl ?_
    refine V_cV1 (pc := 30) ca_8_141 e_X8_finishes_30 (by decide) (Nat.le_of_ble_eq_true rfl) (by decide) rfl (by decide) (c_X8_stapled (now := endsF now) (by rw [endsF_at (by decide)]; omega) (by rw [endsF_at (by decide)]; omega) (endsF_J hJ) (by rw [jE 9 (by decide) (by decide)]; exact h9.1) (by rw [endsF_at (by decide)]; omega) (by rw [endsF_at (by decide)]; omega) ?_)
    refine V_ret (pc := 33) (v := none) ⟨e_X8_finishes_33, rfl⟩ ?_
    exact Qn k (mnow (by unfold finF; rw [if_pos h25]))
theorem T_X8_goesBy {σ : Sto} {now : Int → Int} {P : PT} {T : TT} {Q : Option Value → Sto → Prop} {w m : Int} (hO : gO now w m) (k : Q (some (zI (gbT now w m))) (mst σ (gbF now w m) P T)) : V M_X8_goesBy 150 25 [(0, .ref 144), (1, zI w), (2, zI m), (3, zI (gbT now w m))] [] 150 (mst σ now P T) Q := by
  obtain ⟨hR, hm, hw, hf⟩ := hO
  have g4 := hR 4 (by decide) (by decide) (by decide)
  have t1 : -3000000 ≤ gbT now w m ∧ gbT now w m ≤ 3000000 := by unfold gbT; split <;> omega
  have e4 : up1 (up1 now 24 (now 24 + gbT now w m)) 4 (up1 now 24 (now 24 + gbT now w m) 4 - gbT now w m) 4 = now 4 - gbT now w m := by rw [up1_at, up1_ne (by decide)]
  refine V_aload_n (pc := 25) e_X8_goesBy_25 rfl (Or.inl ⟨_, rfl⟩) ?_
  refine V_getR (pc := 26) (q := 0) (j := 145) fx_8_7 e_X8_goesBy_26 rfl rfl (by decide) rfl rfl ?_
  refine V_bipush (pc := 29) (by decide) e_X8_goesBy_29 ?_
  refine V_dup2 (pc := 31) e_X8_goesBy_31 rfl rfl ?_
  refine Vm_now (pc := 32) e_X8_goesBy_32 (by decide) ?_
  refine V_iload_n (pc := 33) e_X8_goesBy_33 rfl ?_
  refine V_iadd (pc := 34) e_X8_goesBy_34 ?_
  refine Vm_nowS (pc := 35) e_X8_goesBy_35 (by decide) ?_
  refine V_iload_n (pc := 36) e_X8_goesBy_36 rfl ?_
  refine V_if_le (pc := 37) e_X8_goesBy_37 (by decide) (by omega) (fun h37 => ?_) (fun h37 => ?_)
  · refine V_aload_n (pc := 53) e_X8_goesBy_53 rfl (Or.inl ⟨_, rfl⟩) ?_
    refine V_getR (pc := 54) (q := 0) (j := 145) fx_8_7 e_X8_goesBy_54 rfl rfl (by decide) rfl rfl ?_
    refine V_iconst (pc := 57) e_X8_goesBy_57 ?_
    refine V_dup2 (pc := 58) e_X8_goesBy_58 rfl rfl ?_
    refine Vm_now (pc := 59) e_X8_goesBy_59 (by decide) ?_
    refine V_iload_n (pc := 60) e_X8_goesBy_60 rfl ?_
    refine V_isub (pc := 61) e_X8_goesBy_61 ?_
    refine Vm_nowS (pc := 62) e_X8_goesBy_62 (by decide) ?_
    refine V_aload_n (pc := 63) e_X8_goesBy_63 rfl (Or.inl ⟨_, rfl⟩) ?_
    refine V_getR (pc := 64) (q := 0) (j := 145) fx_8_7 e_X8_goesBy_64 rfl rfl (by decide) rfl rfl ?_
    refine V_iconst (pc := 67) e_X8_goesBy_67 ?_
    refine Vm_now (pc := 68) e_X8_goesBy_68 (by decide) ?_
    refine V_if_ne (pc := 69) e_X8_goesBy_69 (by decide) (by omega) (fun h69 => ?_) (fun h69 => ?_)
    · refine V_iload_n (pc := 76) e_X8_goesBy_76 rfl ?_
      refine V_ret (pc := 77) (v := some (zI _)) ⟨e_X8_goesBy_77, _, rfl, rfl⟩ ?_
      first | exact Qv k rfl (mnow (by unfold gbF; rw [if_neg (by omega), if_pos (e4.symm.trans h69)])) | exact Qv k rfl (mnow (by unfold gbF; rw [if_neg (by omega), if_neg (fun z => h69 (e4.trans z))]; rfl))
    · refine V_aload_n (pc := 72) e_X8_goesBy_72 rfl (Or.inl ⟨_, rfl⟩) ?_
      refine V_cV0 (pc := 73) ca_8_147 e_X8_goesBy_73 (by decide) (Nat.le_of_ble_eq_true rfl) (by decide) rfl (by decide) (c_X8_finishes (now := sbn (adn now 24 (gbT now w m)) 4 (gbT now w m)) (hf (by omega) (e4.symm.trans h69)) ?_)
      refine V_iload_n (pc := 76) e_X8_goesBy_76 rfl ?_
      refine V_ret (pc := 77) (v := some (zI _)) ⟨e_X8_goesBy_77, _, rfl, rfl⟩ ?_
      first | exact Qv k rfl (mnow (by unfold gbF; rw [if_neg (by omega), if_pos (e4.symm.trans h69)])) | exact Qv k rfl (mnow (by unfold gbF; rw [if_neg (by omega), if_neg (fun z => h69 (e4.trans z))]; rfl))
  · refine V_aload_n (pc := 40) e_X8_goesBy_40 rfl (Or.inl ⟨_, rfl⟩) ?_
    refine V_getR (pc := 41) (q := 0) (j := 145) fx_8_7 e_X8_goesBy_41 rfl rfl (by decide) rfl rfl ?_
    refine V_bipush (pc := 44) (by decide) e_X8_goesBy_44 ?_
    refine V_dup2 (pc := 46) e_X8_goesBy_46 rfl rfl ?_
    refine Vm_now (pc := 47) e_X8_goesBy_47 (by decide) ?_
    refine V_iload_n (pc := 48) e_X8_goesBy_48 rfl ?_
    refine V_iadd (pc := 49) e_X8_goesBy_49 ?_
    refine Vm_nowS (pc := 50) e_X8_goesBy_50 (by decide) ?_
    refine V_iload_n (pc := 51) e_X8_goesBy_51 rfl ?_
    refine V_ret (pc := 52) (v := some (zI _)) ⟨e_X8_goesBy_52, _, rfl, rfl⟩ ?_
    exact Qv k rfl (mnow (by unfold gbF; rw [if_pos (by omega)]; rfl))
theorem c_X8_goesBy {σ : Sto} {now : Int → Int} {P : PT} {T : TT} {Q : Option Value → Sto → Prop} {w m : Int} (hO : gO now w m) (k : Q (some (zI (gbT now w m))) (mst σ (gbF now w m) P T)) : Con M_X8_goesBy 150 150 (mst σ now P T) [.ref 144, zI w, zI m] Q := by
  refine V_entry ok_X8_goesBy (Nat.le_refl _) (Nat.le_of_ble_eq_true rfl) (V_ls [(0, .ref 144), (1, zI w), (2, zI m)] ⟨rfl, rfl, rfl, trivial⟩ ?_)
  have hw := hO.2.2.1
  have hm := hO.2.1
  have g4 := hO.1 4 (by decide) (by decide) (by decide)
  refine V_iload_n (pc := 0) e_X8_goesBy_0 rfl ?_
  refine V_if_gt (pc := 1) e_X8_goesBy_1 (by decide) (by omega) (fun h1 => ?_) (fun h1 => ?_)
  · refine V_iload_n (pc := 14) e_X8_goesBy_14 rfl ?_
    refine V_goto (pc := 15) e_X8_goesBy_15 (by decide) ?_
    refine V_istore_n (pc := 24) e_X8_goesBy_24 (by decide) ?_
    exact V_lq [(0, .ref 144), (1, zI w), (2, zI m), (3, zI (gbT now w m))] ⟨⟨_, rfl, rfl⟩, ⟨_, rfl, rfl⟩, ⟨_, rfl, rfl⟩, ⟨_, rfl, congrArg (fun e : Int => zI e) (by unfold gbT; split <;> omega)⟩, trivial⟩ (T_X8_goesBy hO k)
  · refine V_aload_n (pc := 4) e_X8_goesBy_4 rfl (Or.inl ⟨_, rfl⟩) ?_
    refine V_getR (pc := 5) (q := 0) (j := 145) fx_8_7 e_X8_goesBy_5 rfl rfl (by decide) rfl rfl ?_
    refine V_iconst (pc := 8) e_X8_goesBy_8 ?_
    refine Vm_now (pc := 9) e_X8_goesBy_9 (by decide) ?_
    refine V_iload_n (pc := 10) e_X8_goesBy_10 rfl ?_
    refine V_icmp_le (pc := 11) e_X8_goesBy_11 (by decide) (by omega) (by omega) (fun h11 => ?_) (fun h11 => ?_)
    · refine V_aload_n (pc := 18) e_X8_goesBy_18 rfl (Or.inl ⟨_, rfl⟩) ?_
      refine V_getR (pc := 19) (q := 0) (j := 145) fx_8_7 e_X8_goesBy_19 rfl rfl (by decide) rfl rfl ?_
      refine V_iconst (pc := 22) e_X8_goesBy_22 ?_
      refine Vm_now (pc := 23) e_X8_goesBy_23 (by decide) ?_
      refine V_istore_n (pc := 24) e_X8_goesBy_24 (by decide) ?_
      exact V_lq [(0, .ref 144), (1, zI w), (2, zI m), (3, zI (gbT now w m))] ⟨⟨_, rfl, rfl⟩, ⟨_, rfl, rfl⟩, ⟨_, rfl, rfl⟩, ⟨_, rfl, congrArg (fun e : Int => zI e) (by unfold gbT; split <;> omega)⟩, trivial⟩ (T_X8_goesBy hO k)
    · refine V_iload_n (pc := 14) e_X8_goesBy_14 rfl ?_
      refine V_goto (pc := 15) e_X8_goesBy_15 (by decide) ?_
      refine V_istore_n (pc := 24) e_X8_goesBy_24 (by decide) ?_
      exact V_lq [(0, .ref 144), (1, zI w), (2, zI m), (3, zI (gbT now w m))] ⟨⟨_, rfl, rfl⟩, ⟨_, rfl, rfl⟩, ⟨_, rfl, rfl⟩, ⟨_, rfl, congrArg (fun e : Int => zI e) (by unfold gbT; split <;> omega)⟩, trivial⟩ (T_X8_goesBy hO k)
