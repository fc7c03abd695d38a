/-! a draft of any pages and copies -/
def wr (x : Int) : Int := if x = 2147483648 then -2147483648 else x
theorem zI_wr {x : Int} : zI x = zI (wr x) := by
  unfold wr
  split
  · next h =>
    rw [h]
    decide +kernel
  · rfl
theorem wr_rg {x : Int} (h : -2147483648 ≤ x ∧ x ≤ 2147483648) : -2147483648 ≤ wr x ∧ wr x < 2147483648 := by
  unfold wr
  split <;> omega
theorem V_idivg {M : MI} {N N1 pc : Nat} {ls : List (Nat × Value)} {st : List Value} {Q : Option Value → Sto → Prop} {σ : Sto} {x y : Int} (hd : decode (miB M) pc = .ok (.idiv, 1)) (hy : 0 < y ∧ y < 2147483648) (k : V M N1 (pc + 1) ls (zI (Int32.ofInt x / Int32.ofInt y).toInt :: st) N σ Q) : V M N1 pc ls (zI y :: zI x :: st) N σ Q :=
  V_lift (fun C _ _ _ _ k => lv_idiv C.1 C.2.1 hd (zi_nz hy) (by rw [show zI (Int32.ofInt x / Int32.ofInt y).toInt = Value.int (Int32.ofInt x / Int32.ofInt y) from congrArg Value.int (zi_of _)] at k; exact k)) k
theorem G_desc4 {σ : Sto} {d : Int → Int} {pg cp sz kd hw : Int} {Q : Option Value → Sto → Prop} (hg : (-2147483648 ≤ pg ∧ pg < 2147483648) ∧ (-2147483648 ≤ cp ∧ cp < 2147483648) ∧ (0 ≤ hw ∧ hw ≤ 11)) (e1 : d 1 = pg) (e2 : d 2 = cp) (e5 : d 5 = hw) (k : ∀ d' : Int → Int, d' 1 = pg → d' 2 = cp → Q none (dst σ d')) : V M_X1_describe 144 121 [(0, .ref 143), (1, zI pg), (2, zI cp), (3, zI sz), (4, zI kd), (5, zI hw)] [] 144 (dst σ d) Q := by
  refine V_aload_n (pc := 121) e_X1_describe_121 rfl (Or.inl ⟨_, rfl⟩) ?_
  refine V_aload_n (pc := 122) e_X1_describe_122 rfl (Or.inl ⟨_, rfl⟩) ?_
  refine Vd_get (pc := 123) (q := 9) fx_1_37 e_X1_describe_123 rfl rfl ?_
  refine V_aload_n (pc := 126) e_X1_describe_126 rfl (Or.inl ⟨_, rfl⟩) ?_
  refine Vd_get (pc := 127) (q := 2) fx_1_15 e_X1_describe_127 rfl rfl ?_
  refine V_imul (pc := 130) e_X1_describe_130 ?_
  refine Vd_put (pc := 131) (q := 10) fx_1_40 e_X1_describe_131 rfl rfl rfl rfl rfl ?_
  refine V_aload_n (pc := 134) e_X1_describe_134 rfl (Or.inl ⟨_, rfl⟩) ?_
  refine V_iconst (pc := 135) e_X1_describe_135 ?_
  refine Vd_put (pc := 136) (q := 11) fx_1_43 e_X1_describe_136 rfl rfl rfl rfl rfl ?_
  refine V_aload_n (pc := 139) e_X1_describe_139 rfl (Or.inl ⟨_, rfl⟩) ?_
  refine V_iconst (pc := 140) e_X1_describe_140 ?_
  refine Vd_put (pc := 141) (q := 12) fx_1_46 e_X1_describe_141 rfl rfl (zi_nZ (by omega)).1 (zi_nZ (by omega)).2 rfl ?_
  refine V_aload_n (pc := 144) e_X1_describe_144 rfl (Or.inl ⟨_, rfl⟩) ?_
  refine V_iconst (pc := 145) e_X1_describe_145 ?_
  refine Vd_put (pc := 146) (q := 13) fx_1_49 e_X1_describe_146 rfl rfl rfl rfl rfl ?_
  refine V_aload_n (pc := 149) e_X1_describe_149 rfl (Or.inl ⟨_, rfl⟩) ?_
  refine V_iconst (pc := 150) e_X1_describe_150 ?_
  refine Vd_put (pc := 151) (q := 14) fx_1_52 e_X1_describe_151 rfl rfl rfl rfl rfl ?_
  refine V_ret (pc := 154) (v := none) ⟨e_X1_describe_154, rfl⟩ ?_
  exact k _ (by simp (disch := decide) only [up1_ne]; exact e1) (by simp (disch := decide) only [up1_ne]; exact e2)
theorem G_desc3 {σ : Sto} {d : Int → Int} {pg cp sz kd hw : Int} {Q : Option Value → Sto → Prop} (hg : (-2147483648 ≤ pg ∧ pg < 2147483648) ∧ (-2147483648 ≤ cp ∧ cp < 2147483648) ∧ (0 ≤ hw ∧ hw ≤ 11)) (e1 : d 1 = pg) (e2 : d 2 = cp) (e5 : d 5 = hw) (e6 : d 6 = 0 ∨ d 6 = 1) (k : ∀ d' : Int → Int, d' 1 = pg → d' 2 = cp → Q none (dst σ d')) : V M_X1_describe 144 95 [(0, .ref 143), (1, zI pg), (2, zI cp), (3, zI sz), (4, zI kd), (5, zI hw)] [] 144 (dst σ d) Q := by
  refine V_aload_n (pc := 95) e_X1_describe_95 rfl (Or.inl ⟨_, rfl⟩) ?_
  refine V_aload_n (pc := 96) e_X1_describe_96 rfl (Or.inl ⟨_, rfl⟩) ?_
  refine Vd_get (pc := 97) (q := 6) fx_1_27 e_X1_describe_97 rfl rfl ?_
  refine V_if_eq (pc := 100) e_X1_describe_100 (by decide) (by omega) (fun h100 => ?_) (fun h100 => ?_)
  · refine V_aload_n (pc := 114) e_X1_describe_114 rfl (Or.inl ⟨_, rfl⟩) ?_
    refine Vd_get (pc := 115) (q := 1) fx_1_9 e_X1_describe_115 rfl rfl ?_
    refine Vd_put (pc := 118) (q := 9) fx_1_37 e_X1_describe_118 rfl rfl rfl rfl rfl ?_
    exact G_desc4 hg ((up1_ne (by decide)).trans e1) ((up1_ne (by decide)).trans e2) ((up1_ne (by decide)).trans e5) k
  · refine V_aload_n (pc := 103) e_X1_describe_103 rfl (Or.inl ⟨_, rfl⟩) ?_
    refine Vd_get (pc := 104) (q := 1) fx_1_9 e_X1_describe_104 rfl rfl ?_
    refine V_iconst (pc := 107) e_X1_describe_107 ?_
    refine V_iadd (pc := 108) e_X1_describe_108 ?_
    refine V_iconst (pc := 109) e_X1_describe_109 ?_
    refine V_idivg (pc := 110) e_X1_describe_110 (by decide) ?_
    refine V_goto (pc := 111) e_X1_describe_111 (by decide) ?_
    refine Vd_put (pc := 118) (q := 9) fx_1_37 e_X1_describe_118 rfl rfl rfl rfl rfl ?_
    exact G_desc4 hg ((up1_ne (by decide)).trans e1) ((up1_ne (by decide)).trans e2) ((up1_ne (by decide)).trans e5) k
theorem G_desc2 {σ : Sto} {d : Int → Int} {pg cp sz kd hw : Int} {Q : Option Value → Sto → Prop} (hg : (-2147483648 ≤ pg ∧ pg < 2147483648) ∧ (-2147483648 ≤ cp ∧ cp < 2147483648) ∧ (0 ≤ hw ∧ hw ≤ 11)) (e1 : d 1 = pg) (e2 : d 2 = cp) (e5 : d 5 = hw) (e6 : d 6 = 0 ∨ d 6 = 1) (k : ∀ d' : Int → Int, d' 1 = pg → d' 2 = cp → Q none (dst σ d')) : V M_X1_describe 144 63 [(0, .ref 143), (1, zI pg), (2, zI cp), (3, zI sz), (4, zI kd), (5, zI hw)] [] 144 (dst σ d) Q := by
  have hb := ba_hw (x := d 5) (by omega)
  refine V_aload_n (pc := 63) e_X1_describe_63 rfl (Or.inl ⟨_, rfl⟩) ?_
  refine V_aload_n (pc := 64) e_X1_describe_64 rfl (Or.inl ⟨_, rfl⟩) ?_
  refine Vd_get (pc := 65) (q := 5) fx_1_24 e_X1_describe_65 rfl rfl ?_
  refine V_bipush (pc := 68) (by decide) e_X1_describe_68 ?_
  refine V_iand (pc := 70) e_X1_describe_70 ?_
  refine V_if_eq (pc := 71) e_X1_describe_71 (by decide) (by omega) (fun h71 => ?_) (fun h71 => ?_)
  · refine V_aload_n (pc := 78) e_X1_describe_78 rfl (Or.inl ⟨_, rfl⟩) ?_
    refine Vd_get (pc := 79) (q := 5) fx_1_24 e_X1_describe_79 rfl rfl ?_
    refine V_iconst (pc := 82) e_X1_describe_82 ?_
    refine V_iand (pc := 83) e_X1_describe_83 ?_
    refine V_if_eq (pc := 84) e_X1_describe_84 (by decide) (by omega) (fun h84 => ?_) (fun h84 => ?_)
    · refine V_iconst (pc := 91) e_X1_describe_91 ?_
      refine Vd_put (pc := 92) (q := 8) fx_1_34 e_X1_describe_92 rfl rfl rfl rfl rfl ?_
      exact G_desc3 hg ((up1_ne (by decide)).trans e1) ((up1_ne (by decide)).trans e2) ((up1_ne (by decide)).trans e5) (by rw [up1_ne (by decide)]; exact e6) k
    · refine V_iconst (pc := 87) e_X1_describe_87 ?_
      refine V_goto (pc := 88) e_X1_describe_88 (by decide) ?_
      refine Vd_put (pc := 92) (q := 8) fx_1_34 e_X1_describe_92 rfl rfl rfl rfl rfl ?_
      exact G_desc3 hg ((up1_ne (by decide)).trans e1) ((up1_ne (by decide)).trans e2) ((up1_ne (by decide)).trans e5) (by rw [up1_ne (by decide)]; exact e6) k
  · refine V_iconst (pc := 74) e_X1_describe_74 ?_
    refine V_goto (pc := 75) e_X1_describe_75 (by decide) ?_
    refine Vd_put (pc := 92) (q := 8) fx_1_34 e_X1_describe_92 rfl rfl rfl rfl rfl ?_
    exact G_desc3 hg ((up1_ne (by decide)).trans e1) ((up1_ne (by decide)).trans e2) ((up1_ne (by decide)).trans e5) (by rw [up1_ne (by decide)]; exact e6) k
theorem G_desc1 {σ : Sto} {d : Int → Int} {pg cp sz kd hw : Int} {Q : Option Value → Sto → Prop} (hg : (-2147483648 ≤ pg ∧ pg < 2147483648) ∧ (-2147483648 ≤ cp ∧ cp < 2147483648) ∧ (0 ≤ hw ∧ hw ≤ 11)) (e1 : d 1 = pg) (e2 : d 2 = cp) (e5 : d 5 = hw) (e6 : d 6 = 0 ∨ d 6 = 1) (k : ∀ d' : Int → Int, d' 1 = pg → d' 2 = cp → Q none (dst σ d')) : V M_X1_describe 144 45 [(0, .ref 143), (1, zI pg), (2, zI cp), (3, zI sz), (4, zI kd), (5, zI hw)] [] 144 (dst σ d) Q := by
  have hb := ba_hw (x := d 5) (by omega)
  refine V_aload_n (pc := 45) e_X1_describe_45 rfl (Or.inl ⟨_, rfl⟩) ?_
  refine V_aload_n (pc := 46) e_X1_describe_46 rfl (Or.inl ⟨_, rfl⟩) ?_
  refine Vd_get (pc := 47) (q := 5) fx_1_24 e_X1_describe_47 rfl rfl ?_
  refine V_iconst (pc := 50) e_X1_describe_50 ?_
  refine V_iand (pc := 51) e_X1_describe_51 ?_
  refine V_if_eq (pc := 52) e_X1_describe_52 (by decide) (by omega) (fun h52 => ?_) (fun h52 => ?_)
  · refine V_iconst (pc := 59) e_X1_describe_59 ?_
    refine Vd_put (pc := 60) (q := 7) fx_1_31 e_X1_describe_60 rfl rfl (zi_nZ (by omega)).1 (zi_nZ (by omega)).2 rfl ?_
    exact G_desc2 hg ((up1_ne (by decide)).trans e1) ((up1_ne (by decide)).trans e2) ((up1_ne (by decide)).trans e5) (by rw [up1_ne (by decide)]; exact e6) k
  · refine V_iconst (pc := 55) e_X1_describe_55 ?_
    refine V_goto (pc := 56) e_X1_describe_56 (by decide) ?_
    refine Vd_put (pc := 60) (q := 7) fx_1_31 e_X1_describe_60 rfl rfl (zi_nZ (by omega)).1 (zi_nZ (by omega)).2 rfl ?_
    exact G_desc2 hg ((up1_ne (by decide)).trans e1) ((up1_ne (by decide)).trans e2) ((up1_ne (by decide)).trans e5) (by rw [up1_ne (by decide)]; exact e6) k
theorem G_desc0 {σ : Sto} {d : Int → Int} {pg cp sz kd hw : Int} {Q : Option Value → Sto → Prop} (hg : (-2147483648 ≤ pg ∧ pg < 2147483648) ∧ (-2147483648 ≤ cp ∧ cp < 2147483648) ∧ (0 ≤ hw ∧ hw ≤ 11)) (e1 : d 1 = pg) (e2 : d 2 = cp) (e5 : d 5 = hw) (k : ∀ d' : Int → Int, d' 1 = pg → d' 2 = cp → Q none (dst σ d')) : V M_X1_describe 144 27 [(0, .ref 143), (1, zI pg), (2, zI cp), (3, zI sz), (4, zI kd), (5, zI hw)] [] 144 (dst σ d) Q := by
  have hb := ba_hw (x := d 5) (by omega)
  refine V_aload_n (pc := 27) e_X1_describe_27 rfl (Or.inl ⟨_, rfl⟩) ?_
  refine V_aload_n (pc := 28) e_X1_describe_28 rfl (Or.inl ⟨_, rfl⟩) ?_
  refine Vd_get (pc := 29) (q := 5) fx_1_24 e_X1_describe_29 rfl rfl ?_
  refine V_iconst (pc := 32) e_X1_describe_32 ?_
  refine V_iand (pc := 33) e_X1_describe_33 ?_
  refine V_if_eq (pc := 34) e_X1_describe_34 (by decide) (by omega) (fun h34 => ?_) (fun h34 => ?_)
  · refine V_iconst (pc := 41) e_X1_describe_41 ?_
    refine Vd_put (pc := 42) (q := 6) fx_1_27 e_X1_describe_42 rfl rfl (zi_nZ (by omega)).1 (zi_nZ (by omega)).2 rfl ?_
    exact G_desc1 hg ((up1_ne (by decide)).trans e1) ((up1_ne (by decide)).trans e2) ((up1_ne (by decide)).trans e5) (by rw [up1_at]; decide) k
  · refine V_iconst (pc := 37) e_X1_describe_37 ?_
    refine V_goto (pc := 38) e_X1_describe_38 (by decide) ?_
    refine Vd_put (pc := 42) (q := 6) fx_1_27 e_X1_describe_42 rfl rfl (zi_nZ (by omega)).1 (zi_nZ (by omega)).2 rfl ?_
    exact G_desc1 hg ((up1_ne (by decide)).trans e1) ((up1_ne (by decide)).trans e2) ((up1_ne (by decide)).trans e5) (by rw [up1_at]; decide) k
theorem c_X1_describe_g {σ : Sto} {d : Int → Int} {pg cp sz kd hw : Int} {Q : Option Value → Sto → Prop} (hg : (-2147483648 ≤ pg ∧ pg < 2147483648) ∧ (-2147483648 ≤ cp ∧ cp < 2147483648) ∧ (0 ≤ hw ∧ hw ≤ 11)) (k : ∀ d' : Int → Int, d' 1 = pg → d' 2 = cp → Q none (dst σ d')) : Con M_X1_describe 144 144 (dst σ d) [.ref 143, zI pg, zI cp, zI sz, zI kd, zI hw] Q := by
  refine V_entry ok_X1_describe (Nat.le_refl _) (Nat.le_of_ble_eq_true rfl) (V_ls [(0, .ref 143), (1, zI pg), (2, zI cp), (3, zI sz), (4, zI kd), (5, zI hw)] ⟨rfl, rfl, rfl, rfl, rfl, rfl, trivial⟩ ?_)
  refine V_aload_n (pc := 0) e_X1_describe_0 rfl (Or.inl ⟨_, rfl⟩) ?_
  refine V_iload_n (pc := 1) e_X1_describe_1 rfl ?_
  refine Vd_put (pc := 2) (q := 1) fx_1_9 e_X1_describe_2 rfl rfl rfl rfl rfl ?_
  refine V_aload_n (pc := 5) e_X1_describe_5 rfl (Or.inl ⟨_, rfl⟩) ?_
  refine V_iload_n (pc := 6) e_X1_describe_6 rfl ?_
  refine Vd_put (pc := 7) (q := 2) fx_1_15 e_X1_describe_7 rfl rfl rfl rfl rfl ?_
  refine V_aload_n (pc := 10) e_X1_describe_10 rfl (Or.inl ⟨_, rfl⟩) ?_
  refine V_iload_n (pc := 11) e_X1_describe_11 rfl ?_
  refine Vd_put (pc := 12) (q := 3) fx_1_18 e_X1_describe_12 rfl rfl rfl rfl rfl ?_
  refine V_aload_n (pc := 15) e_X1_describe_15 rfl (Or.inl ⟨_, rfl⟩) ?_
  refine V_iload (pc := 16) e_X1_describe_16 rfl ?_
  refine Vd_put (pc := 18) (q := 4) fx_1_21 e_X1_describe_18 rfl rfl rfl rfl rfl ?_
  refine V_aload_n (pc := 21) e_X1_describe_21 rfl (Or.inl ⟨_, rfl⟩) ?_
  refine V_iload (pc := 22) e_X1_describe_22 rfl ?_
  refine Vd_put (pc := 24) (q := 5) fx_1_24 e_X1_describe_24 rfl rfl rfl rfl rfl ?_
  exact G_desc0 hg (by simp (disch := decide) only [up1_ne, up1_at]) (by simp (disch := decide) only [up1_ne, up1_at]) (by simp (disch := decide) only [up1_ne, up1_at]) k
theorem c_X1_isInRange_g {σ : Sto} {d : Int → Int} {pg cp : Int} {Q : Option Value → Sto → Prop} (hg : (-2147483648 ≤ pg ∧ pg < 2147483648) ∧ (-2147483648 ≤ cp ∧ cp < 2147483648)) (e1 : d 1 = pg) (e2 : d 2 = cp) (k1 : (1 ≤ pg ∧ pg ≤ 200) ∧ 1 ≤ cp ∧ cp ≤ 50 → Q (some (zI 1)) (dst σ d)) (k0 : ¬ ((1 ≤ pg ∧ pg ≤ 200) ∧ 1 ≤ cp ∧ cp ≤ 50) → Q (some (zI 0)) (dst σ d)) : Con M_X1_isInRange 144 144 (dst σ d) [.ref 143] Q := by
  refine V_entry ok_X1_isInRange (Nat.le_refl _) (Nat.le_of_ble_eq_true rfl) (V_ls [(0, .ref 143)] ⟨rfl, trivial⟩ ?_)
  refine V_aload_n (pc := 0) e_X1_isInRange_0 rfl (Or.inl ⟨_, rfl⟩) ?_
  refine Vd_get (pc := 1) (q := 1) fx_1_9 e_X1_isInRange_1 rfl rfl ?_
  refine V_iconst (pc := 4) e_X1_isInRange_4 ?_
  refine V_sipush (pc := 5) (by decide) e_X1_isInRange_5 ?_
  refine V_cN3 (pc := 8) ca_1_58 e_X1_isInRange_8 (by decide) (Nat.le_of_ble_eq_true rfl) (c_X7_isWithin (by omega) (by omega) (by omega) (fun h_wi => ?_) (fun h_wi => ?_))
  · refine V_if_eq (pc := 11) e_X1_isInRange_11 (by decide) (by decide) (fun h => absurd h (by decide)) (fun _ => ?_)
    refine V_aload_n (pc := 14) e_X1_isInRange_14 rfl (Or.inl ⟨_, rfl⟩) ?_
    refine Vd_get (pc := 15) (q := 2) fx_1_15 e_X1_isInRange_15 rfl rfl ?_
    refine V_iconst (pc := 18) e_X1_isInRange_18 ?_
    refine V_bipush (pc := 19) (by decide) e_X1_isInRange_19 ?_
    refine V_cN3 (pc := 21) ca_1_58 e_X1_isInRange_21 (by decide) (Nat.le_of_ble_eq_true rfl) (c_X7_isWithin (by omega) (by omega) (by omega) (fun h_wi => ?_) (fun h_wi => ?_))
    · refine V_if_eq (pc := 24) e_X1_isInRange_24 (by decide) (by decide) (fun h => absurd h (by decide)) (fun _ => ?_)
      refine V_iconst (pc := 27) e_X1_isInRange_27 ?_
      refine V_goto (pc := 28) e_X1_isInRange_28 (by decide) ?_
      refine V_ret (pc := 32) (v := some (zI _)) ⟨e_X1_isInRange_32, _, rfl, by decide⟩ ?_
      first | exact k1 (by omega) | exact k0 (by omega)
    · refine V_if_eq (pc := 24) e_X1_isInRange_24 (by decide) (by decide) (fun _ => ?_) (fun h => absurd (by decide) h)
      refine V_iconst (pc := 31) e_X1_isInRange_31 ?_
      refine V_ret (pc := 32) (v := some (zI _)) ⟨e_X1_isInRange_32, _, rfl, by decide⟩ ?_
      first | exact k1 (by omega) | exact k0 (by omega)
  · refine V_if_eq (pc := 11) e_X1_isInRange_11 (by decide) (by decide) (fun _ => ?_) (fun h => absurd (by decide) h)
    refine V_iconst (pc := 31) e_X1_isInRange_31 ?_
    refine V_ret (pc := 32) (v := some (zI _)) ⟨e_X1_isInRange_32, _, rfl, by decide⟩ ?_
    first | exact k1 (by omega) | exact k0 (by omega)
theorem dst_kst {σ : Sto} {c : Nat → Int → Int} {π : Int → Nat} {d : Int → Int} : dst (kst 1 σ c π) d = kst 1 (dst σ d) c π := by
  refine Prod.ext (funext fun i => ?_) rfl
  by_cases h : i = 143
  · subst h
    rw [dst_1, kst_o1 (b := 1) (by decide), dst_1]
  · rw [dst_o h]
    by_cases g : 1 ≤ i ∧ i < 24
    · obtain ⟨m, rfl⟩ := Nat.exists_eq_add_of_le g.1
      rw [kst_1 (by omega), kst_1 (by omega)]
    · rw [kst_o1 (b := 1) (by omega), kst_o1 (b := 1) (by omega), dst_o h]
theorem dst_dst {σ : Sto} {d d' : Int → Int} : dst (dst σ d) d' = dst σ d' := by
  refine Prod.ext (funext fun i => ?_) rfl
  by_cases h : i = 143
  · subst h
    rw [dst_1, dst_1]
  · rw [dst_o h, dst_o h, dst_o h]
