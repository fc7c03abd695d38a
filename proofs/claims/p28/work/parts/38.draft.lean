/-! the draft: cell 143 -/
def dst (σ : Sto) (d : Int → Int) : Sto := (fun i => if i = 143 then d else σ.1 i, σ.2)
theorem dst_1 {σ : Sto} {d : Int → Int} : (dst σ d).1 143 = d := by
  show (if 143 = 143 then d else σ.1 143) = d
  exact if_pos rfl
theorem dst_o {σ : Sto} {d : Int → Int} {i : Nat} (h : ¬ i = 143) : (dst σ d).1 i = σ.1 i := if_neg h
theorem dst_set {σ : Sto} {d : Int → Int} {q x : Int} : setI (dst σ d) 143 q x = dst σ (up1 d q x) := by
  refine setI_eq rfl ?_ (fun j hj => ?_)
  · rw [dst_1, dst_1]
  · rw [dst_o hj, dst_o hj]
theorem dst_id {σ : Sto} : dst σ (σ.1 143) = σ := by
  refine Prod.ext (funext fun i => ?_) rfl
  by_cases h : i = 143
  · subst h
    exact dst_1
  · exact dst_o h
section DST
variable {M : MI} {N1 pc : Nat} {ls : List (Nat × Value)} {st : List Value} {Q : Option Value → Sto → Prop} {σ : Sto} {d : Int → Int} {ix ci k : Nat} {q : Int}
theorem Vd_get (hf : fldR (miC M) ix = some (1, k)) (hd : decode (miB M) pc = .ok (.getfield ix, 3)) (ht : isRf (tyXs 1 k) = false) (hq : (k : Int) = q) (kk : V M N1 (pc + 3) ls (zI (d q) :: st) 144 (dst σ d) Q) : V M N1 pc ls (.ref 143 :: st) 144 (dst σ d) Q := by
  refine V_get hf hd ht hq (by decide) rfl ?_
  rw [dst_1]
  exact kk
theorem Vd_put {x : Int} (hf : fldR (miC M) ix = some (1, k)) (hd : decode (miB M) pc = .ok (.putfield ix, 3)) (ht : isRf (tyXs 1 k) = false) (hq : (k : Int) = q) (hn : narrow (tyXs 1 k) (zI x) = zI x) (hfit : fits (tyXs 1 k) (zI x) = true) (hfin : (TXs 1 k).2.2.2 = false) (kk : V M N1 (pc + 3) ls st 144 (dst σ (up1 d q x)) Q) : V M N1 pc ls (zI x :: .ref 143 :: st) 144 (dst σ d) Q := by
  refine V_put hf hd ht hq hn hfit hfin (by decide) rfl ?_
  rw [dst_set]
  exact kk
end DST
theorem ba_hw {x : Int} (h : 0 ≤ x ∧ x ≤ 11) : ((ba x 1 = 0 ∧ x % 2 = 0) ∨ (ba x 1 = 1 ∧ x % 2 = 1)) ∧ ((ba x 2 = 0 ∧ x / 2 % 2 = 0) ∨ (ba x 2 = 2 ∧ x / 2 % 2 = 1)) ∧ ((ba x 8 = 0 ∧ x < 8) ∨ (ba x 8 = 8 ∧ 8 ≤ x)) ∧ ((ba x 4 = 0 ∧ ¬ x / 4 = 1) ∨ (ba x 4 = 4 ∧ x / 4 = 1)) := by
  have key : ∀ n : Fin 12, ((ba ((n : Nat) : Int) 1 = 0 ∧ ((n : Nat) : Int) % 2 = 0) ∨ (ba ((n : Nat) : Int) 1 = 1 ∧ ((n : Nat) : Int) % 2 = 1)) ∧ ((ba ((n : Nat) : Int) 2 = 0 ∧ ((n : Nat) : Int) / 2 % 2 = 0) ∨ (ba ((n : Nat) : Int) 2 = 2 ∧ ((n : Nat) : Int) / 2 % 2 = 1)) ∧ ((ba ((n : Nat) : Int) 8 = 0 ∧ ((n : Nat) : Int) < 8) ∨ (ba ((n : Nat) : Int) 8 = 8 ∧ 8 ≤ ((n : Nat) : Int))) ∧ ((ba ((n : Nat) : Int) 4 = 0 ∧ ¬ ((n : Nat) : Int) / 4 = 1) ∨ (ba ((n : Nat) : Int) 4 = 4 ∧ ((n : Nat) : Int) / 4 = 1)) := by decide +kernel
  obtain ⟨m, rfl⟩ := Int.eq_ofNat_of_zero_le h.1
  exact key ⟨m, by omega⟩
theorem L_desc4 {σ : Sto} {d : Int → Int} {pg cp sz kd hw : Int} {Q : Option Value → Sto → Prop} (hg : (0 ≤ pg ∧ pg ≤ 999) ∧ (0 ≤ cp ∧ cp ≤ 999) ∧ (0 ≤ hw ∧ hw ≤ 11) ∧ 0 ≤ kd ∧ kd ≤ 3) (e1 : d 1 = pg) (e2 : d 2 = cp) (e3 : d 3 = sz) (e4 : d 4 = kd) (e5 : d 5 = hw) (e6 : d 6 = hw % 2) (e7 : d 7 = hw / 2 % 2) (e8 : d 8 = hw / 4) (e9 : d 9 = sof pg hw) (k : ∀ d' : Int → Int, DR d' pg cp sz kd hw → Q none (dst σ d')) : V M_X1_describe 144 121 [(0, .ref 143), (1, zI pg), (2, zI cp), (3, zI sz), (4, zI kd), (5, zI hw)] [] 144 (dst σ d) Q := by
  refine V_aload_n (pc := 121) e_X1_describe_121 rfl (Or.inl ⟨_, rfl⟩) ?_
  refine V_aload_n (pc := 122) e_X1_describe_122 rfl (Or.inl ⟨_, rfl⟩) ?_
  refine Vd_get (pc := 123) (q := 9) fx_1_37 e_X1_describe_123 rfl rfl ?_
  refine V_aload_n (pc := 126) e_X1_describe_126 rfl (Or.inl ⟨_, rfl⟩) ?_
  refine Vd_get (pc := 127) (q := 2) fx_1_15 e_X1_describe_127 rfl rfl ?_
  refine V_imul (pc := 130) e_X1_describe_130 ?_
  refine Vd_put (pc := 131) (q := 10) fx_1_40 e_X1_describe_131 rfl rfl rfl rfl rfl ?_
  refine V_aload_n (pc := 134) e_X1_describe_134 rfl (Or.inl ⟨_, rfl⟩) ?_
  refine V_iconst (pc := 135) e_X1_describe_135 ?_
  refine Vd_put (pc := 136) (q := 11) fx_1_43 e_X1_describe_136 rfl rfl rfl rfl rfl ?_
  refine V_aload_n (pc := 139) e_X1_describe_139 rfl (Or.inl ⟨_, rfl⟩) ?_
  refine V_iconst (pc := 140) e_X1_describe_140 ?_
  refine Vd_put (pc := 141) (q := 12) fx_1_46 e_X1_describe_141 rfl rfl (zi_nZ (by omega)).1 (zi_nZ (by omega)).2 rfl ?_
  refine V_aload_n (pc := 144) e_X1_describe_144 rfl (Or.inl ⟨_, rfl⟩) ?_
  refine V_iconst (pc := 145) e_X1_describe_145 ?_
  refine Vd_put (pc := 146) (q := 13) fx_1_49 e_X1_describe_146 rfl rfl rfl rfl rfl ?_
  refine V_aload_n (pc := 149) e_X1_describe_149 rfl (Or.inl ⟨_, rfl⟩) ?_
  refine V_iconst (pc := 150) e_X1_describe_150 ?_
  refine Vd_put (pc := 151) (q := 14) fx_1_52 e_X1_describe_151 rfl rfl rfl rfl rfl ?_
  refine V_ret (pc := 154) (v := none) ⟨e_X1_describe_154, rfl⟩ ?_
  refine k _ ?_
  unfold DR
  refine ⟨?_, ?_, ?_, ?_, ?_, ?_, ?_, ?_, ?_, ?_, ?_, ?_, ?_, ?_⟩ <;> simp (disch := decide) only [up1_ne, up1_at] <;> first | assumption | (rw [e9, e2])
theorem L_desc3 {σ : Sto} {d : Int → Int} {pg cp sz kd hw : Int} {Q : Option Value → Sto → Prop} (hg : (0 ≤ pg ∧ pg ≤ 999) ∧ (0 ≤ cp ∧ cp ≤ 999) ∧ (0 ≤ hw ∧ hw ≤ 11) ∧ 0 ≤ kd ∧ kd ≤ 3) (e1 : d 1 = pg) (e2 : d 2 = cp) (e3 : d 3 = sz) (e4 : d 4 = kd) (e5 : d 5 = hw) (e6 : d 6 = hw % 2) (e7 : d 7 = hw / 2 % 2) (e8 : d 8 = hw / 4) (k : ∀ d' : Int → Int, DR d' pg cp sz kd hw → Q none (dst σ d')) : V M_X1_describe 144 95 [(0, .ref 143), (1, zI pg), (2, zI cp), (3, zI sz), (4, zI kd), (5, zI hw)] [] 144 (dst σ d) Q := by
  refine V_aload_n (pc := 95) e_X1_describe_95 rfl (Or.inl ⟨_, rfl⟩) ?_
  refine V_aload_n (pc := 96) e_X1_describe_96 rfl (Or.inl ⟨_, rfl⟩) ?_
  refine Vd_get (pc := 97) (q := 6) fx_1_27 e_X1_describe_97 rfl rfl ?_
  refine V_if_eq (pc := 100) e_X1_describe_100 (by decide) (by omega) (fun h100 => ?_) (fun h100 => ?_)
  · refine V_aload_n (pc := 114) e_X1_describe_114 rfl (Or.inl ⟨_, rfl⟩) ?_
    refine Vd_get (pc := 115) (q := 1) fx_1_9 e_X1_describe_115 rfl rfl ?_
    refine Vd_put (pc := 118) (q := 9) fx_1_37 e_X1_describe_118 rfl rfl rfl rfl rfl ?_
    exact L_desc4 hg ((up1_ne (by decide)).trans e1) ((up1_ne (by decide)).trans e2) ((up1_ne (by decide)).trans e3) ((up1_ne (by decide)).trans e4) ((up1_ne (by decide)).trans e5) ((up1_ne (by decide)).trans e6) ((up1_ne (by decide)).trans e7) ((up1_ne (by decide)).trans e8) (up1_at.trans (by unfold sof; split <;> omega)) k
  · refine V_aload_n (pc := 103) e_X1_describe_103 rfl (Or.inl ⟨_, rfl⟩) ?_
    refine Vd_get (pc := 104) (q := 1) fx_1_9 e_X1_describe_104 rfl rfl ?_
    refine V_iconst (pc := 107) e_X1_describe_107 ?_
    refine V_iadd (pc := 108) e_X1_describe_108 ?_
    refine V_iconst (pc := 109) e_X1_describe_109 ?_
    refine V_idiv (pc := 110) e_X1_describe_110 (by omega) (by decide) ?_
    refine V_goto (pc := 111) e_X1_describe_111 (by decide) ?_
    refine Vd_put (pc := 118) (q := 9) fx_1_37 e_X1_describe_118 rfl rfl rfl rfl rfl ?_
    exact L_desc4 hg ((up1_ne (by decide)).trans e1) ((up1_ne (by decide)).trans e2) ((up1_ne (by decide)).trans e3) ((up1_ne (by decide)).trans e4) ((up1_ne (by decide)).trans e5) ((up1_ne (by decide)).trans e6) ((up1_ne (by decide)).trans e7) ((up1_ne (by decide)).trans e8) (up1_at.trans (by unfold sof; split <;> omega)) k
theorem L_desc2 {σ : Sto} {d : Int → Int} {pg cp sz kd hw : Int} {Q : Option Value → Sto → Prop} (hg : (0 ≤ pg ∧ pg ≤ 999) ∧ (0 ≤ cp ∧ cp ≤ 999) ∧ (0 ≤ hw ∧ hw ≤ 11) ∧ 0 ≤ kd ∧ kd ≤ 3) (e1 : d 1 = pg) (e2 : d 2 = cp) (e3 : d 3 = sz) (e4 : d 4 = kd) (e5 : d 5 = hw) (e6 : d 6 = hw % 2) (e7 : d 7 = hw / 2 % 2) (k : ∀ d' : Int → Int, DR d' pg cp sz kd hw → Q none (dst σ d')) : V M_X1_describe 144 63 [(0, .ref 143), (1, zI pg), (2, zI cp), (3, zI sz), (4, zI kd), (5, zI hw)] [] 144 (dst σ d) Q := by
  have hb := ba_hw (x := d 5) (by omega)
  refine V_aload_n (pc := 63) e_X1_describe_63 rfl (Or.inl ⟨_, rfl⟩) ?_
  refine V_aload_n (pc := 64) e_X1_describe_64 rfl (Or.inl ⟨_, rfl⟩) ?_
  refine Vd_get (pc := 65) (q := 5) fx_1_24 e_X1_describe_65 rfl rfl ?_
  refine V_bipush (pc := 68) (by decide) e_X1_describe_68 ?_
  refine V_iand (pc := 70) e_X1_describe_70 ?_
  refine V_if_eq (pc := 71) e_X1_describe_71 (by decide) (by omega) (fun h71 => ?_) (fun h71 => ?_)
  · refine V_aload_n (pc := 78) e_X1_describe_78 rfl (Or.inl ⟨_, rfl⟩) ?_
    refine Vd_get (pc := 79) (q := 5) fx_1_24 e_X1_describe_79 rfl rfl ?_
    refine V_iconst (pc := 82) e_X1_describe_82 ?_
    refine V_iand (pc := 83) e_X1_describe_83 ?_
    refine V_if_eq (pc := 84) e_X1_describe_84 (by decide) (by omega) (fun h84 => ?_) (fun h84 => ?_)
    · refine V_iconst (pc := 91) e_X1_describe_91 ?_
      refine Vd_put (pc := 92) (q := 8) fx_1_34 e_X1_describe_92 rfl rfl rfl rfl rfl ?_
      exact L_desc3 hg ((up1_ne (by decide)).trans e1) ((up1_ne (by decide)).trans e2) ((up1_ne (by decide)).trans e3) ((up1_ne (by decide)).trans e4) ((up1_ne (by decide)).trans e5) ((up1_ne (by decide)).trans e6) ((up1_ne (by decide)).trans e7) (up1_at.trans (by omega)) k
    · refine V_iconst (pc := 87) e_X1_describe_87 ?_
      refine V_goto (pc := 88) e_X1_describe_88 (by decide) ?_
      refine Vd_put (pc := 92) (q := 8) fx_1_34 e_X1_describe_92 rfl rfl rfl rfl rfl ?_
      exact L_desc3 hg ((up1_ne (by decide)).trans e1) ((up1_ne (by decide)).trans e2) ((up1_ne (by decide)).trans e3) ((up1_ne (by decide)).trans e4) ((up1_ne (by decide)).trans e5) ((up1_ne (by decide)).trans e6) ((up1_ne (by decide)).trans e7) (up1_at.trans (by omega)) k
  · refine V_iconst (pc := 74) e_X1_describe_74 ?_
    refine V_goto (pc := 75) e_X1_describe_75 (by decide) ?_
    refine Vd_put (pc := 92) (q := 8) fx_1_34 e_X1_describe_92 rfl rfl rfl rfl rfl ?_
    exact L_desc3 hg ((up1_ne (by decide)).trans e1) ((up1_ne (by decide)).trans e2) ((up1_ne (by decide)).trans e3) ((up1_ne (by decide)).trans e4) ((up1_ne (by decide)).trans e5) ((up1_ne (by decide)).trans e6) ((up1_ne (by decide)).trans e7) (up1_at.trans (by omega)) k
theorem L_desc1 {σ : Sto} {d : Int → Int} {pg cp sz kd hw : Int} {Q : Option Value → Sto → Prop} (hg : (0 ≤ pg ∧ pg ≤ 999) ∧ (0 ≤ cp ∧ cp ≤ 999) ∧ (0 ≤ hw ∧ hw ≤ 11) ∧ 0 ≤ kd ∧ kd ≤ 3) (e1 : d 1 = pg) (e2 : d 2 = cp) (e3 : d 3 = sz) (e4 : d 4 = kd) (e5 : d 5 = hw) (e6 : d 6 = hw % 2) (k : ∀ d' : Int → Int, DR d' pg cp sz kd hw → Q none (dst σ d')) : V M_X1_describe 144 45 [(0, .ref 143), (1, zI pg), (2, zI cp), (3, zI sz), (4, zI kd), (5, zI hw)] [] 144 (dst σ d) Q := by
  have hb := ba_hw (x := d 5) (by omega)
  refine V_aload_n (pc := 45) e_X1_describe_45 rfl (Or.inl ⟨_, rfl⟩) ?_
  refine V_aload_n (pc := 46) e_X1_describe_46 rfl (Or.inl ⟨_, rfl⟩) ?_
  refine Vd_get (pc := 47) (q := 5) fx_1_24 e_X1_describe_47 rfl rfl ?_
  refine V_iconst (pc := 50) e_X1_describe_50 ?_
  refine V_iand (pc := 51) e_X1_describe_51 ?_
  refine V_if_eq (pc := 52) e_X1_describe_52 (by decide) (by omega) (fun h52 => ?_) (fun h52 => ?_)
  · refine V_iconst (pc := 59) e_X1_describe_59 ?_
    refine Vd_put (pc := 60) (q := 7) fx_1_31 e_X1_describe_60 rfl rfl (zi_nZ (by omega)).1 (zi_nZ (by omega)).2 rfl ?_
    exact L_desc2 hg ((up1_ne (by decide)).trans e1) ((up1_ne (by decide)).trans e2) ((up1_ne (by decide)).trans e3) ((up1_ne (by decide)).trans e4) ((up1_ne (by decide)).trans e5) ((up1_ne (by decide)).trans e6) (up1_at.trans (by omega)) k
  · refine V_iconst (pc := 55) e_X1_describe_55 ?_
    refine V_goto (pc := 56) e_X1_describe_56 (by decide) ?_
    refine Vd_put (pc := 60) (q := 7) fx_1_31 e_X1_describe_60 rfl rfl (zi_nZ (by omega)).1 (zi_nZ (by omega)).2 rfl ?_
    exact L_desc2 hg ((up1_ne (by decide)).trans e1) ((up1_ne (by decide)).trans e2) ((up1_ne (by decide)).trans e3) ((up1_ne (by decide)).trans e4) ((up1_ne (by decide)).trans e5) ((up1_ne (by decide)).trans e6) (up1_at.trans (by omega)) k
theorem L_desc0 {σ : Sto} {d : Int → Int} {pg cp sz kd hw : Int} {Q : Option Value → Sto → Prop} (hg : (0 ≤ pg ∧ pg ≤ 999) ∧ (0 ≤ cp ∧ cp ≤ 999) ∧ (0 ≤ hw ∧ hw ≤ 11) ∧ 0 ≤ kd ∧ kd ≤ 3) (e1 : d 1 = pg) (e2 : d 2 = cp) (e3 : d 3 = sz) (e4 : d 4 = kd) (e5 : d 5 = hw) (k : ∀ d' : Int → Int, DR d' pg cp sz kd hw → Q none (dst σ d')) : V M_X1_describe 144 27 [(0, .ref 143), (1, zI pg), (2, zI cp), (3, zI sz), (4, zI kd), (5, zI hw)] [] 144 (dst σ d) Q := by
  have hb := ba_hw (x := d 5) (by omega)
  refine V_aload_n (pc := 27) e_X1_describe_27 rfl (Or.inl ⟨_, rfl⟩) ?_
  refine V_aload_n (pc := 28) e_X1_describe_28 rfl (Or.inl ⟨_, rfl⟩) ?_
  refine Vd_get (pc := 29) (q := 5) fx_1_24 e_X1_describe_29 rfl rfl ?_
  refine V_iconst (pc := 32) e_X1_describe_32 ?_
  refine V_iand (pc := 33) e_X1_describe_33 ?_
  refine V_if_eq (pc := 34) e_X1_describe_34 (by decide) (by omega) (fun h34 => ?_) (fun h34 => ?_)
  · refine V_iconst (pc := 41) e_X1_describe_41 ?_
    refine Vd_put (pc := 42) (q := 6) fx_1_27 e_X1_describe_42 rfl rfl (zi_nZ (by omega)).1 (zi_nZ (by omega)).2 rfl ?_
    exact L_desc1 hg ((up1_ne (by decide)).trans e1) ((up1_ne (by decide)).trans e2) ((up1_ne (by decide)).trans e3) ((up1_ne (by decide)).trans e4) ((up1_ne (by decide)).trans e5) (up1_at.trans (by omega)) k
  · refine V_iconst (pc := 37) e_X1_describe_37 ?_
    refine V_goto (pc := 38) e_X1_describe_38 (by decide) ?_
    refine Vd_put (pc := 42) (q := 6) fx_1_27 e_X1_describe_42 rfl rfl (zi_nZ (by omega)).1 (zi_nZ (by omega)).2 rfl ?_
    exact L_desc1 hg ((up1_ne (by decide)).trans e1) ((up1_ne (by decide)).trans e2) ((up1_ne (by decide)).trans e3) ((up1_ne (by decide)).trans e4) ((up1_ne (by decide)).trans e5) (up1_at.trans (by omega)) k
theorem c_X1_describe {σ : Sto} {d : Int → Int} {pg cp sz kd hw : Int} {Q : Option Value → Sto → Prop} (hg : (0 ≤ pg ∧ pg ≤ 999) ∧ (0 ≤ cp ∧ cp ≤ 999) ∧ (0 ≤ hw ∧ hw ≤ 11) ∧ 0 ≤ kd ∧ kd ≤ 3) (k : ∀ d' : Int → Int, DR d' pg cp sz kd hw → Q none (dst σ d')) : Con M_X1_describe 144 144 (dst σ d) [.ref 143, zI pg, zI cp, zI sz, zI kd, zI hw] Q := by
  refine V_entry ok_X1_describe (Nat.le_refl _) (Nat.le_of_ble_eq_true rfl) (V_ls [(0, .ref 143), (1, zI pg), (2, zI cp), (3, zI sz), (4, zI kd), (5, zI hw)] ⟨rfl, rfl, rfl, rfl, rfl, rfl, trivial⟩ ?_)
  refine V_aload_n (pc := 0) e_X1_describe_0 rfl (Or.inl ⟨_, rfl⟩) ?_
  refine V_iload_n (pc := 1) e_X1_describe_1 rfl ?_
  refine Vd_put (pc := 2) (q := 1) fx_1_9 e_X1_describe_2 rfl rfl rfl rfl rfl ?_
  refine V_aload_n (pc := 5) e_X1_describe_5 rfl (Or.inl ⟨_, rfl⟩) ?_
  refine V_iload_n (pc := 6) e_X1_describe_6 rfl ?_
  refine Vd_put (pc := 7) (q := 2) fx_1_15 e_X1_describe_7 rfl rfl rfl rfl rfl ?_
  refine V_aload_n (pc := 10) e_X1_describe_10 rfl (Or.inl ⟨_, rfl⟩) ?_
  refine V_iload_n (pc := 11) e_X1_describe_11 rfl ?_
  refine Vd_put (pc := 12) (q := 3) fx_1_18 e_X1_describe_12 rfl rfl rfl rfl rfl ?_
  refine V_aload_n (pc := 15) e_X1_describe_15 rfl (Or.inl ⟨_, rfl⟩) ?_
  refine V_iload (pc := 16) e_X1_describe_16 rfl ?_
  refine Vd_put (pc := 18) (q := 4) fx_1_21 e_X1_describe_18 rfl rfl rfl rfl rfl ?_
  refine V_aload_n (pc := 21) e_X1_describe_21 rfl (Or.inl ⟨_, rfl⟩) ?_
  refine V_iload (pc := 22) e_X1_describe_22 rfl ?_
  refine Vd_put (pc := 24) (q := 5) fx_1_24 e_X1_describe_24 rfl rfl rfl rfl rfl ?_
  exact L_desc0 hg (by simp (disch := decide) only [up1_ne, up1_at]) (by simp (disch := decide) only [up1_ne, up1_at]) (by simp (disch := decide) only [up1_ne, up1_at]) (by simp (disch := decide) only [up1_ne, up1_at]) (by simp (disch := decide) only [up1_ne, up1_at]) k
theorem c_X1_isInRange {σ : Sto} {d : Int → Int} {pg cp sz kd hw : Int} {Q : Option Value → Sto → Prop} (hg : (0 ≤ pg ∧ pg ≤ 999) ∧ (0 ≤ cp ∧ cp ≤ 999) ∧ (0 ≤ hw ∧ hw ≤ 11) ∧ 0 ≤ kd ∧ kd ≤ 3) (hd : DR d pg cp sz kd hw) (k1 : (1 ≤ pg ∧ pg ≤ 200) ∧ 1 ≤ cp ∧ cp ≤ 50 → Q (some (zI 1)) (dst σ d)) (k0 : ¬ ((1 ≤ pg ∧ pg ≤ 200) ∧ 1 ≤ cp ∧ cp ≤ 50) → Q (some (zI 0)) (dst σ d)) : Con M_X1_isInRange 144 144 (dst σ d) [.ref 143] Q := by
  refine V_entry ok_X1_isInRange (Nat.le_refl _) (Nat.le_of_ble_eq_true rfl) (V_ls [(0, .ref 143)] ⟨rfl, trivial⟩ ?_)
  obtain ⟨e1, e2, _⟩ := hd
  refine V_aload_n (pc := 0) e_X1_isInRange_0 rfl (Or.inl ⟨_, rfl⟩) ?_
  refine Vd_get (pc := 1) (q := 1) fx_1_9 e_X1_isInRange_1 rfl rfl ?_
  refine V_iconst (pc := 4) e_X1_isInRange_4 ?_
  refine V_sipush (pc := 5) (by decide) e_X1_isInRange_5 ?_
  refine V_cN3 (pc := 8) ca_1_58 e_X1_isInRange_8 (by decide) (Nat.le_of_ble_eq_true rfl) (c_X7_isWithin (by omega) (by omega) (by omega) (fun h_wi => ?_) (fun h_wi => ?_))
  · refine V_if_eq (pc := 11) e_X1_isInRange_11 (by decide) (by decide) (fun h => absurd h (by decide)) (fun _ => ?_)
    refine V_aload_n (pc := 14) e_X1_isInRange_14 rfl (Or.inl ⟨_, rfl⟩) ?_
    refine Vd_get (pc := 15) (q := 2) fx_1_15 e_X1_isInRange_15 rfl rfl ?_
    refine V_iconst (pc := 18) e_X1_isInRange_18 ?_
    refine V_bipush (pc := 19) (by decide) e_X1_isInRange_19 ?_
    refine V_cN3 (pc := 21) ca_1_58 e_X1_isInRange_21 (by decide) (Nat.le_of_ble_eq_true rfl) (c_X7_isWithin (by omega) (by omega) (by omega) (fun h_wi => ?_) (fun h_wi => ?_))
    · refine V_if_eq (pc := 24) e_X1_isInRange_24 (by decide) (by decide) (fun h => absurd h (by decide)) (fun _ => ?_)
      refine V_iconst (pc := 27) e_X1_isInRange_27 ?_
      refine V_goto (pc := 28) e_X1_isInRange_28 (by decide) ?_
      refine V_ret (pc := 32) (v := some (zI _)) ⟨e_X1_isInRange_32, _, rfl, by decide⟩ ?_
      first | exact k1 (by omega) | exact k0 (by omega)
    · refine V_if_eq (pc := 24) e_X1_isInRange_24 (by decide) (by decide) (fun _ => ?_) (fun h => absurd (by decide) h)
      refine V_iconst (pc := 31) e_X1_isInRange_31 ?_
      refine V_ret (pc := 32) (v := some (zI _)) ⟨e_X1_isInRange_32, _, rfl, by decide⟩ ?_
      first | exact k1 (by omega) | exact k0 (by omega)
  · refine V_if_eq (pc := 11) e_X1_isInRange_11 (by decide) (by decide) (fun _ => ?_) (fun h => absurd (by decide) h)
    refine V_iconst (pc := 31) e_X1_isInRange_31 ?_
    refine V_ret (pc := 32) (v := some (zI _)) ⟨e_X1_isInRange_32, _, rfl, by decide⟩ ?_
    first | exact k1 (by omega) | exact k0 (by omega)
theorem c_X1_staplingRefusal {σ : Sto} {d : Int → Int} {pg cp sz kd hw : Int} {Q : Option Value → Sto → Prop} (hg : (0 ≤ pg ∧ pg ≤ 999) ∧ (0 ≤ cp ∧ cp ≤ 999) ∧ (0 ≤ hw ∧ hw ≤ 11) ∧ 0 ≤ kd ∧ kd ≤ 3) {r : Int → Int} {l : Int} (hl : r 13 = l) (r_l : 0 ≤ l ∧ l < 2147483648) (hd : DR d pg cp sz kd hw) (k : Q (some (zI (wny r pg kd hw))) (dst σ d)) : Con M_X1_staplingRefusal 144 144 (dst σ d) [.ref 143, zI l] Q := by
  refine V_entry ok_X1_staplingRefusal (Nat.le_refl _) (Nat.le_of_ble_eq_true rfl) (V_ls [(0, .ref 143), (1, zI l)] ⟨rfl, rfl, trivial⟩ ?_)
  obtain ⟨e1, e2, e3, e4, e5, e6, e7, e8, e9, _⟩ := hd
  have sb : 0 ≤ sof pg hw ∧ sof pg hw ≤ 999 := by
    unfold sof
    split <;> omega
  refine V_aload_n (pc := 0) e_X1_staplingRefusal_0 rfl (Or.inl ⟨_, rfl⟩) ?_
  refine Vd_get (pc := 1) (q := 8) fx_1_34 e_X1_staplingRefusal_1 rfl rfl ?_
  refine V_if_ne (pc := 4) e_X1_staplingRefusal_4 (by decide) (by omega) (fun h4 => ?_) (fun h4 => ?_)
  · refine V_aload_n (pc := 9) e_X1_staplingRefusal_9 rfl (Or.inl ⟨_, rfl⟩) ?_
    refine Vd_get (pc := 10) (q := 7) fx_1_31 e_X1_staplingRefusal_10 rfl rfl ?_
    refine V_if_ne (pc := 13) e_X1_staplingRefusal_13 (by decide) (by omega) (fun h13 => ?_) (fun h13 => ?_)
    · refine V_aload_n (pc := 18) e_X1_staplingRefusal_18 rfl (Or.inl ⟨_, rfl⟩) ?_
      refine Vd_get (pc := 19) (q := 4) fx_1_21 e_X1_staplingRefusal_19 rfl rfl ?_
      refine V_iconst (pc := 22) e_X1_staplingRefusal_22 ?_
      refine V_icmp_ne (pc := 23) e_X1_staplingRefusal_23 (by decide) (by omega) (by decide) (fun h23 => ?_) (fun h23 => ?_)
      · refine V_aload_n (pc := 28) e_X1_staplingRefusal_28 rfl (Or.inl ⟨_, rfl⟩) ?_
        refine Vd_get (pc := 29) (q := 9) fx_1_37 e_X1_staplingRefusal_29 rfl rfl ?_
        refine V_iconst (pc := 32) e_X1_staplingRefusal_32 ?_
        refine V_icmp_ne (pc := 33) e_X1_staplingRefusal_33 (by decide) (by omega) (by decide) (fun h33 => ?_) (fun h33 => ?_)
        · refine V_aload_n (pc := 38) e_X1_staplingRefusal_38 rfl (Or.inl ⟨_, rfl⟩) ?_
          refine Vd_get (pc := 39) (q := 4) fx_1_21 e_X1_staplingRefusal_39 rfl rfl ?_
          refine V_iconst (pc := 42) e_X1_staplingRefusal_42 ?_
          refine V_icmp_ne (pc := 43) e_X1_staplingRefusal_43 (by decide) (by omega) (by decide) (fun h43 => ?_) (fun h43 => ?_)
          · refine V_iload_n (pc := 52) e_X1_staplingRefusal_52 rfl ?_
            refine V_istore_n (pc := 53) e_X1_staplingRefusal_53 (by decide) ?_
            refine V_aload_n (pc := 54) e_X1_staplingRefusal_54 rfl (Or.inl ⟨_, rfl⟩) ?_
            refine Vd_get (pc := 55) (q := 9) fx_1_37 e_X1_staplingRefusal_55 rfl rfl ?_
            refine V_iload_n (pc := 58) e_X1_staplingRefusal_58 rfl ?_
            refine V_icmp_le (pc := 59) e_X1_staplingRefusal_59 (by decide) (by omega) (by omega) (fun h59 => ?_) (fun h59 => ?_)
            · refine V_iconst (pc := 66) e_X1_staplingRefusal_66 ?_
              refine V_ret (pc := 67) (v := some (zI _)) ⟨e_X1_staplingRefusal_67, _, rfl, rfl⟩ ?_
              have w : wny r pg kd hw = 0 := by
                unfold wny
                (repeat' split) <;> first | rfl | (exfalso; omega)
              rw [w] at k
              exact k
            · refine V_iconst (pc := 62) e_X1_staplingRefusal_62 ?_
              refine V_goto (pc := 63) e_X1_staplingRefusal_63 (by decide) ?_
              refine V_ret (pc := 67) (v := some (zI _)) ⟨e_X1_staplingRefusal_67, _, rfl, rfl⟩ ?_
              have w : wny r pg kd hw = 4 := by
                unfold wny
                (repeat' split) <;> first | rfl | (exfalso; omega)
              rw [w] at k
              exact k
          · refine V_iload_n (pc := 46) e_X1_staplingRefusal_46 rfl ?_
            refine V_iconst (pc := 47) e_X1_staplingRefusal_47 ?_
            refine V_idiv (pc := 48) e_X1_staplingRefusal_48 (by omega) (by decide) ?_
            refine V_goto (pc := 49) e_X1_staplingRefusal_49 (by decide) ?_
            refine V_istore_n (pc := 53) e_X1_staplingRefusal_53 (by decide) ?_
            refine V_aload_n (pc := 54) e_X1_staplingRefusal_54 rfl (Or.inl ⟨_, rfl⟩) ?_
            refine Vd_get (pc := 55) (q := 9) fx_1_37 e_X1_staplingRefusal_55 rfl rfl ?_
            refine V_iload_n (pc := 58) e_X1_staplingRefusal_58 rfl ?_
            refine V_icmp_le (pc := 59) e_X1_staplingRefusal_59 (by decide) (by omega) (by omega) (fun h59 => ?_) (fun h59 => ?_)
            · refine V_iconst (pc := 66) e_X1_staplingRefusal_66 ?_
              refine V_ret (pc := 67) (v := some (zI _)) ⟨e_X1_staplingRefusal_67, _, rfl, rfl⟩ ?_
              have w : wny r pg kd hw = 0 := by
                unfold wny
                (repeat' split) <;> first | rfl | (exfalso; omega)
              rw [w] at k
              exact k
            · refine V_iconst (pc := 62) e_X1_staplingRefusal_62 ?_
              refine V_goto (pc := 63) e_X1_staplingRefusal_63 (by decide) ?_
              refine V_ret (pc := 67) (v := some (zI _)) ⟨e_X1_staplingRefusal_67, _, rfl, rfl⟩ ?_
              have w : wny r pg kd hw = 4 := by
                unfold wny
                (repeat' split) <;> first | rfl | (exfalso; omega)
              rw [w] at k
              exact k
        · refine V_iconst (pc := 36) e_X1_staplingRefusal_36 ?_
          refine V_ret (pc := 37) (v := some (zI _)) ⟨e_X1_staplingRefusal_37, _, rfl, rfl⟩ ?_
          have w : wny r pg kd hw = 3 := by
            unfold wny
            (repeat' split) <;> first | rfl | (exfalso; omega)
          rw [w] at k
          exact k
      · refine V_iconst (pc := 26) e_X1_staplingRefusal_26 ?_
        refine V_ret (pc := 27) (v := some (zI _)) ⟨e_X1_staplingRefusal_27, _, rfl, rfl⟩ ?_
        have w : wny r pg kd hw = 2 := by
          unfold wny
          (repeat' split) <;> first | rfl | (exfalso; omega)
        rw [w] at k
        exact k
    · refine V_iconst (pc := 16) e_X1_staplingRefusal_16 ?_
      refine V_ret (pc := 17) (v := some (zI _)) ⟨e_X1_staplingRefusal_17, _, rfl, rfl⟩ ?_
      have w : wny r pg kd hw = 1 := by
        unfold wny
        (repeat' split) <;> first | rfl | (exfalso; omega)
      rw [w] at k
      exact k
  · refine V_iconst (pc := 7) e_X1_staplingRefusal_7 ?_
    refine V_ret (pc := 8) (v := some (zI _)) ⟨e_X1_staplingRefusal_8, _, rfl, rfl⟩ ?_
    have w : wny r pg kd hw = 0 := by
      unfold wny
      (repeat' split) <;> first | rfl | (exfalso; omega)
    rw [w] at k
    exact k
