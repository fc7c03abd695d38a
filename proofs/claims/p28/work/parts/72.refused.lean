/-! the law's cells, and what it holds refused -/
section LAW
variable {M : MI} {N N1 pc : Nat} {ls : List (Nat × Value)} {st : List Value} {Q : Option Value → Sto → Prop} {σ : Sto} {L : Nat} {xs : Nat → Int32}
theorem V_scr2 {j : Int} (hs : σ.2.2 = (L, xs)) (hL : L ≤ 260) (hd : decode (miB M) pc = .ok (.iaload, 1)) (h0 : 0 ≤ j) (h1 : j < (L : Int)) (kk : V M N1 (pc + 1) ls (zI (xs j.toNat).toInt :: st) N σ Q) : V M N1 pc ls (zI j :: .retAddr 3 :: st) N σ Q :=
  V_scr hd h0 (by rw [hs]; exact h1) (by rw [hs]; show L < _; omega) (by rw [hs]; exact kk)
theorem V_scl2 (hs : σ.2.2 = (L, xs)) (hd : decode (miB M) pc = .ok (.arraylength, 1)) (kk : V M N1 (pc + 1) ls (zI (L : Int) :: st) N σ Q) : V M N1 pc ls (.retAddr 3 :: st) N σ Q :=
  V_scl hd (by rw [hs]; exact kk)
end LAW
theorem ba_mx (x : Int) : 0 ≤ ba x 2147483647 := by
  unfold ba
  have h : ((Int32.ofInt x &&& Int32.ofInt 2147483647).toBitVec).msb = false := by
    rw [Int32.toBitVec_and, BitVec.msb_and, show (Int32.ofInt 2147483647).toBitVec.msb = false by decide, Bool.and_false]
  show 0 ≤ (Int32.ofInt x &&& Int32.ofInt 2147483647).toBitVec.toInt
  rw [BitVec.toInt_eq_toNat_of_msb h]
  omega
theorem ba_hi (x y : Int) : ba x y < 2147483648 := (zi_rg (Int32.ofInt x &&& Int32.ofInt y)).2
theorem t_cell_18 {L : Nat} {xs : Nat → Int32} {S : Sto} {Q : Option Value → Sto → Prop} (hs : S.2.2 = (L, xs)) (hL : L ≤ 260) {e y : Int} (k : ∀ z : Int, -2147483648 ≤ z ∧ z < 2147483648 → Q (some (zI z)) S) : V M_L_cell 144 18 [(0, .retAddr 3), (1, zI e)] [zI y] 144 S Q := by
  refine V_istore_n (pc := 18) e_L_cell_18 (by decide) ?_
  refine V_iload_n (pc := 19) e_L_cell_19 rfl ?_
  refine V_iload_n (pc := 20) e_L_cell_20 rfl ?_
  refine V_bipush (pc := 21) (by decide) e_L_cell_21 ?_
  refine V_iushr (pc := 23) e_L_cell_23 (fun z23 r_z23 => ?_)
  refine V_ixor (pc := 24) e_L_cell_24 (fun z24 r_z24 => ?_)
  refine V_ret (pc := 25) (v := some (zI _)) ⟨e_L_cell_25, _, rfl, rfl⟩ ?_
  exact k _ (by assumption)
theorem c_L_cell {L : Nat} {xs : Nat → Int32} {S : Sto} {Q : Option Value → Sto → Prop} (hs : S.2.2 = (L, xs)) (hL : L ≤ 260) {e : Int} (he : 0 ≤ e ∧ e ≤ 1000) (k : ∀ z : Int, -2147483648 ≤ z ∧ z < 2147483648 → Q (some (zI z)) S) : Con M_L_cell 144 144 S [.retAddr 3, zI e] Q := by
  refine V_entry ok_L_cell (Nat.le_refl _) (Nat.le_of_ble_eq_true rfl) (V_ls [(0, .retAddr 3), (1, zI e)] ⟨rfl, rfl, trivial⟩ ?_)
  refine V_iload_n (pc := 0) e_L_cell_0 rfl ?_
  refine V_aload_n (pc := 1) e_L_cell_1 rfl (Or.inr (Or.inr ⟨_, rfl⟩)) ?_
  refine V_scl2 (pc := 2) hs e_L_cell_2 ?_
  refine V_icmp_ge (pc := 3) e_L_cell_3 (by decide) (by omega) (by omega) (fun h3 => ?_) (fun h3 => ?_)
  · refine V_ldc (pc := 12) (e := 916318735) (by decide) rfl e_L_cell_12 ?_
    refine V_iload_n (pc := 14) e_L_cell_14 rfl ?_
    refine V_iconst (pc := 15) e_L_cell_15 ?_
    refine V_iadd (pc := 16) e_L_cell_16 ?_
    refine V_imul (pc := 17) e_L_cell_17 ?_
    exact t_cell_18 hs hL k
  · refine V_aload_n (pc := 6) e_L_cell_6 rfl (Or.inr (Or.inr ⟨_, rfl⟩)) ?_
    refine V_iload_n (pc := 7) e_L_cell_7 rfl ?_
    refine V_scr2 (pc := 8) hs hL e_L_cell_8 (by omega) (by omega) ?_
    refine V_goto (pc := 9) e_L_cell_9 (by decide) ?_
    exact t_cell_18 hs hL k
theorem c_L_low {S : Sto} {Q : Option Value → Sto → Prop} {v n : Int} (hn : 0 < n ∧ n < 2147483648) (k : ∀ z : Int, 0 ≤ z ∧ z < n → Q (some (zI z)) S) : Con M_L_low 144 144 S [zI v, zI n] Q := by
  refine V_entry ok_L_low (Nat.le_refl _) (Nat.le_of_ble_eq_true rfl) (V_ls [(0, zI v), (1, zI n)] ⟨rfl, rfl, trivial⟩ ?_)
  have b1 := ba_mx v
  have b2 := ba_hi v 2147483647
  refine V_iload_n (pc := 0) e_L_low_0 rfl ?_
  refine V_ldc (pc := 1) (e := 2147483647) (by decide) rfl e_L_low_1 ?_
  refine V_iand (pc := 3) e_L_low_3 ?_
  refine V_iload_n (pc := 4) e_L_low_4 rfl ?_
  refine V_irem (pc := 5) e_L_low_5 (by omega) (by omega) ?_
  refine V_ret (pc := 6) (v := some (zI _)) ⟨e_L_low_6, _, rfl, rfl⟩ ?_
  exact k _ ⟨Int.emod_nonneg _ (by omega), Int.emod_lt_of_pos _ (by omega)⟩
theorem nx_no {r : Int → Int} (h : RI r) : plc r (r 1) < 0 := by
  rw [plc_neg]
  intro i a b
  have := (h.2.2.2.2.2.1 i a b).2.2.2.2
  omega
theorem wny_4 {r : Int → Int} : wny r 1 0 4 = 1 := rfl
theorem wny_0 {r : Int → Int} : wny r 1 0 0 = 0 := rfl
theorem q_queuedN {B : Int} {scr : Nat × (Nat → Int32)} {S : Sto} {r : Int → Int} {sv : Int} {ρ : Int → Int → Int} {rf : Int} {Q : Option Value → Sto → Prop} (h : CL B scr S r sv ρ rf) {t : Int} (ht : r 0 ≤ t ∧ t < 2147483648) (h0 : 0 ≤ t) (k : ∀ S', CL B scr S' r sv ρ rf → Q (some (zI (-4))) S') : Con M_X7_queued 144 144 S [.ref 0, zI t] Q := by
  refine q_queued h (by omega) (fun g => absurd g (by omega)) (fun _ S' c => ?_)
  have n := h.gi.ni
  rw [qu_none (Or.inl ht.1) _ _ (by omega)]
  exact k S' c
theorem c_L_refused {B : Int} {scr : Nat × (Nat → Int32)} {r : Int → Int} {sv : Int} {ρ : Int → Int → Int} {rf : Int} {Q : Option Value → Sto → Prop} {S : Sto} (hC : CL B scr S r sv ρ rf) (hB : B ≤ 900000) (k : ∀ S rf, CL B scr S r sv ρ rf → Q (some (zI 1)) S) : Con M_L_refused 144 144 S [.ref 0] Q := by
  refine V_entry ok_L_refused (Nat.le_refl _) (Nat.le_of_ble_eq_true rfl) (V_ls [(0, .ref 0)] ⟨rfl, trivial⟩ ?_)
  have ni := hC.gi.1.1
  unfold NI at ni
  have hv := hC.sv
  have hnx := nx_no hC.gi.1
  refine V_aload_n (pc := 0) e_L_refused_0 rfl (Or.inl ⟨_, rfl⟩) ?_
  refine V_cS1 (pc := 1) ca_8_42 e_L_refused_1 (by decide) (Nat.le_of_ble_eq_true rfl) (c_L_print hC (fun S hC => ?_))
  refine V_lstore_n (pc := 4) e_L_refused_4 (by decide) ?_
  refine V_aload_n (pc := 5) e_L_refused_5 rfl (Or.inl ⟨_, rfl⟩) ?_
  refine V_bipush (pc := 6) (by decide) e_L_refused_6 ?_
  refine V_cV1 (pc := 8) ca_8_13 e_L_refused_8 (by decide) (Nat.le_of_ble_eq_true rfl) (by decide) rfl (by decide) (q_count (x := sv) hC (by decide) rfl (fun S hC => ?_))
  refine V_istore_n (pc := 11) e_L_refused_11 (by decide) ?_
  refine V_aload_n (pc := 12) e_L_refused_12 rfl (Or.inl ⟨_, rfl⟩) ?_
  refine V_iconst (pc := 13) e_L_refused_13 ?_
  refine V_cV1 (pc := 14) ca_8_13 e_L_refused_14 (by decide) (Nat.le_of_ble_eq_true rfl) (by decide) rfl (by decide) (q_count (x := r 1) hC (by decide) rfl (fun S hC => ?_))
  refine V_istore (pc := 17) e_L_refused_17 (by decide) ?_
  refine V_aload_n (pc := 19) e_L_refused_19 rfl (Or.inl ⟨_, rfl⟩) ?_
  refine V_iconst (pc := 20) e_L_refused_20 ?_
  refine V_iconst (pc := 21) e_L_refused_21 ?_
  refine V_cV2 (pc := 22) ca_8_48 e_L_refused_22 (by decide) (Nat.le_of_ble_eq_true rfl) (by decide) rfl (by decide) (q_fill hC (by decide) (by decide) (fun _ S hC => ?_) (fun g _ => absurd g (by decide)) (fun g _ => absurd g (by decide)))
  refine V_iconst (pc := 25) e_L_refused_25 ?_
  refine V_icmp_ne (pc := 26) e_L_refused_26 (by decide) (by decide) (by decide) (fun h => absurd (by decide) h) (fun _ => ?_)
  refine V_aload_n (pc := 29) e_L_refused_29 rfl (Or.inl ⟨_, rfl⟩) ?_
  refine V_iconst (pc := 30) e_L_refused_30 ?_
  refine V_sipush (pc := 31) (by decide) e_L_refused_31 ?_
  refine V_cV2 (pc := 34) ca_8_48 e_L_refused_34 (by decide) (Nat.le_of_ble_eq_true rfl) (by decide) rfl (by decide) (q_fill hC (by decide) (by decide) (fun _ S hC => ?_) (fun g _ => absurd g (by decide)) (fun g _ => absurd g (by decide)))
  refine V_iconst (pc := 37) e_L_refused_37 ?_
  refine V_icmp_ne (pc := 38) e_L_refused_38 (by decide) (by decide) (by decide) (fun h => absurd (by decide) h) (fun _ => ?_)
  refine V_aload_n (pc := 41) e_L_refused_41 rfl (Or.inl ⟨_, rfl⟩) ?_
  refine V_iconst (pc := 42) e_L_refused_42 ?_
  refine V_iconst (pc := 43) e_L_refused_43 ?_
  refine V_iconst (pc := 44) e_L_refused_44 ?_
  refine V_cV3 (pc := 45) ca_8_51 e_L_refused_45 (by decide) (Nat.le_of_ble_eq_true rfl) (by decide) rfl (by decide) (q_load hC (by decide) (by decide) (by decide) (fun _ S hC => ?_) (fun g => absurd g (by decide)))
  refine V_iconst (pc := 48) e_L_refused_48 ?_
  refine V_icmp_ne (pc := 49) e_L_refused_49 (by decide) (by decide) (by decide) (fun h => absurd (by decide) h) (fun _ => ?_)
  refine V_aload_n (pc := 52) e_L_refused_52 rfl (Or.inl ⟨_, rfl⟩) ?_
  refine V_iconst (pc := 53) e_L_refused_53 ?_
  refine V_iconst (pc := 54) e_L_refused_54 ?_
  refine V_cV2 (pc := 55) ca_8_29 e_L_refused_55 (by decide) (Nat.le_of_ble_eq_true rfl) (by decide) rfl (by decide) (q_tray hC (by decide) (by decide) (fun _ S hC => ?_) (fun g => absurd g (by decide)))
  refine V_iconst (pc := 58) e_L_refused_58 ?_
  refine V_icmp_ne (pc := 59) e_L_refused_59 (by decide) (by decide) (by decide) (fun h => absurd (by decide) h) (fun _ => ?_)
  refine V_aload_n (pc := 62) e_L_refused_62 rfl (Or.inl ⟨_, rfl⟩) ?_
  refine V_iconst (pc := 63) e_L_refused_63 ?_
  refine V_cV1 (pc := 64) ca_8_55 e_L_refused_64 (by decide) (Nat.le_of_ble_eq_true rfl) (by decide) rfl (by decide) (q_staples hC (by decide) (fun _ S hC => ?_) (fun g => absurd g (by decide)))
  refine V_iconst (pc := 67) e_L_refused_67 ?_
  refine V_icmp_ne (pc := 68) e_L_refused_68 (by decide) (by decide) (by decide) (fun h => absurd (by decide) h) (fun _ => ?_)
  refine V_aload_n (pc := 71) e_L_refused_71 rfl (Or.inl ⟨_, rfl⟩) ?_
  refine V_iconst (pc := 72) e_L_refused_72 ?_
  refine V_iconst (pc := 73) e_L_refused_73 ?_
  refine V_cV2 (pc := 74) ca_8_58 e_L_refused_74 (by decide) (Nat.le_of_ble_eq_true rfl) (by decide) rfl (by decide) (q_set hC (by decide) (by decide) (fun _ S hC => ?_) (fun g => absurd g (by decide)))
  refine V_iconst (pc := 77) e_L_refused_77 ?_
  refine V_icmp_ne (pc := 78) e_L_refused_78 (by decide) (by decide) (by decide) (fun h => absurd (by decide) h) (fun _ => ?_)
  refine V_aload_n (pc := 81) e_L_refused_81 rfl (Or.inl ⟨_, rfl⟩) ?_
  refine V_iconst (pc := 82) e_L_refused_82 ?_
  refine V_sipush (pc := 83) (by decide) e_L_refused_83 ?_
  refine V_cV2 (pc := 86) ca_8_58 e_L_refused_86 (by decide) (Nat.le_of_ble_eq_true rfl) (by decide) rfl (by decide) (q_set hC (by decide) (by decide) (fun _ S hC => ?_) (fun g => absurd g (by decide)))
  refine V_iconst (pc := 89) e_L_refused_89 ?_
  refine V_icmp_ne (pc := 90) e_L_refused_90 (by decide) (by decide) (by decide) (fun h => absurd (by decide) h) (fun _ => ?_)
  refine V_aload_n (pc := 93) e_L_refused_93 rfl (Or.inl ⟨_, rfl⟩) ?_
  refine V_iconst (pc := 94) e_L_refused_94 ?_
  refine V_iconst (pc := 95) e_L_refused_95 ?_
  refine V_iconst (pc := 96) e_L_refused_96 ?_
  refine V_iconst (pc := 97) e_L_refused_97 ?_
  refine V_iconst (pc := 98) e_L_refused_98 ?_
  refine V_cV5 (pc := 99) ca_8_61 e_L_refused_99 (by decide) (Nat.le_of_ble_eq_true rfl) (by decide) rfl (by decide) (q_job hC hB (by decide) (by decide) (by decide) (by decide) (by decide) (fun _ S hC => ?_) (fun g _ => absurd g (by decide)) (fun g _ _ => absurd g (by decide)) (fun g _ _ => absurd g (by decide)))
  refine V_iconst (pc := 102) e_L_refused_102 ?_
  refine V_icmp_ne (pc := 103) e_L_refused_103 (by decide) (by decide) (by decide) (fun h => absurd (by decide) h) (fun _ => ?_)
  refine V_aload_n (pc := 106) e_L_refused_106 rfl (Or.inl ⟨_, rfl⟩) ?_
  refine V_iconst (pc := 107) e_L_refused_107 ?_
  refine V_iconst (pc := 108) e_L_refused_108 ?_
  refine V_iconst (pc := 109) e_L_refused_109 ?_
  refine V_iconst (pc := 110) e_L_refused_110 ?_
  refine V_iconst (pc := 111) e_L_refused_111 ?_
  refine V_cV5 (pc := 112) ca_8_61 e_L_refused_112 (by decide) (Nat.le_of_ble_eq_true rfl) (by decide) rfl (by decide) (q_job hC hB (by decide) (by decide) (by decide) (by decide) (by decide) (fun _ S hC => ?_) (fun g _ => absurd g (by decide)) (fun g _ _ => absurd g (by decide)) (fun g _ _ => absurd g (by decide)))
  refine V_iconst (pc := 115) e_L_refused_115 ?_
  refine V_icmp_ne (pc := 116) e_L_refused_116 (by decide) (by decide) (by decide) (fun h => absurd (by decide) h) (fun _ => ?_)
  refine V_aload_n (pc := 119) e_L_refused_119 rfl (Or.inl ⟨_, rfl⟩) ?_
  refine V_iconst (pc := 120) e_L_refused_120 ?_
  refine V_iconst (pc := 121) e_L_refused_121 ?_
  refine V_iconst (pc := 122) e_L_refused_122 ?_
  refine V_iconst (pc := 123) e_L_refused_123 ?_
  refine V_bipush (pc := 124) (by decide) e_L_refused_124 ?_
  refine V_cV5 (pc := 126) ca_8_61 e_L_refused_126 (by decide) (Nat.le_of_ble_eq_true rfl) (by decide) rfl (by decide) (q_job hC hB (by decide) (by decide) (by decide) (by decide) (by decide) (fun _ S hC => ?_) (fun g _ => absurd g (by decide)) (fun g _ _ => absurd g (by decide)) (fun g _ _ => absurd g (by decide)))
  refine V_iconst (pc := 129) e_L_refused_129 ?_
  refine V_icmp_ne (pc := 130) e_L_refused_130 (by decide) (by decide) (by decide) (fun h => absurd (by decide) h) (fun _ => ?_)
  refine V_aload_n (pc := 133) e_L_refused_133 rfl (Or.inl ⟨_, rfl⟩) ?_
  refine V_iconst (pc := 134) e_L_refused_134 ?_
  refine V_iconst (pc := 135) e_L_refused_135 ?_
  refine V_iconst (pc := 136) e_L_refused_136 ?_
  refine V_iconst (pc := 137) e_L_refused_137 ?_
  refine V_iconst (pc := 138) e_L_refused_138 ?_
  refine V_cV5 (pc := 139) ca_8_61 e_L_refused_139 (by decide) (Nat.le_of_ble_eq_true rfl) (by decide) rfl (by decide) (q_job hC hB (by decide) (by decide) (by decide) (by decide) (by decide) (fun g => absurd (by decide) g) (fun _ _ S hC => ?_) (fun _ g _ => absurd (wny_4.symm.trans g) (by decide)) (fun _ g _ => absurd (wny_4.symm.trans g) (by decide)))
  rw [wny_4] at hC
  refine V_bipush (pc := 142) (by decide) e_L_refused_142 ?_
  refine V_icmp_ne (pc := 144) e_L_refused_144 (by decide) (by decide) (by decide) (fun h => absurd (by decide) h) (fun _ => ?_)
  refine V_aload_n (pc := 147) e_L_refused_147 rfl (Or.inl ⟨_, rfl⟩) ?_
  refine V_cV0 (pc := 148) ca_8_65 e_L_refused_148 (by decide) (Nat.le_of_ble_eq_true rfl) (by decide) rfl (by decide) (q_refusal hC (fun S hC => ?_))
  refine V_iconst (pc := 151) e_L_refused_151 ?_
  refine V_icmp_ne (pc := 152) e_L_refused_152 (by decide) (by decide) (by decide) (fun h => absurd (by decide) h) (fun _ => ?_)
  refine V_aload_n (pc := 155) e_L_refused_155 rfl (Or.inl ⟨_, rfl⟩) ?_
  refine V_iload (pc := 156) e_L_refused_156 rfl ?_
  refine V_iconst (pc := 158) e_L_refused_158 ?_
  refine V_cV2 (pc := 159) ca_8_68 e_L_refused_159 (by decide) (Nat.le_of_ble_eq_true rfl) (by decide) rfl (by decide) (q_hold hC (by omega) (by decide) (fun g => absurd (by omega) g) (fun _ _ S hC => ?_) (fun _ g => absurd g (by omega)))
  refine V_bipush (pc := 162) (by decide) e_L_refused_162 ?_
  refine V_icmp_ne (pc := 164) e_L_refused_164 (by decide) (by decide) (by decide) (fun h => absurd (by decide) h) (fun _ => ?_)
  refine V_aload_n (pc := 167) e_L_refused_167 rfl (Or.inl ⟨_, rfl⟩) ?_
  refine V_iconst (pc := 168) e_L_refused_168 ?_
  refine V_iconst (pc := 169) e_L_refused_169 ?_
  refine V_cV2 (pc := 170) ca_8_68 e_L_refused_170 (by decide) (Nat.le_of_ble_eq_true rfl) (by decide) rfl (by decide) (q_hold hC (by decide) (by decide) (fun _ S hC => ?_) (fun g _ => absurd g (by decide)) (fun g _ => absurd g (by decide)))
  refine V_iconst (pc := 173) e_L_refused_173 ?_
  refine V_icmp_ne (pc := 174) e_L_refused_174 (by decide) (by decide) (by decide) (fun h => absurd (by decide) h) (fun _ => ?_)
  refine V_aload_n (pc := 177) e_L_refused_177 rfl (Or.inl ⟨_, rfl⟩) ?_
  refine V_iload (pc := 178) e_L_refused_178 rfl ?_
  refine V_cV1 (pc := 180) ca_8_71 e_L_refused_180 (by decide) (Nat.le_of_ble_eq_true rfl) (by decide) rfl (by decide) (q_cancel hC (by omega) (fun g => absurd g (by omega)) (fun _ _ S hC => ?_) (fun _ g => absurd g (by omega)))
  refine V_bipush (pc := 183) (by decide) e_L_refused_183 ?_
  refine V_icmp_ne (pc := 185) e_L_refused_185 (by decide) (by decide) (by decide) (fun h => absurd (by decide) h) (fun _ => ?_)
  refine V_aload_n (pc := 188) e_L_refused_188 rfl (Or.inl ⟨_, rfl⟩) ?_
  refine V_bipush (pc := 189) (by decide) e_L_refused_189 ?_
  refine V_iconst (pc := 191) e_L_refused_191 ?_
  refine V_cV2 (pc := 192) ca_8_74 e_L_refused_192 (by decide) (Nat.le_of_ble_eq_true rfl) (by decide) rfl (by decide) (q_priority hC (by decide) (by decide) (fun _ S hC => ?_) (fun g _ => absurd g (by decide)) (fun g _ => absurd g (by decide)))
  refine V_iconst (pc := 195) e_L_refused_195 ?_
  refine V_icmp_ne (pc := 196) e_L_refused_196 (by decide) (by decide) (by decide) (fun h => absurd (by decide) h) (fun _ => ?_)
  refine V_iconst (pc := 199) e_L_refused_199 ?_
  refine V_goto (pc := 200) e_L_refused_200 (by decide) ?_
  refine V_istore (pc := 204) e_L_refused_204 (by decide) ?_
  refine V_iload (pc := 206) e_L_refused_206 rfl ?_
  refine V_if_eq (pc := 208) e_L_refused_208 (by decide) (by decide) (fun h => absurd h (by decide)) (fun _ => ?_)
  refine V_aload_n (pc := 211) e_L_refused_211 rfl (Or.inl ⟨_, rfl⟩) ?_
  refine V_iload (pc := 212) e_L_refused_212 rfl ?_
  refine V_iconst (pc := 214) e_L_refused_214 ?_
  refine V_cV2 (pc := 215) ca_8_74 e_L_refused_215 (by decide) (Nat.le_of_ble_eq_true rfl) (by decide) rfl (by decide) (q_priority hC (by omega) (by decide) (fun g => absurd (by omega) g) (fun _ _ S hC => ?_) (fun _ g => absurd g (by omega)))
  refine V_bipush (pc := 218) (by decide) e_L_refused_218 ?_
  refine V_icmp_ne (pc := 220) e_L_refused_220 (by decide) (by decide) (by decide) (fun h => absurd (by decide) h) (fun _ => ?_)
  refine V_aload_n (pc := 223) e_L_refused_223 rfl (Or.inl ⟨_, rfl⟩) ?_
  refine V_iload (pc := 224) e_L_refused_224 rfl ?_
  refine V_iconst (pc := 226) e_L_refused_226 ?_
  refine V_cV2 (pc := 227) ca_8_25 e_L_refused_227 (by decide) (Nat.le_of_ble_eq_true rfl) (by decide) rfl (by decide) (q_jobInfo hC (by omega) (by decide) (fun g => absurd (by omega) g) (fun _ _ S hC => ?_) (fun _ g => absurd g (by omega)))
  refine V_bipush (pc := 230) (by decide) e_L_refused_230 ?_
  refine V_icmp_ne (pc := 232) e_L_refused_232 (by decide) (by decide) (by decide) (fun h => absurd (by decide) h) (fun _ => ?_)
  refine V_aload_n (pc := 235) e_L_refused_235 rfl (Or.inl ⟨_, rfl⟩) ?_
  refine V_iconst (pc := 236) e_L_refused_236 ?_
  refine V_iconst (pc := 237) e_L_refused_237 ?_
  refine V_cV2 (pc := 238) ca_8_25 e_L_refused_238 (by decide) (Nat.le_of_ble_eq_true rfl) (by decide) rfl (by decide) (q_jobInfo hC (by decide) (by decide) (fun _ S hC => ?_) (fun g _ => absurd g (by decide)) (fun g _ => absurd g (by decide)))
  refine V_iconst (pc := 241) e_L_refused_241 ?_
  refine V_icmp_ne (pc := 242) e_L_refused_242 (by decide) (by decide) (by decide) (fun h => absurd (by decide) h) (fun _ => ?_)
  refine V_aload_n (pc := 245) e_L_refused_245 rfl (Or.inl ⟨_, rfl⟩) ?_
  refine V_iconst (pc := 246) e_L_refused_246 ?_
  refine V_cV1 (pc := 247) ca_8_22 e_L_refused_247 (by decide) (Nat.le_of_ble_eq_true rfl) (by decide) rfl (by decide) (q_queued hC (by decide) (fun _ S hC => ?_) (fun g => absurd g (by decide)))
  refine V_iconst (pc := 250) e_L_refused_250 ?_
  refine V_icmp_ne (pc := 251) e_L_refused_251 (by decide) (by decide) (by decide) (fun h => absurd (by decide) h) (fun _ => ?_)
  refine V_aload_n (pc := 254) e_L_refused_254 rfl (Or.inl ⟨_, rfl⟩) ?_
  refine V_bipush (pc := 255) (by decide) e_L_refused_255 ?_
  refine V_cV1 (pc := 257) ca_8_22 e_L_refused_257 (by decide) (Nat.le_of_ble_eq_true rfl) (by decide) rfl (by decide) (q_queuedN hC (by omega) (by decide) (fun S hC => ?_))
  refine V_bipush (pc := 260) (by decide) e_L_refused_260 ?_
  refine V_icmp_ne (pc := 262) e_L_refused_262 (by decide) (by decide) (by decide) (fun h => absurd (by decide) h) (fun _ => ?_)
  refine V_aload_n (pc := 265) e_L_refused_265 rfl (Or.inl ⟨_, rfl⟩) ?_
  refine V_iconst (pc := 266) e_L_refused_266 ?_
  refine V_cV1 (pc := 267) ca_8_77 e_L_refused_267 (by decide) (Nat.le_of_ble_eq_true rfl) (by decide) rfl (by decide) (q_run hC hB (by decide) (fun _ S hC => ?_) (fun g => absurd g (by decide)))
  refine V_iconst (pc := 270) e_L_refused_270 ?_
  refine V_icmp_ne (pc := 271) e_L_refused_271 (by decide) (by decide) (by decide) (fun h => absurd (by decide) h) (fun _ => ?_)
  refine V_aload_n (pc := 274) e_L_refused_274 rfl (Or.inl ⟨_, rfl⟩) ?_
  refine V_bipush (pc := 275) (by decide) e_L_refused_275 ?_
  refine V_cV1 (pc := 277) ca_8_13 e_L_refused_277 (by decide) (Nat.le_of_ble_eq_true rfl) (by decide) rfl (by decide) (q_count (x := -1) hC (by decide) rfl (fun S hC => ?_))
  refine V_iconst (pc := 280) e_L_refused_280 ?_
  refine V_icmp_ne (pc := 281) e_L_refused_281 (by decide) (by decide) (by decide) (fun h => absurd (by decide) h) (fun _ => ?_)
  refine V_aload_n (pc := 284) e_L_refused_284 rfl (Or.inl ⟨_, rfl⟩) ?_
  refine V_bipush (pc := 285) (by decide) e_L_refused_285 ?_
  refine V_cV1 (pc := 287) ca_8_19 e_L_refused_287 (by decide) (Nat.le_of_ble_eq_true rfl) (by decide) rfl (by decide) (q_account hC (by decide) (fun _ S hC => ?_) (fun g => absurd g (by decide)))
  refine V_iconst (pc := 290) e_L_refused_290 ?_
  refine V_icmp_ne (pc := 291) e_L_refused_291 (by decide) (by decide) (by decide) (fun h => absurd (by decide) h) (fun _ => ?_)
  refine V_aload_n (pc := 294) e_L_refused_294 rfl (Or.inl ⟨_, rfl⟩) ?_
  refine V_iconst (pc := 295) e_L_refused_295 ?_
  refine V_iconst (pc := 296) e_L_refused_296 ?_
  refine V_cV2 (pc := 297) ca_8_35 e_L_refused_297 (by decide) (Nat.le_of_ble_eq_true rfl) (by decide) rfl (by decide) (q_paper hC (by decide) (by decide) (fun _ S hC => ?_) (fun g _ => absurd g (by decide)) (fun g _ => absurd g (by decide)))
  refine V_iconst (pc := 300) e_L_refused_300 ?_
  refine V_icmp_ne (pc := 301) e_L_refused_301 (by decide) (by decide) (by decide) (fun h => absurd (by decide) h) (fun _ => ?_)
  refine V_aload_n (pc := 304) e_L_refused_304 rfl (Or.inl ⟨_, rfl⟩) ?_
  refine V_bipush (pc := 305) (by decide) e_L_refused_305 ?_
  refine V_iconst (pc := 307) e_L_refused_307 ?_
  refine V_cV2 (pc := 308) ca_8_35 e_L_refused_308 (by decide) (Nat.le_of_ble_eq_true rfl) (by decide) rfl (by decide) (q_paper hC (by decide) (by decide) (fun g => absurd (by decide) g) (fun _ _ S hC => ?_) (fun _ g => absurd g (by omega)))
  refine V_bipush (pc := 311) (by decide) e_L_refused_311 ?_
  refine V_icmp_ne (pc := 313) e_L_refused_313 (by decide) (by decide) (by decide) (fun h => absurd (by decide) h) (fun _ => ?_)
  refine V_aload_n (pc := 316) e_L_refused_316 rfl (Or.inl ⟨_, rfl⟩) ?_
  refine V_iconst (pc := 317) e_L_refused_317 ?_
  refine V_iconst (pc := 318) e_L_refused_318 ?_
  refine V_cV2 (pc := 319) ca_8_32 e_L_refused_319 (by decide) (Nat.le_of_ble_eq_true rfl) (by decide) rfl (by decide) (q_lacking hC (by decide) (by decide) (fun _ S hC => ?_) (fun g => absurd g (by decide)))
  refine V_iconst (pc := 322) e_L_refused_322 ?_
  refine V_icmp_ne (pc := 323) e_L_refused_323 (by decide) (by decide) (by decide) (fun h => absurd (by decide) h) (fun _ => ?_)
  refine V_aload_n (pc := 326) e_L_refused_326 rfl (Or.inl ⟨_, rfl⟩) ?_
  refine V_iload (pc := 327) e_L_refused_327 rfl ?_
  refine V_cV1 (pc := 329) ca_8_80 e_L_refused_329 (by decide) (Nat.le_of_ble_eq_true rfl) (by decide) rfl (by decide) (q_ticksTo hC (by omega) (by omega) (fun g => absurd g (by omega)) (fun _ _ S hC => ?_) (fun _ g => absurd g (by omega)))
  refine V_bipush (pc := 332) (by decide) e_L_refused_332 ?_
  refine V_icmp_ne (pc := 334) e_L_refused_334 (by decide) (by decide) (by decide) (fun h => absurd (by decide) h) (fun _ => ?_)
  refine V_aload_n (pc := 337) e_L_refused_337 rfl (Or.inl ⟨_, rfl⟩) ?_
  refine V_sipush (pc := 338) (by decide) e_L_refused_338 ?_
  refine V_cV1 (pc := 341) ca_8_83 e_L_refused_341 (by decide) (Nat.le_of_ble_eq_true rfl) (by decide) rfl (by decide) (q_type hC (by decide) (by decide) (fun S hC => ?_))
  refine V_iconst (pc := 344) e_L_refused_344 ?_
  refine V_icmp_ne (pc := 345) e_L_refused_345 (by decide) (by decide) (by decide) (fun h => absurd (by decide) h) (fun _ => ?_)
  refine V_aload_n (pc := 348) e_L_refused_348 rfl (Or.inl ⟨_, rfl⟩) ?_
  refine V_iconst (pc := 349) e_L_refused_349 ?_
  refine V_cV1 (pc := 350) ca_8_86 e_L_refused_350 (by decide) (Nat.le_of_ble_eq_true rfl) (by decide) rfl (by decide) (q_fault hC (fun S hC => ?_))
  refine V_iconst (pc := 353) e_L_refused_353 ?_
  refine V_icmp_ne (pc := 354) e_L_refused_354 (by decide) (by decide) (by decide) (fun h => absurd (by decide) h) (fun _ => ?_)
  refine V_aload_n (pc := 357) e_L_refused_357 rfl (Or.inl ⟨_, rfl⟩) ?_
  refine V_iconst (pc := 358) e_L_refused_358 ?_
  refine V_cV1 (pc := 359) ca_8_13 e_L_refused_359 (by decide) (Nat.le_of_ble_eq_true rfl) (by decide) rfl (by decide) (q_count (x := r 0) hC (by decide) rfl (fun S hC => ?_))
  refine V_bipush (pc := 362) (by decide) e_L_refused_362 ?_
  refine V_icmp_lt (pc := 364) e_L_refused_364 (by decide) (by omega) (by decide) (fun h364 => ?_) (fun h364 => ?_)
  · refine V_iconst (pc := 381) e_L_refused_381 ?_
    refine V_goto (pc := 382) e_L_refused_382 (by decide) ?_
    refine V_istore (pc := 386) e_L_refused_386 (by decide) ?_
    refine V_iload (pc := 388) e_L_refused_388 rfl ?_
    refine V_if_eq (pc := 390) e_L_refused_390 (by decide) (by decide) (fun h => absurd h (by decide)) (fun _ => ?_)
    refine V_aload_n (pc := 393) e_L_refused_393 rfl (Or.inl ⟨_, rfl⟩) ?_
    refine V_cS1 (pc := 394) ca_8_42 e_L_refused_394 (by decide) (Nat.le_of_ble_eq_true rfl) (c_L_print hC (fun S hC => ?_))
    refine V_lload_n (pc := 397) e_L_refused_397 rfl ?_
    refine V_lsame (pc := 398) e_L_refused_398 ?_
    refine V_if_ne (pc := 399) e_L_refused_399 (by decide) (by decide) (fun h => absurd (by decide) h) (fun _ => ?_)
    refine V_aload_n (pc := 402) e_L_refused_402 rfl (Or.inl ⟨_, rfl⟩) ?_
    refine V_bipush (pc := 403) (by decide) e_L_refused_403 ?_
    refine V_cV1 (pc := 405) ca_8_13 e_L_refused_405 (by decide) (Nat.le_of_ble_eq_true rfl) (by decide) rfl (by decide) (q_count (x := sv) hC (by decide) rfl (fun S hC => ?_))
    refine V_iload_n (pc := 408) e_L_refused_408 rfl ?_
    refine V_icmp_ne (pc := 409) e_L_refused_409 (by decide) (by omega) (by omega) (fun h409 => ?_) (fun h409 => ?_)
    · exfalso
      omega
    · refine V_iconst (pc := 412) e_L_refused_412 ?_
      refine V_goto (pc := 413) e_L_refused_413 (by decide) ?_
      refine V_ret (pc := 417) (v := some (zI _)) ⟨e_L_refused_417, _, rfl, by decide⟩ ?_
      exact k S _ hC
  · refine V_aload_n (pc := 367) e_L_refused_367 rfl (Or.inl ⟨_, rfl⟩) ?_
    refine V_iconst (pc := 368) e_L_refused_368 ?_
    refine V_iconst (pc := 369) e_L_refused_369 ?_
    refine V_iconst (pc := 370) e_L_refused_370 ?_
    refine V_iconst (pc := 371) e_L_refused_371 ?_
    refine V_iconst (pc := 372) e_L_refused_372 ?_
    refine V_cV5 (pc := 373) ca_8_61 e_L_refused_373 (by decide) (Nat.le_of_ble_eq_true rfl) (by decide) rfl (by decide) (q_job hC hB (by decide) (by decide) (by decide) (by decide) (by decide) (fun g => absurd (by decide) g) (fun _ g => absurd (show (0 : Int) < 0 from g) (by decide)) (fun _ _ _ S hC => ?_) (fun _ _ g => absurd g (by omega)))
    refine V_bipush (pc := 376) (by decide) e_L_refused_376 ?_
    refine V_icmp_ne (pc := 378) e_L_refused_378 (by decide) (by decide) (by decide) (fun h => absurd (by decide) h) (fun _ => ?_)
    refine V_iconst (pc := 381) e_L_refused_381 ?_
    refine V_goto (pc := 382) e_L_refused_382 (by decide) ?_
    refine V_istore (pc := 386) e_L_refused_386 (by decide) ?_
    refine V_iload (pc := 388) e_L_refused_388 rfl ?_
    refine V_if_eq (pc := 390) e_L_refused_390 (by decide) (by decide) (fun h => absurd h (by decide)) (fun _ => ?_)
    refine V_aload_n (pc := 393) e_L_refused_393 rfl (Or.inl ⟨_, rfl⟩) ?_
    refine V_cS1 (pc := 394) ca_8_42 e_L_refused_394 (by decide) (Nat.le_of_ble_eq_true rfl) (c_L_print hC (fun S hC => ?_))
    refine V_lload_n (pc := 397) e_L_refused_397 rfl ?_
    refine V_lsame (pc := 398) e_L_refused_398 ?_
    refine V_if_ne (pc := 399) e_L_refused_399 (by decide) (by decide) (fun h => absurd (by decide) h) (fun _ => ?_)
    refine V_aload_n (pc := 402) e_L_refused_402 rfl (Or.inl ⟨_, rfl⟩) ?_
    refine V_bipush (pc := 403) (by decide) e_L_refused_403 ?_
    refine V_cV1 (pc := 405) ca_8_13 e_L_refused_405 (by decide) (Nat.le_of_ble_eq_true rfl) (by decide) rfl (by decide) (q_count (x := sv) hC (by decide) rfl (fun S hC => ?_))
    refine V_iload_n (pc := 408) e_L_refused_408 rfl ?_
    refine V_icmp_ne (pc := 409) e_L_refused_409 (by decide) (by omega) (by omega) (fun h409 => ?_) (fun h409 => ?_)
    · exfalso
      omega
    · refine V_iconst (pc := 412) e_L_refused_412 ?_
      refine V_goto (pc := 413) e_L_refused_413 (by decide) ?_
      refine V_ret (pc := 417) (v := some (zI _)) ⟨e_L_refused_417, _, rfl, by decide⟩ ?_
      exact k S _ hC
