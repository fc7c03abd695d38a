/-! the law's print -/
def Lg (x : Int) : Int64 := (Int32.ofInt x).toInt64
def ph1 (r : Int → Int) (sv : Int) : Nat → Int64
  | 0 => 113
  | n + 1 => 31 * (31 * ph1 r sv n + (Int32.ofInt (cntF r sv 0 (n : Int))).toInt64) + (Int32.ofInt (r (16 + (n : Int) % 9))).toInt64
noncomputable def jin (r : Int → Int) (j w : Int) : Int := if plc r j < 0 then -4 else telF r (plc r j) w
def j0 (j : Int) : Int := if j < 0 then 0 else j
noncomputable def ph2i (r : Int → Int) (j : Int) (h : Int64) : Nat → Int64
  | 0 => h
  | n + 1 => 31 * ph2i r j h n + (Int32.ofInt (jin r j (n : Int))).toInt64
noncomputable def ph2 (r : Int → Int) (sv : Int) : Nat → Int64
  | 0 => ph1 r sv 15
  | n + 1 => ph2i r (j0 (quF r (n : Int) (r 0).toNat 0)) (31 * ph2 r sv n + (Int32.ofInt (quF r (n : Int) (r 0).toNat 0)).toInt64) 13
def trF (r : Int → Int) (t w : Int) : Int := if w < 3 then r (25 + 3 * t + w) else shA r (r (25 + 3 * t)) (r (25 + 3 * t + 1)) 4
def lkF (r : Int → Int) (s q : Int) : Int := if lkN r s q (r 0).toNat < 0 then 0 else lkN r s q (r 0).toNat
def paF (r : Int → Int) (k : Int) : Int := if r 9 ≤ k then -4 else r (37 + 3 * k + 2)
noncomputable def ph3 (r : Int → Int) (sv : Int) : Nat → Int64
  | 0 => ph2 r sv 10
  | n + 1 => 31 * (31 * (31 * ph3 r sv n + (Int32.ofInt (trF r ((n : Int) / 4) ((n : Int) % 4))).toInt64) + (Int32.ofInt (lkF r ((n : Int) / 4) ((n : Int) % 4))).toInt64) + (Int32.ofInt (paF r (n : Int))).toInt64
noncomputable def PH (r : Int → Int) (sv : Int) : Int64 := 31 * ph3 r sv 16 + (Int32.ofInt (bgF r).1).toInt64
theorem ph1_sv {r : Int → Int} {sv sv' : Int} : ∀ n : Nat, n ≤ 15 → ph1 r sv n = ph1 r sv' n
  | 0, _ => rfl
  | n + 1, h => by
    have e : cntF r sv 0 (n : Int) = cntF r sv' 0 (n : Int) := by
      unfold cntF
      (repeat' split) <;> first | rfl | omega
    unfold ph1
    rw [ph1_sv n (by omega), e]
/-- the history is not printed -/
theorem PH_sv (r : Int → Int) (sv sv' : Int) : PH r sv = PH r sv' := by
  have a : ∀ n : Nat, ph2 r sv n = ph2 r sv' n := fun n => by
    induction n with
    | zero => exact ph1_sv 15 (by decide)
    | succ n ih =>
      unfold ph2
      rw [ih]
  have b : ∀ n : Nat, ph3 r sv n = ph3 r sv' n := fun n => by
    induction n with
    | zero => exact a 10
    | succ n ih =>
      unfold ph3
      rw [ih]
  unfold PH
  rw [b]
section PRINT
variable {B : Int} {scr : Nat × (Nat → Int32)} {S : Sto} {r : Int → Int} {sv : Int} {ρ : Int → Int → Int} {rf : Int} {Q : Option Value → Sto → Prop}
theorem q_accountK (h : CL B scr S r sv ρ rf) {w x : Int} (hw : 0 ≤ w ∧ w ≤ 8) (hx : r (16 + w) = x) (k : ∀ S', CL B scr S' r sv ρ rf → Q (some (zI x)) S') : Con M_X7_account 144 144 S [.ref 0, zI w] Q :=
  q_account h (by omega) (fun g => absurd hw g) (fun _ => by rw [hx]; exact k)
theorem q_jobJ (h : CL B scr S r sv ρ rf) {j w : Int} (hj : 0 ≤ j ∧ j < 2147483648) (hw : 0 ≤ w ∧ w ≤ 12) (k : ∀ S', CL B scr S' r sv ρ rf → Q (some (zI (jin r j w))) S') : Con M_X7_jobInfo 144 144 S [.ref 0, zI j, zI w] Q := by
  refine q_jobInfo h (by omega) (by omega) (fun g => absurd (show 0 ≤ j ∧ 0 ≤ w ∧ w ≤ 12 by omega) g) (fun _ g S' c => ?_) (fun _ g S' c => ?_)
  · have e : jin r j w = -4 := if_pos g
    rw [← e]
    exact k S' c
  · have e : jin r j w = telF r (plc r j) w := if_neg (by omega)
    rw [← e]
    exact k S' c
theorem q_jobJe (h : CL B scr S r sv ρ rf) {j x w : Int} (e : x = j) (hj : 0 ≤ x ∧ x < 2147483648) (hw : 0 ≤ w ∧ w ≤ 12) (k : ∀ S', CL B scr S' r sv ρ rf → Q (some (zI (jin r j w))) S') : Con M_X7_jobInfo 144 144 S [.ref 0, zI x, zI w] Q := by
  subst e
  exact q_jobJ h hj hw k
theorem q_paperP (h : CL B scr S r sv ρ rf) {j : Int} (hj : 0 ≤ j ∧ j < 2147483648) (k : ∀ S', CL B scr S' r sv ρ rf → Q (some (zI (paF r j))) S') : Con M_X7_paper 144 144 S [.ref 0, zI j, zI 2] Q := by
  refine q_paper h (by omega) (by decide) (fun g => absurd (show 0 ≤ j ∧ 0 ≤ (2 : Int) ∧ (2 : Int) ≤ 2 by omega) g) (fun _ g S' c => ?_) (fun _ g S' c => ?_)
  · have e : paF r j = -4 := if_pos g
    rw [← e]
    exact k S' c
  · have e : paF r j = r (37 + 3 * j + 2) := if_neg (by omega)
    rw [← e]
    exact k S' c
end PRINT
theorem rg32 {x : Int} (h : -4 ≤ x ∧ x ≤ 10000000) : -2147483648 ≤ x ∧ x < 2147483648 := by omega
theorem t_print_177 {B : Int} {scr : Nat × (Nat → Int32)} {r : Int → Int} {sv : Int} {ρ : Int → Int → Int} {rf : Int} {Q : Option Value → Sto → Prop} {S : Sto} (hC : CL B scr S r sv ρ rf) (k : ∀ S, CL B scr S r sv ρ rf → Q (some (.long (PH r sv))) S) : V M_L_print 144 177 [(0, .ref 0), (1, .long (ph3 r sv 16))] [] 144 S Q := by
  refine V_ldc2 (pc := 177) (v := 31) (by decide) e_L_print_177 ?_
  refine V_lload_n (pc := 180) e_L_print_180 rfl ?_
  refine V_lmul (pc := 181) e_L_print_181 ?_
  refine V_aload_n (pc := 182) e_L_print_182 rfl (Or.inl ⟨_, rfl⟩) ?_
  refine V_cV0 (pc := 183) ca_8_38 e_L_print_183 (by decide) (Nat.le_of_ble_eq_true rfl) (by decide) rfl (by decide) (q_stop hC (fun S hC => ?_))
  refine V_i2l (pc := 186) e_L_print_186 ?_
  refine V_ladd (pc := 187) e_L_print_187 ?_
  refine V_ret (pc := 188) (v := some (.long _)) ⟨e_L_print_188, rfl⟩ ?_
  exact k S hC
theorem l_print_119 {B : Int} {scr : Nat × (Nat → Int32)} {r : Int → Int} {sv : Int} {ρ : Int → Int → Int} {rf : Int} {Q : Option Value → Sto → Prop} (k : ∀ S, CL B scr S r sv ρ rf → Q (some (.long (PH r sv))) S) : ∀ n : Nat, n ≤ 16 → ∀ S : Sto, CL B scr S r sv ρ rf → V M_L_print 144 119 [(0, .ref 0), (1, .long (ph3 r sv n)), (3, zI ((n : Nat) : Int))] [] 144 S Q := by
  refine loop_nat 16 (fun n hn ih => ?_)
  intro S hC
  refine V_iload_n (pc := 119) e_L_print_119 rfl ?_
  refine V_bipush (pc := 120) (by decide) e_L_print_120 ?_
  refine V_icmp_ge (pc := 122) e_L_print_122 (by decide) (by omega) (by decide) (fun h122 => ?_) (fun h122 => ?_)
  · obtain rfl : n = 16 := by omega
    exact V_lq [(0, .ref 0), (1, .long (ph3 r sv 16))] ⟨⟨_, rfl, rfl⟩, ⟨_, rfl, rfl⟩, trivial⟩ (t_print_177 hC k)
  · refine V_ldc2 (pc := 125) (v := 31) (by decide) e_L_print_125 ?_
    refine V_ldc2 (pc := 128) (v := 31) (by decide) e_L_print_128 ?_
    refine V_ldc2 (pc := 131) (v := 31) (by decide) e_L_print_131 ?_
    refine V_lload_n (pc := 134) e_L_print_134 rfl ?_
    refine V_lmul (pc := 135) e_L_print_135 ?_
    refine V_aload_n (pc := 136) e_L_print_136 rfl (Or.inl ⟨_, rfl⟩) ?_
    refine V_iload_n (pc := 137) e_L_print_137 rfl ?_
    refine V_iconst (pc := 138) e_L_print_138 ?_
    refine V_idiv (pc := 139) e_L_print_139 (by omega) (by decide) ?_
    refine V_iload_n (pc := 140) e_L_print_140 rfl ?_
    refine V_iconst (pc := 141) e_L_print_141 ?_
    refine V_irem (pc := 142) e_L_print_142 (by omega) (by decide) ?_
    refine V_cV2 (pc := 143) ca_8_29 e_L_print_143 (by decide) (Nat.le_of_ble_eq_true rfl) (by decide) rfl (by decide) (q_tray hC (by omega) (by omega) (fun g => absurd (by omega) g) (fun _ S hC => ?_))
    refine V_i2l (pc := 146) e_L_print_146 ?_
    refine V_ladd (pc := 147) e_L_print_147 ?_
    refine V_lmul (pc := 148) e_L_print_148 ?_
    refine V_aload_n (pc := 149) e_L_print_149 rfl (Or.inl ⟨_, rfl⟩) ?_
    refine V_iload_n (pc := 150) e_L_print_150 rfl ?_
    refine V_iconst (pc := 151) e_L_print_151 ?_
    refine V_idiv (pc := 152) e_L_print_152 (by omega) (by decide) ?_
    refine V_iload_n (pc := 153) e_L_print_153 rfl ?_
    refine V_iconst (pc := 154) e_L_print_154 ?_
    refine V_irem (pc := 155) e_L_print_155 (by omega) (by decide) ?_
    refine V_cV2 (pc := 156) ca_8_32 e_L_print_156 (by decide) (Nat.le_of_ble_eq_true rfl) (by decide) rfl (by decide) (q_lacking hC (by omega) (by omega) (fun g => absurd (by omega) g) (fun _ S hC => ?_))
    refine V_i2l (pc := 159) e_L_print_159 ?_
    refine V_ladd (pc := 160) e_L_print_160 ?_
    refine V_lmul (pc := 161) e_L_print_161 ?_
    refine V_aload_n (pc := 162) e_L_print_162 rfl (Or.inl ⟨_, rfl⟩) ?_
    refine V_iload_n (pc := 163) e_L_print_163 rfl ?_
    refine V_iconst (pc := 164) e_L_print_164 ?_
    refine V_cV2 (pc := 165) ca_8_35 e_L_print_165 (by decide) (Nat.le_of_ble_eq_true rfl) (by decide) rfl (by decide) (q_paperP hC (by omega) (fun S hC => ?_))
    refine V_i2l (pc := 168) e_L_print_168 ?_
    refine V_ladd (pc := 169) e_L_print_169 ?_
    refine V_lstore_n (pc := 170) e_L_print_170 (by decide) ?_
    refine V_iinc (pc := 171) e_L_print_171 rfl (by decide) ?_
    refine V_goto (pc := 174) e_L_print_174 (by decide) ?_
    exact V_lq [(0, .ref 0), (1, .long (ph3 r sv (n + 1))), (3, zI (((n + 1) : Nat) : Int))] ⟨⟨_, rfl, rfl⟩, ⟨_, rfl, rfl⟩, ⟨_, rfl, rfl⟩, trivial⟩ (ih (by omega) S hC)
theorem l_print_73 {B : Int} {scr : Nat × (Nat → Int32)} {r : Int → Int} {sv : Int} {ρ : Int → Int → Int} {rf : Int} {Q : Option Value → Sto → Prop} {j : Int} {h : Int64} {n : Nat} (hj : -4 ≤ j ∧ j ≤ 10000000) (k : ∀ S, CL B scr S r sv ρ rf → V M_L_print 144 111 [(0, .ref 0), (1, .long (ph2i r (j0 j) h 13)), (3, zI ((n : Nat) : Int)), (4, zI j)] [] 144 S Q) : ∀ m : Nat, m ≤ 13 → ∀ S : Sto, CL B scr S r sv ρ rf → V M_L_print 144 73 [(0, .ref 0), (1, .long (ph2i r (j0 j) h m)), (3, zI ((n : Nat) : Int)), (4, zI j), (5, zI ((m : Nat) : Int))] [] 144 S Q := by
  refine loop_nat 13 (fun m hn ih => ?_)
  intro S hC
  refine V_iload (pc := 73) e_L_print_73 rfl ?_
  refine V_bipush (pc := 75) (by decide) e_L_print_75 ?_
  refine V_icmp_ge (pc := 77) e_L_print_77 (by decide) (by omega) (by decide) (fun h77 => ?_) (fun h77 => ?_)
  · obtain rfl : m = 13 := by omega
    exact V_lq [(0, .ref 0), (1, .long (ph2i r (j0 j) h 13)), (3, zI ((n : Nat) : Int)), (4, zI j)] ⟨⟨_, rfl, rfl⟩, ⟨_, rfl, rfl⟩, ⟨_, rfl, rfl⟩, ⟨_, rfl, rfl⟩, trivial⟩ (k S hC)
  · refine V_ldc2 (pc := 80) (v := 31) (by decide) e_L_print_80 ?_
    refine V_lload_n (pc := 83) e_L_print_83 rfl ?_
    refine V_lmul (pc := 84) e_L_print_84 ?_
    refine V_aload_n (pc := 85) e_L_print_85 rfl (Or.inl ⟨_, rfl⟩) ?_
    refine V_iload (pc := 86) e_L_print_86 rfl ?_
    refine V_if_ge (pc := 88) e_L_print_88 (by decide) (by omega) (fun h88 => ?_) (fun h88 => ?_)
    · refine V_iload (pc := 95) e_L_print_95 rfl ?_
      refine V_iload (pc := 97) e_L_print_97 rfl ?_
      refine V_cV2 (pc := 99) ca_8_25 e_L_print_99 (by decide) (Nat.le_of_ble_eq_true rfl) (by decide) rfl (by decide) (q_jobJe (j := j0 j) hC (by unfold j0; split <;> omega) (by omega) (by omega) (fun S hC => ?_))
      refine V_i2l (pc := 102) e_L_print_102 ?_
      refine V_ladd (pc := 103) e_L_print_103 ?_
      refine V_lstore_n (pc := 104) e_L_print_104 (by decide) ?_
      refine V_iinc (pc := 105) e_L_print_105 rfl (by decide) ?_
      refine V_goto (pc := 108) e_L_print_108 (by decide) ?_
      exact V_lq [(0, .ref 0), (1, .long (ph2i r (j0 j) h (m + 1))), (3, zI ((n : Nat) : Int)), (4, zI j), (5, zI (((m + 1) : Nat) : Int))] ⟨⟨_, rfl, rfl⟩, ⟨_, rfl, rfl⟩, ⟨_, rfl, rfl⟩, ⟨_, rfl, rfl⟩, ⟨_, rfl, rfl⟩, trivial⟩ (ih (by omega) S hC)
    · refine V_iconst (pc := 91) e_L_print_91 ?_
      refine V_goto (pc := 92) e_L_print_92 (by decide) ?_
      refine V_iload (pc := 97) e_L_print_97 rfl ?_
      refine V_cV2 (pc := 99) ca_8_25 e_L_print_99 (by decide) (Nat.le_of_ble_eq_true rfl) (by decide) rfl (by decide) (q_jobJe (j := j0 j) hC (by unfold j0; split <;> omega) (by omega) (by omega) (fun S hC => ?_))
      refine V_i2l (pc := 102) e_L_print_102 ?_
      refine V_ladd (pc := 103) e_L_print_103 ?_
      refine V_lstore_n (pc := 104) e_L_print_104 (by decide) ?_
      refine V_iinc (pc := 105) e_L_print_105 rfl (by decide) ?_
      refine V_goto (pc := 108) e_L_print_108 (by decide) ?_
      exact V_lq [(0, .ref 0), (1, .long (ph2i r (j0 j) h (m + 1))), (3, zI ((n : Nat) : Int)), (4, zI j), (5, zI (((m + 1) : Nat) : Int))] ⟨⟨_, rfl, rfl⟩, ⟨_, rfl, rfl⟩, ⟨_, rfl, rfl⟩, ⟨_, rfl, rfl⟩, ⟨_, rfl, rfl⟩, trivial⟩ (ih (by omega) S hC)
theorem l_print_47 {B : Int} {scr : Nat × (Nat → Int32)} {r : Int → Int} {sv : Int} {ρ : Int → Int → Int} {rf : Int} {Q : Option Value → Sto → Prop} (k : ∀ S, CL B scr S r sv ρ rf → Q (some (.long (PH r sv))) S) : ∀ n : Nat, n ≤ 10 → ∀ S : Sto, CL B scr S r sv ρ rf → V M_L_print 144 47 [(0, .ref 0), (1, .long (ph2 r sv n)), (3, zI ((n : Nat) : Int))] [] 144 S Q := by
  refine loop_nat 10 (fun n hn ih => ?_)
  intro S hC
  have hq : -4 ≤ quF r (n : Int) (r 0).toNat 0 ∧ quF r (n : Int) (r 0).toNat 0 ≤ 10000000 := by
    have a := qu_rg hC.gi.1 (n : Int)
    have b := hC.gi.1.1
    unfold NI at b
    omega
  refine V_iload_n (pc := 47) e_L_print_47 rfl ?_
  refine V_bipush (pc := 48) (by decide) e_L_print_48 ?_
  refine V_icmp_ge (pc := 50) e_L_print_50 (by decide) (by omega) (by decide) (fun h50 => ?_) (fun h50 => ?_)
  · obtain rfl : n = 10 := by omega
    refine V_iconst (pc := 117) e_L_print_117 ?_
    refine V_istore_n (pc := 118) e_L_print_118 (by decide) ?_
    exact V_lq [(0, .ref 0), (1, .long (ph3 r sv 0)), (3, zI ((0 : Nat) : Int))] ⟨⟨_, rfl, rfl⟩, ⟨_, rfl, rfl⟩, ⟨_, rfl, rfl⟩, trivial⟩ (l_print_119 k 0 (by decide) S hC)
  · refine V_aload_n (pc := 53) e_L_print_53 rfl (Or.inl ⟨_, rfl⟩) ?_
    refine V_iload_n (pc := 54) e_L_print_54 rfl ?_
    refine V_cV1 (pc := 55) ca_8_22 e_L_print_55 (by decide) (Nat.le_of_ble_eq_true rfl) (by decide) rfl (by decide) (q_queued hC (by omega) (fun g => absurd g (by omega)) (fun _ S hC => ?_))
    refine V_istore (pc := 58) e_L_print_58 (by decide) ?_
    refine V_ldc2 (pc := 60) (v := 31) (by decide) e_L_print_60 ?_
    refine V_lload_n (pc := 63) e_L_print_63 rfl ?_
    refine V_lmul (pc := 64) e_L_print_64 ?_
    refine V_iload (pc := 65) e_L_print_65 rfl ?_
    refine V_i2l (pc := 67) e_L_print_67 ?_
    refine V_ladd (pc := 68) e_L_print_68 ?_
    refine V_lstore_n (pc := 69) e_L_print_69 (by decide) ?_
    refine V_iconst (pc := 70) e_L_print_70 ?_
    refine V_istore (pc := 71) e_L_print_71 (by decide) ?_
    refine V_lq [(0, .ref 0), (1, .long (ph2i r (j0 (quF r (n : Int) (r 0).toNat 0)) (31 * ph2 r sv n + (Int32.ofInt (quF r (n : Int) (r 0).toNat 0)).toInt64) 0)), (3, zI ((n : Nat) : Int)), (4, zI (quF r (n : Int) (r 0).toNat 0)), (5, zI ((0 : Nat) : Int))] ⟨⟨_, rfl, rfl⟩, ⟨_, rfl, rfl⟩, ⟨_, rfl, rfl⟩, ⟨_, rfl, rfl⟩, ⟨_, rfl, rfl⟩, trivial⟩ (l_print_73 hq (fun S hC => ?_) 0 (by decide) S hC)
    refine V_iinc (pc := 111) e_L_print_111 rfl (by decide) ?_
    refine V_goto (pc := 114) e_L_print_114 (by decide) ?_
    exact V_lq [(0, .ref 0), (1, .long (ph2 r sv (n + 1))), (3, zI (((n + 1) : Nat) : Int))] ⟨⟨_, rfl, rfl⟩, ⟨_, rfl, rfl⟩, ⟨_, rfl, rfl⟩, trivial⟩ (ih (by omega) S hC)
theorem l_print_6 {B : Int} {scr : Nat × (Nat → Int32)} {r : Int → Int} {sv : Int} {ρ : Int → Int → Int} {rf : Int} {Q : Option Value → Sto → Prop} (k : ∀ S, CL B scr S r sv ρ rf → Q (some (.long (PH r sv))) S) : ∀ n : Nat, n ≤ 15 → ∀ S : Sto, CL B scr S r sv ρ rf → V M_L_print 144 6 [(0, .ref 0), (1, .long (ph1 r sv n)), (3, zI ((n : Nat) : Int))] [] 144 S Q := by
  refine loop_nat 15 (fun n hn ih => ?_)
  intro S hC
  refine V_iload_n (pc := 6) e_L_print_6 rfl ?_
  refine V_bipush (pc := 7) (by decide) e_L_print_7 ?_
  refine V_icmp_ge (pc := 9) e_L_print_9 (by decide) (by omega) (by decide) (fun h9 => ?_) (fun h9 => ?_)
  · obtain rfl : n = 15 := by omega
    refine V_iconst (pc := 45) e_L_print_45 ?_
    refine V_istore_n (pc := 46) e_L_print_46 (by decide) ?_
    exact V_lq [(0, .ref 0), (1, .long (ph2 r sv 0)), (3, zI ((0 : Nat) : Int))] ⟨⟨_, rfl, rfl⟩, ⟨_, rfl, rfl⟩, ⟨_, rfl, rfl⟩, trivial⟩ (l_print_47 k 0 (by decide) S hC)
  · refine V_ldc2 (pc := 12) (v := 31) (by decide) e_L_print_12 ?_
    refine V_ldc2 (pc := 15) (v := 31) (by decide) e_L_print_15 ?_
    refine V_lload_n (pc := 18) e_L_print_18 rfl ?_
    refine V_lmul (pc := 19) e_L_print_19 ?_
    refine V_aload_n (pc := 20) e_L_print_20 rfl (Or.inl ⟨_, rfl⟩) ?_
    refine V_iload_n (pc := 21) e_L_print_21 rfl ?_
    refine V_cV1 (pc := 22) ca_8_13 e_L_print_22 (by decide) (Nat.le_of_ble_eq_true rfl) (by decide) rfl (by decide) (q_count hC (by omega) rfl (fun S hC => ?_))
    refine V_i2l (pc := 25) e_L_print_25 ?_
    refine V_ladd (pc := 26) e_L_print_26 ?_
    refine V_lmul (pc := 27) e_L_print_27 ?_
    refine V_aload_n (pc := 28) e_L_print_28 rfl (Or.inl ⟨_, rfl⟩) ?_
    refine V_iload_n (pc := 29) e_L_print_29 rfl ?_
    refine V_bipush (pc := 30) (by decide) e_L_print_30 ?_
    refine V_irem (pc := 32) e_L_print_32 (by omega) (by decide) ?_
    refine V_cV1 (pc := 33) ca_8_19 e_L_print_33 (by decide) (Nat.le_of_ble_eq_true rfl) (by decide) rfl (by decide) (q_accountK hC (by omega) rfl (fun S hC => ?_))
    refine V_i2l (pc := 36) e_L_print_36 ?_
    refine V_ladd (pc := 37) e_L_print_37 ?_
    refine V_lstore_n (pc := 38) e_L_print_38 (by decide) ?_
    refine V_iinc (pc := 39) e_L_print_39 rfl (by decide) ?_
    refine V_goto (pc := 42) e_L_print_42 (by decide) ?_
    exact V_lq [(0, .ref 0), (1, .long (ph1 r sv (n + 1))), (3, zI (((n + 1) : Nat) : Int))] ⟨⟨_, rfl, rfl⟩, ⟨_, rfl, rfl⟩, ⟨_, rfl, rfl⟩, trivial⟩ (ih (by omega) S hC)
theorem c_L_print {B : Int} {scr : Nat × (Nat → Int32)} {r : Int → Int} {sv : Int} {ρ : Int → Int → Int} {rf : Int} {Q : Option Value → Sto → Prop} {S : Sto} (hC : CL B scr S r sv ρ rf) (k : ∀ S, CL B scr S r sv ρ rf → Q (some (.long (PH r sv))) S) : Con M_L_print 144 144 S [.ref 0] Q := by
  refine V_entry ok_L_print (Nat.le_refl _) (Nat.le_of_ble_eq_true rfl) (V_ls [(0, .ref 0)] ⟨rfl, trivial⟩ ?_)
  refine V_ldc2 (pc := 0) (v := 113) (by decide) e_L_print_0 ?_
  refine V_lstore_n (pc := 3) e_L_print_3 (by decide) ?_
  refine V_iconst (pc := 4) e_L_print_4 ?_
  refine V_istore_n (pc := 5) e_L_print_5 (by decide) ?_
  exact V_lq [(0, .ref 0), (1, .long (ph1 r sv 0)), (3, zI ((0 : Nat) : Int))] ⟨⟨_, rfl, rfl⟩, ⟨_, rfl, rfl⟩, ⟨_, rfl, rfl⟩, trivial⟩ (l_print_6 k 0 (by decide) S hC)
