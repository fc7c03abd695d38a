/-! the law: runs, and a job's ticks -/
theorem run_f1 {B : Int} {r : Int → Int} (h : GI B r) (hB : B ≤ 900000) : runF 5000 r 1 24 = r 24 + 1 ∧ (r 17 ≤ runF 5000 r 1 17 ∧ runF 5000 r 1 17 ≤ r 17 + 1) ∧ ((0 < (bgF r).1 ∧ runF 5000 r 1 23 = r 23 + 1 ∧ (bgF (runF 5000 r 1)).1 = (bgF r).1) ∨ ((bgF r).1 = 0 ∧ runF 5000 r 1 23 = r 23)) ∧ (0 ≤ (bgF r).1 ∧ (bgF r).1 ≤ 4) := by
  have b := h.2.2.2
  have t := tick_G h (by omega)
  have w := (RI_bg h.1).2.1
  rw [run_one h.1 (by omega)]
  refine ⟨t.2.1, t.2.2.1, ?_, w⟩
  by_cases z : 0 < (bgF r).1
  · refine Or.inl ⟨z, by rw [t.2.2.2, if_pos z], ?_⟩
    obtain ⟨s1, s2⟩ := bgF_stop z
    have e : stpF r 1 = adn (adn (bgF r).2 24 1) 23 1 := by
      show gbF (bgF r).2 (bgF r).1 1 = _
      unfold gbF gbT
      rw [if_pos z, if_pos (Or.inl z)]
    rw [e, bgF_same z s1 s2 (fun k hk => by unfold adn; rw [up1_ne (by omega), up1_ne (by omega)])]
  · exact Or.inr ⟨by omega, by rw [t.2.2.2, if_neg z]; omega⟩
theorem run_mo {B : Int} {r : Int → Int} {m : Int} (h : GI B r) (hm : 0 ≤ m ∧ m ≤ 5000) (hB : B + m ≤ 1000000) : MO r (runF 5000 r m) := by
  have b := h.2.2.2
  rw [run_it 5000 r m h.1 hm.1 (by omega) (by omega) (by omega)]
  exact MO_it _ r h.1 (by omega)
section RUNS
variable {B : Int} {scr : Nat × (Nat → Int32)} {S : Sto} {r : Int → Int} {sv : Int} {ρ : Int → Int → Int} {rf : Int} {Q : Option Value → Sto → Prop}
theorem q_jobGone (h : CL B scr S r sv ρ rf) {j : Int} (hj : 0 ≤ j ∧ j < 2147483648) (hp : plc r j < 0) (k : ∀ S', CL B scr S' r sv ρ rf → Q (some (zI (-4))) S') : Con M_X7_jobInfo 144 144 S [.ref 0, zI j, zI 0] Q :=
  q_jobInfo h (by omega) (by decide) (fun g => absurd (show 0 ≤ j ∧ 0 ≤ (0 : Int) ∧ (0 : Int) ≤ 12 by omega) g) (fun _ _ => k) (fun _ g => absurd g (by omega))
theorem q_jobPages (h : CL B scr S r sv ρ rf) {j : Int} (hj : 0 ≤ j ∧ j < 2147483648) (hp : 0 ≤ plc r j) (k : ∀ (x : Int) (S' : Sto), 1 ≤ x ∧ x ≤ 200 → CL B scr S' r sv ρ rf → Q (some (zI x)) S') : Con M_X7_jobInfo 144 144 S [.ref 0, zI j, zI 0] Q :=
  q_jobInfo h (by omega) (by decide) (fun g => absurd (show 0 ≤ j ∧ 0 ≤ (0 : Int) ∧ (0 : Int) ≤ 12 by omega) g) (fun _ g => absurd g (by omega)) (fun _ _ S' c => k _ S' (h.gi.1.jk ⟨hp, plc_lt hp⟩).1.1 c)
theorem q_ticksK (h : CL B scr S r sv ρ rf) (hB : B ≤ 900000) {j : Int} (hj : 0 ≤ j ∧ j < 2147483648) (hp : 0 ≤ plc r j) (k : ∀ (x : Int) (S' : Sto), (x = -4 ∨ (0 < x ∧ x ≤ 20000)) → (x = -4 → 0 ≤ plc (runF 5000 r 2000) j) → ((1 < x ∧ x ≤ 5000) → 0 ≤ plc (runF 5000 r (x - 1)) j ∧ plc (runF 5000 (runF 5000 r (x - 1)) 1) j < 0 ∧ r 21 < runF 5000 (runF 5000 r (x - 1)) 1 21) → CL B scr S' r sv ρ rf → Q (some (zI x)) S') : Con M_X7_ticksTo 144 144 S [.ref 0, zI j] Q := by
  have b := h.gi.2.2.2
  have n := h.gi.1.1
  unfold NI at n
  refine q_ticksTo h (by omega) (by omega) (fun g => absurd g (by omega)) (fun _ g => absurd g (by omega)) (fun _ _ S' c => ?_)
  have a := ans_sp 20000 r j 0 h.gi.1 hp (by decide) (by decide) (by omega)
  generalize ansF 20000 r j 0 = x at a
  refine k x S' ?_ ?_ ?_ c
  · rcases a with a | a <;> omega
  · intro z
    rcases a with a | a
    · rw [run_it 5000 r 2000 h.gi.1 (by decide) (by decide) (by decide) (by omega)]
      exact a.2 _ (by omega)
    · omega
  · intro z
    rcases a with a | ⟨a1, a2, a3, a4⟩
    · omega
    · have e1 := run_it 5000 r (x - 1) h.gi.1 (by omega) (by omega) (by omega) (by omega)
      have e2 := run_two (a := x - 1) (b := 1) h.gi.1 (by omega) (by decide) (by omega) (by omega)
      have e3 := run_it 5000 r x h.gi.1 (by omega) (by omega) (by omega) (by omega)
      rw [show x - 1 + 1 = x by omega] at e2
      rw [e2, e3, e1]
      rw [show x - 0 = x by omega] at a4
      have mo := MO_it x.toNat r h.gi.1 (by omega)
      refine ⟨a3 _ (by omega), a4, ?_⟩
      have m1 := mo.1
      by_cases y : itF x.toNat r 21 = r 21
      · have := mo.2.1 y j hp
        omega
      · omega
end RUNS
theorem t_isRun_208 {B : Int} {scr : Nat × (Nat → Int32)} {r : Int → Int} {sv : Int} {ρ : Int → Int → Int} {rf : Int} {Q : Option Value → Sto → Prop} (hB : B ≤ 800000) {m : Int} (hm : 1 ≤ m ∧ m ≤ 60) {h0 : Int64} (hh : ∀ sv, PH r sv = h0) {r2 : Int → Int} {S : Sto} {B2 : Int} (hb : B2 ≤ B + 200) (hC : CL B2 scr S r2 (recS sv) (kpR ρ sv r) rf) (hv : 0 ≤ sv ∧ sv ≤ 4) (k : ∀ S sv ρ, CL (B + 200) scr S r sv ρ rf → Q (some (zI 1)) S) : V M_L_isRun 144 208 [(0, .ref 0), (2, .long h0), (9, zI 1)] [] 144 S Q := by
  have g1 := recS_rg hv
  refine V_iload (pc := 208) e_L_isRun_208 rfl ?_
  refine V_if_eq (pc := 210) e_L_isRun_210 (by decide) (by decide) (fun h => absurd h (by decide)) (fun _ => ?_)
  refine V_aload_n (pc := 213) e_L_isRun_213 rfl (Or.inl ⟨_, rfl⟩) ?_
  refine V_cV0 (pc := 214) ca_8_89 e_L_isRun_214 (by decide) (Nat.le_of_ble_eq_true rfl) (by decide) rfl (by decide) (q_undoX hC (by omega) kpR_top (fun S hC => ?_))
  refine V_if_lt (pc := 217) e_L_isRun_217 (by decide) (by omega) (fun h217 => ?_) (fun h217 => ?_)
  · exfalso
    omega
  · refine V_aload_n (pc := 220) e_L_isRun_220 rfl (Or.inl ⟨_, rfl⟩) ?_
    refine V_cS1 (pc := 221) ca_8_42 e_L_isRun_221 (by decide) (Nat.le_of_ble_eq_true rfl) (c_L_printE hC (hh _) (fun S hC => ?_))
    refine V_lload_n (pc := 224) e_L_isRun_224 rfl ?_
    refine V_lsame (pc := 225) e_L_isRun_225 ?_
    refine V_if_ne (pc := 226) e_L_isRun_226 (by decide) (by decide) (fun h => absurd (by decide) h) (fun _ => ?_)
    refine V_iconst (pc := 229) e_L_isRun_229 ?_
    refine V_goto (pc := 230) e_L_isRun_230 (by decide) ?_
    refine V_ret (pc := 234) (v := some (zI _)) ⟨e_L_isRun_234, _, rfl, by decide⟩ ?_
    exact k S _ _ (hC.up (by omega))
theorem t_isRun_165 {B : Int} {scr : Nat × (Nat → Int32)} {r : Int → Int} {sv : Int} {ρ : Int → Int → Int} {rf : Int} {Q : Option Value → Sto → Prop} (hB : B ≤ 800000) {m : Int} (hm : 1 ≤ m ∧ m ≤ 60) {h0 : Int64} (hh : ∀ sv, PH r sv = h0) {r1 r2 : Int → Int} {h2 : Int64} (hh2 : ∀ sv, PH r2 sv = h2) (e2 : runF 5000 r (m + 1) = r2) {S : Sto} (hC : CL (B + 1 + m) scr S r sv ρ rf) (f1 : (0 ≤ r1 17 ∧ r1 17 ≤ 1000000)) (k : ∀ S sv ρ, CL (B + 200) scr S r sv ρ rf → Q (some (zI 1)) S) : V M_L_isRun 144 165 [(0, .ref 0), (1, zI m), (2, .long h0), (8, zI (r1 17 - r 17 + (r2 17 - r1 17))), (10, .long h2)] [] 144 S Q := by
  have hv := hC.sv
  have g1 := recS_rg hv
  have bb := hC.gi.2.2.2
  have gg := run_G hC.gi (m := m + 1) (by omega) (by omega)
  rw [e2] at gg
  have fa0 := (hC.gi.fa (by omega)).1
  refine V_aload_n (pc := 165) e_L_isRun_165 rfl (Or.inl ⟨_, rfl⟩) ?_
  refine V_iload_n (pc := 166) e_L_isRun_166 rfl ?_
  refine V_iconst (pc := 167) e_L_isRun_167 ?_
  refine V_iadd (pc := 168) e_L_isRun_168 ?_
  refine V_cV1 (pc := 169) ca_8_77 e_L_isRun_169 (by decide) (Nat.le_of_ble_eq_true rfl) (by decide) rfl (by decide) (q_runK hC (by omega) (by omega) e2 (fun S hC => ?_))
  refine V_iload (pc := 172) e_L_isRun_172 rfl ?_
  refine V_icmp_ne (pc := 174) e_L_isRun_174 (by decide) (by omega) (by omega) (fun h174 => ?_) (fun h174 => ?_)
  · exfalso
    omega
  · refine V_aload_n (pc := 177) e_L_isRun_177 rfl (Or.inl ⟨_, rfl⟩) ?_
    refine V_cS1 (pc := 178) ca_8_42 e_L_isRun_178 (by decide) (Nat.le_of_ble_eq_true rfl) (c_L_printE hC (hh2 _) (fun S hC => ?_))
    refine V_lload (pc := 181) e_L_isRun_181 rfl ?_
    refine V_lsame (pc := 183) e_L_isRun_183 ?_
    refine V_if_ne (pc := 184) e_L_isRun_184 (by decide) (by decide) (fun h => absurd (by decide) h) (fun _ => ?_)
    refine V_aload_n (pc := 187) e_L_isRun_187 rfl (Or.inl ⟨_, rfl⟩) ?_
    refine V_cS1 (pc := 188) ca_8_92 e_L_isRun_188 (by decide) (Nat.le_of_ble_eq_true rfl) (c_L_areSheets hC (by omega) (fun S hC => ?_))
    refine V_if_eq (pc := 191) e_L_isRun_191 (by decide) (by decide) (fun h => absurd h (by decide)) (fun _ => ?_)
    refine V_aload_n (pc := 194) e_L_isRun_194 rfl (Or.inl ⟨_, rfl⟩) ?_
    refine V_cS1 (pc := 195) ca_8_96 e_L_isRun_195 (by decide) (Nat.le_of_ble_eq_true rfl) (c_L_areJobs hC (by omega) (fun S hC => ?_))
    refine V_if_eq (pc := 198) e_L_isRun_198 (by decide) (by decide) (fun h => absurd h (by decide)) (fun _ => ?_)
    refine V_iconst (pc := 201) e_L_isRun_201 ?_
    refine V_goto (pc := 202) e_L_isRun_202 (by decide) ?_
    refine V_istore (pc := 206) e_L_isRun_206 (by decide) ?_
    exact V_lq [(0, .ref 0), (2, .long h0), (9, zI 1)] ⟨⟨_, rfl, rfl⟩, ⟨_, rfl, rfl⟩, ⟨_, rfl, rfl⟩, trivial⟩ (t_isRun_208 hB hm hh (by omega) hC hv k)
theorem t_isRun_108 {B : Int} {scr : Nat × (Nat → Int32)} {r : Int → Int} {sv : Int} {ρ : Int → Int → Int} {rf : Int} {Q : Option Value → Sto → Prop} (hB : B ≤ 800000) {m : Int} (hm : 1 ≤ m ∧ m ≤ 60) {h0 : Int64} (hh : ∀ sv, PH r sv = h0) {r1 : Int → Int} (e1 : runF 5000 r 1 = r1) (hv : 0 ≤ sv ∧ sv ≤ 4) (hg : GI B r) {S : Sto} (hC : CL (B + 1) scr S r1 (recS sv) (kpR ρ sv r) rf) (k : ∀ S sv ρ, CL (B + 200) scr S r sv ρ rf → Q (some (zI 1)) S) : V M_L_isRun 144 108 [(0, .ref 0), (1, zI m), (2, .long h0), (7, zI (r 17)), (8, zI (r1 17 - r 17)), (9, zI 1)] [] 144 S Q := by
  have g1 := recS_rg hv
  have g2 := recS_rg (sv := recS sv) (by omega)
  obtain ⟨r2, e2⟩ : ∃ r2, runF 5000 r1 m = r2 := ⟨_, rfl⟩
  have gg := run_G hC.gi (m := m) (by omega) (by omega)
  have ga := run_G hg (m := 1) (by omega) (by omega)
  rw [e2] at gg
  rw [e1] at ga
  have fa0 := (hg.fa (by omega)).1
  have fa1 := (hC.gi.fa (by omega)).1
  have e3 : runF 5000 r (m + 1) = r2 := by
    rw [← e2, ← e1, run_two hg.1 (by decide) (by omega) (by omega) (by omega), show 1 + m = m + 1 by omega]
  refine V_iload (pc := 108) e_L_isRun_108 rfl ?_
  refine V_aload_n (pc := 110) e_L_isRun_110 rfl (Or.inl ⟨_, rfl⟩) ?_
  refine V_iload_n (pc := 111) e_L_isRun_111 rfl ?_
  refine V_cV1 (pc := 112) ca_8_77 e_L_isRun_112 (by decide) (Nat.le_of_ble_eq_true rfl) (by decide) rfl (by decide) (q_runK hC (by omega) (by omega) e2 (fun S hC => ?_))
  refine V_iadd (pc := 115) e_L_isRun_115 ?_
  refine V_istore (pc := 116) e_L_isRun_116 (by decide) ?_
  refine V_aload_n (pc := 118) e_L_isRun_118 rfl (Or.inl ⟨_, rfl⟩) ?_
  refine V_cS1 (pc := 119) ca_8_42 e_L_isRun_119 (by decide) (Nat.le_of_ble_eq_true rfl) (c_L_print hC (fun S hC => ?_))
  refine V_lstore (pc := 122) e_L_isRun_122 (by decide) ?_
  refine V_iload (pc := 124) e_L_isRun_124 rfl ?_
  refine V_if_eq (pc := 126) e_L_isRun_126 (by decide) (by decide) (fun h => absurd h (by decide)) (fun _ => ?_)
  refine V_aload_n (pc := 129) e_L_isRun_129 rfl (Or.inl ⟨_, rfl⟩) ?_
  refine V_iconst (pc := 130) e_L_isRun_130 ?_
  refine V_cV1 (pc := 131) ca_8_19 e_L_isRun_131 (by decide) (Nat.le_of_ble_eq_true rfl) (by decide) rfl (by decide) (q_accountK (x := r2 17) hC (by decide) rfl (fun S hC => ?_))
  refine V_iload (pc := 134) e_L_isRun_134 rfl ?_
  refine V_iload (pc := 136) e_L_isRun_136 rfl ?_
  refine V_iadd (pc := 138) e_L_isRun_138 ?_
  refine V_icmp_ne (pc := 139) e_L_isRun_139 (by decide) (by omega) (by omega) (fun h139 => ?_) (fun h139 => ?_)
  · exfalso
    omega
  · refine V_aload_n (pc := 142) e_L_isRun_142 rfl (Or.inl ⟨_, rfl⟩) ?_
    refine V_cV0 (pc := 143) ca_8_89 e_L_isRun_143 (by decide) (Nat.le_of_ble_eq_true rfl) (by decide) rfl (by decide) (q_undoX hC (by omega) kpR_top (fun S hC => ?_))
    refine V_if_lt (pc := 146) e_L_isRun_146 (by decide) (by omega) (fun h146 => ?_) (fun h146 => ?_)
    · exfalso
      omega
    · refine V_aload_n (pc := 149) e_L_isRun_149 rfl (Or.inl ⟨_, rfl⟩) ?_
      refine V_cV0 (pc := 150) ca_8_89 e_L_isRun_150 (by decide) (Nat.le_of_ble_eq_true rfl) (by decide) rfl (by decide) (q_undoX hC (by omega) (kpR_two hv) (fun S hC => ?_))
      refine V_if_lt (pc := 153) e_L_isRun_153 (by decide) (by omega) (fun h153 => ?_) (fun h153 => ?_)
      · exfalso
        omega
      · refine V_aload_n (pc := 156) e_L_isRun_156 rfl (Or.inl ⟨_, rfl⟩) ?_
        refine V_cS1 (pc := 157) ca_8_42 e_L_isRun_157 (by decide) (Nat.le_of_ble_eq_true rfl) (c_L_printE hC (hh _) (fun S hC => ?_))
        refine V_lload_n (pc := 160) e_L_isRun_160 rfl ?_
        refine V_lsame (pc := 161) e_L_isRun_161 ?_
        refine V_if_ne (pc := 162) e_L_isRun_162 (by decide) (by decide) (fun h => absurd (by decide) h) (fun _ => ?_)
        exact V_lq [(0, .ref 0), (1, zI m), (2, .long h0), (8, zI (r1 17 - r 17 + (r2 17 - r1 17))), (10, .long _)] ⟨⟨_, rfl, rfl⟩, ⟨_, rfl, rfl⟩, ⟨_, rfl, rfl⟩, ⟨_, rfl, rfl⟩, ⟨_, rfl, rfl⟩, trivial⟩ (t_isRun_165 hB hm hh (fun _ => PH_sv _ _ _) e3 hC (by omega) k)
theorem run_f2 {B : Int} {r r1 : Int → Int} (h : GI B r) (hB : B ≤ 900000) (e : runF 5000 r 1 = r1) : ((0 ≤ r 17 ∧ r 17 ≤ 1000000) ∧ (r 17 ≤ r1 17 ∧ r1 17 ≤ r 17 + 1) ∧ (0 ≤ r 24 ∧ r 24 ≤ 1000000) ∧ r1 24 = r 24 + 1 ∧ (0 ≤ r 23 ∧ r 23 ≤ 1000000) ∧ (r 23 ≤ r1 23 ∧ r1 23 ≤ r 23 + 1) ∧ (0 ≤ (bgF r).1 ∧ (bgF r).1 ≤ 4) ∧ (0 ≤ (bgF r1).1 ∧ (bgF r1).1 ≤ 4)) ∧ (Unit → 0 < (bgF r).1 → r1 23 = r 23 + 1 ∧ (bgF r1).1 = (bgF r).1) ∧ (Unit → ¬ 0 < (bgF r).1 → r1 23 = r 23) := by
  have f := run_f1 h hB
  have g := (run_G h (m := 1) (by decide) (by omega)).1
  rw [e] at f g
  have a := (h.fa (by omega)).1
  have w := (RI_bg g.1).2.1
  obtain ⟨f1, f2, f3, f4⟩ := f
  have f5 : r 23 ≤ r1 23 ∧ r1 23 ≤ r 23 + 1 := by rcases f3 with z | z <;> omega
  refine ⟨⟨by omega, by omega, by omega, by omega, by omega, f5, f4, w⟩, fun _ z => ?_, fun _ z => ?_⟩
  · rcases f3 with y | y
    · exact y.2
    · omega
  · rcases f3 with y | y
    · omega
    · exact y.2
theorem t_isRun_34 {B : Int} {scr : Nat × (Nat → Int32)} {r : Int → Int} {sv : Int} {ρ : Int → Int → Int} {rf : Int} {Q : Option Value → Sto → Prop} (hB : B ≤ 800000) {m : Int} (hm : 1 ≤ m ∧ m ≤ 60) {h0 : Int64} (hh : ∀ sv, PH r sv = h0) {S : Sto} (hC : CL B scr S r sv ρ rf) (k : ∀ S sv ρ, CL (B + 200) scr S r sv ρ rf → Q (some (zI 1)) S) : V M_L_isRun 144 34 [(0, .ref 0), (1, zI m), (2, .long h0), (4, zI (bgF r).1), (5, zI (r 23)), (6, zI (r 24)), (7, zI (r 17))] [] 144 S Q := by
  have hv := hC.sv
  have hg := hC.gi
  obtain ⟨r1, e1⟩ : ∃ r1, runF 5000 r 1 = r1 := ⟨_, rfl⟩
  obtain ⟨ff, f3, f4⟩ := run_f2 hg (by omega) e1
  refine V_aload_n (pc := 34) e_L_isRun_34 rfl (Or.inl ⟨_, rfl⟩) ?_
  refine V_iconst (pc := 35) e_L_isRun_35 ?_
  refine V_cV1 (pc := 36) ca_8_77 e_L_isRun_36 (by decide) (Nat.le_of_ble_eq_true rfl) (by decide) rfl (by decide) (q_runK hC (by omega) (by decide) e1 (fun S hC => ?_))
  refine V_istore (pc := 39) e_L_isRun_39 (by decide) ?_
  refine V_iload (pc := 41) e_L_isRun_41 rfl ?_
  refine V_if_lt (pc := 43) e_L_isRun_43 (by decide) (by omega) (fun h43 => ?_) (fun h43 => ?_)
  · exfalso
    omega
  · refine V_iload (pc := 46) e_L_isRun_46 rfl ?_
    refine V_iconst (pc := 48) e_L_isRun_48 ?_
    refine V_icmp_ge (pc := 49) e_L_isRun_49 (by decide) (by omega) (by decide) (fun h49 => ?_) (fun h49 => ?_)
    · exfalso
      omega
    · refine V_aload_n (pc := 52) e_L_isRun_52 rfl (Or.inl ⟨_, rfl⟩) ?_
      refine V_bipush (pc := 53) (by decide) e_L_isRun_53 ?_
      refine V_cV1 (pc := 55) ca_8_19 e_L_isRun_55 (by decide) (Nat.le_of_ble_eq_true rfl) (by decide) rfl (by decide) (q_accountK (x := r1 23) hC (by decide) rfl (fun S hC => ?_))
      refine V_iload (pc := 58) e_L_isRun_58 rfl ?_
      refine V_iload (pc := 60) e_L_isRun_60 rfl ?_
      refine V_if_le (pc := 62) e_L_isRun_62 (by decide) (by omega) (fun h62 => ?_) (fun h62 => ?_)
      · refine V_iconst (pc := 69) e_L_isRun_69 ?_
        refine V_iadd (pc := 70) e_L_isRun_70 ?_
        refine V_icmp_ne (pc := 71) e_L_isRun_71 (by decide) (by omega) (by omega) (fun h71 => ?_) (fun h71 => ?_)
        · exfalso
          have q := f4 () (by omega)
          omega
        · refine V_aload_n (pc := 74) e_L_isRun_74 rfl (Or.inl ⟨_, rfl⟩) ?_
          refine V_bipush (pc := 75) (by decide) e_L_isRun_75 ?_
          refine V_cV1 (pc := 77) ca_8_19 e_L_isRun_77 (by decide) (Nat.le_of_ble_eq_true rfl) (by decide) rfl (by decide) (q_accountK (x := r1 24) hC (by decide) rfl (fun S hC => ?_))
          refine V_iload (pc := 80) e_L_isRun_80 rfl ?_
          refine V_iconst (pc := 82) e_L_isRun_82 ?_
          refine V_iadd (pc := 83) e_L_isRun_83 ?_
          refine V_icmp_ne (pc := 84) e_L_isRun_84 (by decide) (by omega) (by omega) (fun h84 => ?_) (fun h84 => ?_)
          · exfalso
            omega
          · refine V_iload (pc := 87) e_L_isRun_87 rfl ?_
            refine V_if_eq (pc := 89) e_L_isRun_89 (by decide) (by omega) (fun h89 => ?_) (fun h89 => ?_)
            · refine V_iconst (pc := 101) e_L_isRun_101 ?_
              refine V_goto (pc := 102) e_L_isRun_102 (by decide) ?_
              refine V_istore (pc := 106) e_L_isRun_106 (by decide) ?_
              exact V_lq [(0, .ref 0), (1, zI m), (2, .long h0), (7, zI (r 17)), (8, zI (r1 17 - r 17)), (9, zI 1)] ⟨⟨_, rfl, rfl⟩, ⟨_, rfl, rfl⟩, ⟨_, rfl, rfl⟩, ⟨_, rfl, rfl⟩, ⟨_, rfl, rfl⟩, ⟨_, rfl, rfl⟩, trivial⟩ (t_isRun_108 hB hm hh e1 hv hg hC k)
            · refine V_aload_n (pc := 92) e_L_isRun_92 rfl (Or.inl ⟨_, rfl⟩) ?_
              refine V_cV0 (pc := 93) ca_8_38 e_L_isRun_93 (by decide) (Nat.le_of_ble_eq_true rfl) (by decide) rfl (by decide) (q_stop hC (fun S hC => ?_))
              refine V_iload (pc := 96) e_L_isRun_96 rfl ?_
              refine V_icmp_ne (pc := 98) e_L_isRun_98 (by decide) (by omega) (by omega) (fun h98 => ?_) (fun h98 => ?_)
              · exfalso
                have q := f3 () (by omega)
                omega
              · refine V_iconst (pc := 101) e_L_isRun_101 ?_
                refine V_goto (pc := 102) e_L_isRun_102 (by decide) ?_
                refine V_istore (pc := 106) e_L_isRun_106 (by decide) ?_
                exact V_lq [(0, .ref 0), (1, zI m), (2, .long h0), (7, zI (r 17)), (8, zI (r1 17 - r 17)), (9, zI 1)] ⟨⟨_, rfl, rfl⟩, ⟨_, rfl, rfl⟩, ⟨_, rfl, rfl⟩, ⟨_, rfl, rfl⟩, ⟨_, rfl, rfl⟩, ⟨_, rfl, rfl⟩, trivial⟩ (t_isRun_108 hB hm hh e1 hv hg hC k)
      · refine V_iconst (pc := 65) e_L_isRun_65 ?_
        refine V_goto (pc := 66) e_L_isRun_66 (by decide) ?_
        refine V_iadd (pc := 70) e_L_isRun_70 ?_
        refine V_icmp_ne (pc := 71) e_L_isRun_71 (by decide) (by omega) (by omega) (fun h71 => ?_) (fun h71 => ?_)
        · exfalso
          have q := f3 () (by omega)
          omega
        · refine V_aload_n (pc := 74) e_L_isRun_74 rfl (Or.inl ⟨_, rfl⟩) ?_
          refine V_bipush (pc := 75) (by decide) e_L_isRun_75 ?_
          refine V_cV1 (pc := 77) ca_8_19 e_L_isRun_77 (by decide) (Nat.le_of_ble_eq_true rfl) (by decide) rfl (by decide) (q_accountK (x := r1 24) hC (by decide) rfl (fun S hC => ?_))
          refine V_iload (pc := 80) e_L_isRun_80 rfl ?_
          refine V_iconst (pc := 82) e_L_isRun_82 ?_
          refine V_iadd (pc := 83) e_L_isRun_83 ?_
          refine V_icmp_ne (pc := 84) e_L_isRun_84 (by decide) (by omega) (by omega) (fun h84 => ?_) (fun h84 => ?_)
          · exfalso
            omega
          · refine V_iload (pc := 87) e_L_isRun_87 rfl ?_
            refine V_if_eq (pc := 89) e_L_isRun_89 (by decide) (by omega) (fun h89 => ?_) (fun h89 => ?_)
            · refine V_iconst (pc := 101) e_L_isRun_101 ?_
              refine V_goto (pc := 102) e_L_isRun_102 (by decide) ?_
              refine V_istore (pc := 106) e_L_isRun_106 (by decide) ?_
              exact V_lq [(0, .ref 0), (1, zI m), (2, .long h0), (7, zI (r 17)), (8, zI (r1 17 - r 17)), (9, zI 1)] ⟨⟨_, rfl, rfl⟩, ⟨_, rfl, rfl⟩, ⟨_, rfl, rfl⟩, ⟨_, rfl, rfl⟩, ⟨_, rfl, rfl⟩, ⟨_, rfl, rfl⟩, trivial⟩ (t_isRun_108 hB hm hh e1 hv hg hC k)
            · refine V_aload_n (pc := 92) e_L_isRun_92 rfl (Or.inl ⟨_, rfl⟩) ?_
              refine V_cV0 (pc := 93) ca_8_38 e_L_isRun_93 (by decide) (Nat.le_of_ble_eq_true rfl) (by decide) rfl (by decide) (q_stop hC (fun S hC => ?_))
              refine V_iload (pc := 96) e_L_isRun_96 rfl ?_
              refine V_icmp_ne (pc := 98) e_L_isRun_98 (by decide) (by omega) (by omega) (fun h98 => ?_) (fun h98 => ?_)
              · exfalso
                have q := f3 () (by omega)
                omega
              · refine V_iconst (pc := 101) e_L_isRun_101 ?_
                refine V_goto (pc := 102) e_L_isRun_102 (by decide) ?_
                refine V_istore (pc := 106) e_L_isRun_106 (by decide) ?_
                exact V_lq [(0, .ref 0), (1, zI m), (2, .long h0), (7, zI (r 17)), (8, zI (r1 17 - r 17)), (9, zI 1)] ⟨⟨_, rfl, rfl⟩, ⟨_, rfl, rfl⟩, ⟨_, rfl, rfl⟩, ⟨_, rfl, rfl⟩, ⟨_, rfl, rfl⟩, ⟨_, rfl, rfl⟩, trivial⟩ (t_isRun_108 hB hm hh e1 hv hg hC k)
theorem c_L_isRun {B : Int} {scr : Nat × (Nat → Int32)} {r : Int → Int} {sv : Int} {ρ : Int → Int → Int} {rf : Int} {Q : Option Value → Sto → Prop} (hB : B ≤ 800000) {m : Int} (hm : 1 ≤ m ∧ m ≤ 60) {S : Sto} (hC : CL B scr S r sv ρ rf) (k : ∀ S sv ρ, CL (B + 200) scr S r sv ρ rf → Q (some (zI 1)) S) : Con M_L_isRun 144 144 S [.ref 0, zI m] Q := by
  refine V_entry ok_L_isRun (Nat.le_refl _) (Nat.le_of_ble_eq_true rfl) (V_ls [(0, .ref 0), (1, zI m)] ⟨rfl, rfl, trivial⟩ ?_)
  refine V_aload_n (pc := 0) e_L_isRun_0 rfl (Or.inl ⟨_, rfl⟩) ?_
  refine V_cS1 (pc := 1) ca_8_42 e_L_isRun_1 (by decide) (Nat.le_of_ble_eq_true rfl) (c_L_print hC (fun S hC => ?_))
  refine V_lstore_n (pc := 4) e_L_isRun_4 (by decide) ?_
  refine V_aload_n (pc := 5) e_L_isRun_5 rfl (Or.inl ⟨_, rfl⟩) ?_
  refine V_cV0 (pc := 6) ca_8_38 e_L_isRun_6 (by decide) (Nat.le_of_ble_eq_true rfl) (by decide) rfl (by decide) (q_stop hC (fun S hC => ?_))
  refine V_istore (pc := 9) e_L_isRun_9 (by decide) ?_
  refine V_aload_n (pc := 11) e_L_isRun_11 rfl (Or.inl ⟨_, rfl⟩) ?_
  refine V_bipush (pc := 12) (by decide) e_L_isRun_12 ?_
  refine V_cV1 (pc := 14) ca_8_19 e_L_isRun_14 (by decide) (Nat.le_of_ble_eq_true rfl) (by decide) rfl (by decide) (q_accountK (x := r 23) hC (by decide) rfl (fun S hC => ?_))
  refine V_istore (pc := 17) e_L_isRun_17 (by decide) ?_
  refine V_aload_n (pc := 19) e_L_isRun_19 rfl (Or.inl ⟨_, rfl⟩) ?_
  refine V_bipush (pc := 20) (by decide) e_L_isRun_20 ?_
  refine V_cV1 (pc := 22) ca_8_19 e_L_isRun_22 (by decide) (Nat.le_of_ble_eq_true rfl) (by decide) rfl (by decide) (q_accountK (x := r 24) hC (by decide) rfl (fun S hC => ?_))
  refine V_istore (pc := 25) e_L_isRun_25 (by decide) ?_
  refine V_aload_n (pc := 27) e_L_isRun_27 rfl (Or.inl ⟨_, rfl⟩) ?_
  refine V_iconst (pc := 28) e_L_isRun_28 ?_
  refine V_cV1 (pc := 29) ca_8_19 e_L_isRun_29 (by decide) (Nat.le_of_ble_eq_true rfl) (by decide) rfl (by decide) (q_accountK (x := r 17) hC (by decide) rfl (fun S hC => ?_))
  refine V_istore (pc := 32) e_L_isRun_32 (by decide) ?_
  exact V_lq [(0, .ref 0), (1, zI m), (2, .long (PH r sv)), (4, zI (bgF r).1), (5, zI (r 23)), (6, zI (r 24)), (7, zI (r 17))] ⟨⟨_, rfl, rfl⟩, ⟨_, rfl, rfl⟩, ⟨_, rfl, rfl⟩, ⟨_, rfl, rfl⟩, ⟨_, rfl, rfl⟩, ⟨_, rfl, rfl⟩, ⟨_, rfl, rfl⟩, trivial⟩ (t_isRun_34 hB hm (fun _ => PH_sv _ _ _) hC k)
theorem t_isFinished_192 {B : Int} {scr : Nat × (Nat → Int32)} {r : Int → Int} {sv : Int} {ρ : Int → Int → Int} {rf : Int} {Q : Option Value → Sto → Prop} (hB : B ≤ 800000) {j : Int} (hj : 0 ≤ j ∧ j < 2147483648) {h0 : Int64} (hh : ∀ sv, PH r sv = h0) {B2 : Int} (hb : B2 ≤ B + 5000) {S : Sto} (hC : CL B2 scr S r sv ρ rf) (k : ∀ S sv ρ, CL (B + 5000) scr S r sv ρ rf → Q (some (zI 1)) S) : V M_L_isFinished 144 192 [(0, .ref 0), (2, .long h0), (5, zI 1)] [] 144 S Q := by
  refine V_iload (pc := 192) e_L_isFinished_192 rfl ?_
  refine V_if_eq (pc := 194) e_L_isFinished_194 (by decide) (by decide) (fun h => absurd h (by decide)) (fun _ => ?_)
  refine V_aload_n (pc := 197) e_L_isFinished_197 rfl (Or.inl ⟨_, rfl⟩) ?_
  refine V_cS1 (pc := 198) ca_8_42 e_L_isFinished_198 (by decide) (Nat.le_of_ble_eq_true rfl) (c_L_printE hC (hh _) (fun S hC => ?_))
  refine V_lload_n (pc := 201) e_L_isFinished_201 rfl ?_
  refine V_lsame (pc := 202) e_L_isFinished_202 ?_
  refine V_if_ne (pc := 203) e_L_isFinished_203 (by decide) (by decide) (fun h => absurd (by decide) h) (fun _ => ?_)
  refine V_iconst (pc := 206) e_L_isFinished_206 ?_
  refine V_goto (pc := 207) e_L_isFinished_207 (by decide) ?_
  refine V_ret (pc := 211) (v := some (zI _)) ⟨e_L_isFinished_211, _, rfl, by decide⟩ ?_
  exact k S _ _ (hC.up hb)
theorem t_isFinished_48 {B : Int} {scr : Nat × (Nat → Int32)} {r : Int → Int} {sv : Int} {ρ : Int → Int → Int} {rf : Int} {Q : Option Value → Sto → Prop} (hB : B ≤ 800000) {j : Int} (hj : 0 ≤ j ∧ j < 2147483648) {h0 : Int64} (hh : ∀ sv, PH r sv = h0) (hp : 0 ≤ plc r j) {x : Int} (hx : x = -4 ∨ (0 < x ∧ x ≤ 20000)) (hx1 : x = -4 → 0 ≤ plc (runF 5000 r 2000) j) (hx2 : (1 < x ∧ x ≤ 5000) → 0 ≤ plc (runF 5000 r (x - 1)) j ∧ plc (runF 5000 (runF 5000 r (x - 1)) 1) j < 0 ∧ r 21 < (runF 5000 (runF 5000 r (x - 1)) 1) 21) {S : Sto} (hC : CL B scr S r sv ρ rf) (k : ∀ S sv ρ, CL (B + 5000) scr S r sv ρ rf → Q (some (zI 1)) S) : V M_L_isFinished 144 48 [(0, .ref 0), (1, zI j), (2, .long h0), (4, zI x), (5, zI 1)] [] 144 S Q := by
  have hv := hC.sv
  have g1 := recS_rg hv
  have g2 := recS_rg (sv := recS sv) (by omega)
  have hg := hC.gi
  have fa0 := (hg.fa (by omega)).1
  refine V_iload (pc := 48) e_L_isFinished_48 rfl ?_
  refine V_if_eq (pc := 50) e_L_isFinished_50 (by decide) (by decide) (fun h => absurd h (by decide)) (fun _ => ?_)
  refine V_iload (pc := 53) e_L_isFinished_53 rfl ?_
  refine V_iconst (pc := 55) e_L_isFinished_55 ?_
  refine V_icmp_le (pc := 56) e_L_isFinished_56 (by decide) (by omega) (by decide) (fun h56 => ?_) (fun h56 => ?_)
  · refine V_iload (pc := 147) e_L_isFinished_147 rfl ?_
    refine V_if_eq (pc := 149) e_L_isFinished_149 (by decide) (by decide) (fun h => absurd h (by decide)) (fun _ => ?_)
    refine V_iload (pc := 152) e_L_isFinished_152 rfl ?_
    refine V_bipush (pc := 154) (by decide) e_L_isFinished_154 ?_
    refine V_icmp_ne (pc := 156) e_L_isFinished_156 (by decide) (by omega) (by decide) (fun h156 => ?_) (fun h156 => ?_)
    · exact V_lq [(0, .ref 0), (2, .long h0), (5, zI 1)] ⟨⟨_, rfl, rfl⟩, ⟨_, rfl, rfl⟩, ⟨_, rfl, rfl⟩, trivial⟩ (t_isFinished_192 hB hj hh (by omega) hC k)
    · have gc := run_G hg (m := 2000) (by decide) (by omega)
      refine V_aload_n (pc := 159) e_L_isFinished_159 rfl (Or.inl ⟨_, rfl⟩) ?_
      refine V_sipush (pc := 160) (by decide) e_L_isFinished_160 ?_
      refine V_cV1 (pc := 163) ca_8_77 e_L_isFinished_163 (by decide) (Nat.le_of_ble_eq_true rfl) (by decide) rfl (by decide) (q_runK hC (by omega) (by decide) rfl (fun S hC => ?_))
      refine V_if_lt (pc := 166) e_L_isFinished_166 (by decide) (by omega) (fun h166 => ?_) (fun h166 => ?_)
      · exfalso
        omega
      · refine V_aload_n (pc := 169) e_L_isFinished_169 rfl (Or.inl ⟨_, rfl⟩) ?_
        refine V_iload_n (pc := 170) e_L_isFinished_170 rfl ?_
        refine V_iconst (pc := 171) e_L_isFinished_171 ?_
        refine V_cV2 (pc := 172) ca_8_25 e_L_isFinished_172 (by decide) (Nat.le_of_ble_eq_true rfl) (by decide) rfl (by decide) (q_jobPages hC hj (hx1 h156) (fun pg S hpg hC => ?_))
        refine V_if_le (pc := 175) e_L_isFinished_175 (by decide) (by omega) (fun h175 => ?_) (fun h175 => ?_)
        · exfalso
          omega
        · refine V_aload_n (pc := 178) e_L_isFinished_178 rfl (Or.inl ⟨_, rfl⟩) ?_
          refine V_cV0 (pc := 179) ca_8_89 e_L_isFinished_179 (by decide) (Nat.le_of_ble_eq_true rfl) (by decide) rfl (by decide) (q_undoX hC (by omega) kpR_top (fun S hC => ?_))
          refine V_if_lt (pc := 182) e_L_isFinished_182 (by decide) (by omega) (fun h182 => ?_) (fun h182 => ?_)
          · exfalso
            omega
          · refine V_iconst (pc := 185) e_L_isFinished_185 ?_
            refine V_goto (pc := 186) e_L_isFinished_186 (by decide) ?_
            refine V_istore (pc := 190) e_L_isFinished_190 (by decide) ?_
            exact V_lq [(0, .ref 0), (2, .long h0), (5, zI 1)] ⟨⟨_, rfl, rfl⟩, ⟨_, rfl, rfl⟩, ⟨_, rfl, rfl⟩, trivial⟩ (t_isFinished_192 hB hj hh (by omega) hC k)
  · refine V_iload (pc := 59) e_L_isFinished_59 rfl ?_
    refine V_sipush (pc := 61) (by decide) e_L_isFinished_61 ?_
    refine V_icmp_gt (pc := 64) e_L_isFinished_64 (by decide) (by omega) (by decide) (fun h64 => ?_) (fun h64 => ?_)
    · refine V_iload (pc := 147) e_L_isFinished_147 rfl ?_
      refine V_if_eq (pc := 149) e_L_isFinished_149 (by decide) (by decide) (fun h => absurd h (by decide)) (fun _ => ?_)
      refine V_iload (pc := 152) e_L_isFinished_152 rfl ?_
      refine V_bipush (pc := 154) (by decide) e_L_isFinished_154 ?_
      refine V_icmp_ne (pc := 156) e_L_isFinished_156 (by decide) (by omega) (by decide) (fun h156 => ?_) (fun h156 => ?_)
      · exact V_lq [(0, .ref 0), (2, .long h0), (5, zI 1)] ⟨⟨_, rfl, rfl⟩, ⟨_, rfl, rfl⟩, ⟨_, rfl, rfl⟩, trivial⟩ (t_isFinished_192 hB hj hh (by omega) hC k)
      · have gc := run_G hg (m := 2000) (by decide) (by omega)
        refine V_aload_n (pc := 159) e_L_isFinished_159 rfl (Or.inl ⟨_, rfl⟩) ?_
        refine V_sipush (pc := 160) (by decide) e_L_isFinished_160 ?_
        refine V_cV1 (pc := 163) ca_8_77 e_L_isFinished_163 (by decide) (Nat.le_of_ble_eq_true rfl) (by decide) rfl (by decide) (q_runK hC (by omega) (by decide) rfl (fun S hC => ?_))
        refine V_if_lt (pc := 166) e_L_isFinished_166 (by decide) (by omega) (fun h166 => ?_) (fun h166 => ?_)
        · exfalso
          omega
        · refine V_aload_n (pc := 169) e_L_isFinished_169 rfl (Or.inl ⟨_, rfl⟩) ?_
          refine V_iload_n (pc := 170) e_L_isFinished_170 rfl ?_
          refine V_iconst (pc := 171) e_L_isFinished_171 ?_
          refine V_cV2 (pc := 172) ca_8_25 e_L_isFinished_172 (by decide) (Nat.le_of_ble_eq_true rfl) (by decide) rfl (by decide) (q_jobPages hC hj (hx1 h156) (fun pg S hpg hC => ?_))
          refine V_if_le (pc := 175) e_L_isFinished_175 (by decide) (by omega) (fun h175 => ?_) (fun h175 => ?_)
          · exfalso
            omega
          · refine V_aload_n (pc := 178) e_L_isFinished_178 rfl (Or.inl ⟨_, rfl⟩) ?_
            refine V_cV0 (pc := 179) ca_8_89 e_L_isFinished_179 (by decide) (Nat.le_of_ble_eq_true rfl) (by decide) rfl (by decide) (q_undoX hC (by omega) kpR_top (fun S hC => ?_))
            refine V_if_lt (pc := 182) e_L_isFinished_182 (by decide) (by omega) (fun h182 => ?_) (fun h182 => ?_)
            · exfalso
              omega
            · refine V_iconst (pc := 185) e_L_isFinished_185 ?_
              refine V_goto (pc := 186) e_L_isFinished_186 (by decide) ?_
              refine V_istore (pc := 190) e_L_isFinished_190 (by decide) ?_
              exact V_lq [(0, .ref 0), (2, .long h0), (5, zI 1)] ⟨⟨_, rfl, rfl⟩, ⟨_, rfl, rfl⟩, ⟨_, rfl, rfl⟩, trivial⟩ (t_isFinished_192 hB hj hh (by omega) hC k)
    · have hx2 := hx2 (by omega)
      have ga := run_G hg (m := x - 1) (by omega) (by omega)
      have gb := run_G ga.1 (m := 1) (by decide) (by omega)
      have fb := (gb.1.fa (by omega)).1
      refine V_aload_n (pc := 67) e_L_isFinished_67 rfl (Or.inl ⟨_, rfl⟩) ?_
      refine V_iconst (pc := 68) e_L_isFinished_68 ?_
      refine V_cV1 (pc := 69) ca_8_19 e_L_isFinished_69 (by decide) (Nat.le_of_ble_eq_true rfl) (by decide) rfl (by decide) (q_accountK (x := r 21) hC (by decide) rfl (fun S hC => ?_))
      refine V_istore (pc := 72) e_L_isFinished_72 (by decide) ?_
      refine V_aload_n (pc := 74) e_L_isFinished_74 rfl (Or.inl ⟨_, rfl⟩) ?_
      refine V_iload (pc := 75) e_L_isFinished_75 rfl ?_
      refine V_iconst (pc := 77) e_L_isFinished_77 ?_
      refine V_isub (pc := 78) e_L_isFinished_78 ?_
      refine V_cV1 (pc := 79) ca_8_77 e_L_isFinished_79 (by decide) (Nat.le_of_ble_eq_true rfl) (by decide) rfl (by decide) (q_runK hC (by omega) (by omega) rfl (fun S hC => ?_))
      refine V_if_lt (pc := 82) e_L_isFinished_82 (by decide) (by omega) (fun h82 => ?_) (fun h82 => ?_)
      · exfalso
        omega
      · refine V_aload_n (pc := 85) e_L_isFinished_85 rfl (Or.inl ⟨_, rfl⟩) ?_
        refine V_iload_n (pc := 86) e_L_isFinished_86 rfl ?_
        refine V_iconst (pc := 87) e_L_isFinished_87 ?_
        refine V_cV2 (pc := 88) ca_8_25 e_L_isFinished_88 (by decide) (Nat.le_of_ble_eq_true rfl) (by decide) rfl (by decide) (q_jobPages hC hj hx2.1 (fun pg S hpg hC => ?_))
        refine V_if_le (pc := 91) e_L_isFinished_91 (by decide) (by omega) (fun h91 => ?_) (fun h91 => ?_)
        · exfalso
          omega
        · refine V_aload_n (pc := 94) e_L_isFinished_94 rfl (Or.inl ⟨_, rfl⟩) ?_
          refine V_iconst (pc := 95) e_L_isFinished_95 ?_
          refine V_cV1 (pc := 96) ca_8_77 e_L_isFinished_96 (by decide) (Nat.le_of_ble_eq_true rfl) (by decide) rfl (by decide) (q_runK hC (by omega) (by decide) rfl (fun S hC => ?_))
          refine V_if_lt (pc := 99) e_L_isFinished_99 (by decide) (by omega) (fun h99 => ?_) (fun h99 => ?_)
          · exfalso
            omega
          · refine V_aload_n (pc := 102) e_L_isFinished_102 rfl (Or.inl ⟨_, rfl⟩) ?_
            refine V_iload_n (pc := 103) e_L_isFinished_103 rfl ?_
            refine V_iconst (pc := 104) e_L_isFinished_104 ?_
            refine V_cV2 (pc := 105) ca_8_25 e_L_isFinished_105 (by decide) (Nat.le_of_ble_eq_true rfl) (by decide) rfl (by decide) (q_jobGone hC hj hx2.2.1 (fun S hC => ?_))
            refine V_bipush (pc := 108) (by decide) e_L_isFinished_108 ?_
            refine V_icmp_ne (pc := 110) e_L_isFinished_110 (by decide) (by decide) (by decide) (fun h => absurd (by decide) h) (fun _ => ?_)
            refine V_aload_n (pc := 113) e_L_isFinished_113 rfl (Or.inl ⟨_, rfl⟩) ?_
            refine V_iconst (pc := 114) e_L_isFinished_114 ?_
            refine V_cV1 (pc := 115) ca_8_19 e_L_isFinished_115 (by decide) (Nat.le_of_ble_eq_true rfl) (by decide) rfl (by decide) (q_accountK (x := (runF 5000 (runF 5000 r (x - 1)) 1) 21) hC (by decide) rfl (fun S hC => ?_))
            refine V_iload (pc := 118) e_L_isFinished_118 rfl ?_
            refine V_icmp_le (pc := 120) e_L_isFinished_120 (by decide) (by omega) (by omega) (fun h120 => ?_) (fun h120 => ?_)
            · exfalso
              omega
            · refine V_aload_n (pc := 123) e_L_isFinished_123 rfl (Or.inl ⟨_, rfl⟩) ?_
              refine V_cV0 (pc := 124) ca_8_89 e_L_isFinished_124 (by decide) (Nat.le_of_ble_eq_true rfl) (by decide) rfl (by decide) (q_undoX hC (by omega) kpR_top (fun S hC => ?_))
              refine V_if_lt (pc := 127) e_L_isFinished_127 (by decide) (by omega) (fun h127 => ?_) (fun h127 => ?_)
              · exfalso
                omega
              · refine V_aload_n (pc := 130) e_L_isFinished_130 rfl (Or.inl ⟨_, rfl⟩) ?_
                refine V_cV0 (pc := 131) ca_8_89 e_L_isFinished_131 (by decide) (Nat.le_of_ble_eq_true rfl) (by decide) rfl (by decide) (q_undoX hC (by omega) (kpR_two hv) (fun S hC => ?_))
                refine V_if_lt (pc := 134) e_L_isFinished_134 (by decide) (by omega) (fun h134 => ?_) (fun h134 => ?_)
                · exfalso
                  omega
                · refine V_iconst (pc := 137) e_L_isFinished_137 ?_
                  refine V_goto (pc := 138) e_L_isFinished_138 (by decide) ?_
                  refine V_istore (pc := 142) e_L_isFinished_142 (by decide) ?_
                  refine V_goto (pc := 144) e_L_isFinished_144 (by decide) ?_
                  exact V_lq [(0, .ref 0), (2, .long h0), (5, zI 1)] ⟨⟨_, rfl, rfl⟩, ⟨_, rfl, rfl⟩, ⟨_, rfl, rfl⟩, trivial⟩ (t_isFinished_192 hB hj hh (by omega) hC k)
theorem c_L_isFinished {B : Int} {scr : Nat × (Nat → Int32)} {r : Int → Int} {sv : Int} {ρ : Int → Int → Int} {rf : Int} {Q : Option Value → Sto → Prop} (hB : B ≤ 800000) {j : Int} (hj : 0 ≤ j ∧ j < 2147483648) {S : Sto} (hC : CL B scr S r sv ρ rf) (hp : 0 ≤ plc r j) (k : ∀ S sv ρ, CL (B + 5000) scr S r sv ρ rf → Q (some (zI 1)) S) : Con M_L_isFinished 144 144 S [.ref 0, zI j] Q := by
  refine V_entry ok_L_isFinished (Nat.le_refl _) (Nat.le_of_ble_eq_true rfl) (V_ls [(0, .ref 0), (1, zI j)] ⟨rfl, rfl, trivial⟩ ?_)
  refine V_aload_n (pc := 0) e_L_isFinished_0 rfl (Or.inl ⟨_, rfl⟩) ?_
  refine V_cS1 (pc := 1) ca_8_42 e_L_isFinished_1 (by decide) (Nat.le_of_ble_eq_true rfl) (c_L_print hC (fun S hC => ?_))
  refine V_lstore_n (pc := 4) e_L_isFinished_4 (by decide) ?_
  refine V_aload_n (pc := 5) e_L_isFinished_5 rfl (Or.inl ⟨_, rfl⟩) ?_
  refine V_iload_n (pc := 6) e_L_isFinished_6 rfl ?_
  refine V_cV1 (pc := 7) ca_8_80 e_L_isFinished_7 (by decide) (Nat.le_of_ble_eq_true rfl) (by decide) rfl (by decide) (q_ticksK hC (by omega) hj hp (fun x S hx hx1 hx2 hC => ?_))
  refine V_istore (pc := 10) e_L_isFinished_10 (by decide) ?_
  refine V_aload_n (pc := 12) e_L_isFinished_12 rfl (Or.inl ⟨_, rfl⟩) ?_
  refine V_cS1 (pc := 13) ca_8_42 e_L_isFinished_13 (by decide) (Nat.le_of_ble_eq_true rfl) (c_L_print hC (fun S hC => ?_))
  refine V_lload_n (pc := 16) e_L_isFinished_16 rfl ?_
  refine V_lsame (pc := 17) e_L_isFinished_17 ?_
  refine V_if_ne (pc := 18) e_L_isFinished_18 (by decide) (by decide) (fun h => absurd (by decide) h) (fun _ => ?_)
  refine V_iload (pc := 21) e_L_isFinished_21 rfl ?_
  refine V_bipush (pc := 23) (by decide) e_L_isFinished_23 ?_
  refine V_icmp_eq (pc := 25) e_L_isFinished_25 (by decide) (by omega) (by decide) (fun h25 => ?_) (fun h25 => ?_)
  · refine V_iconst (pc := 41) e_L_isFinished_41 ?_
    refine V_goto (pc := 42) e_L_isFinished_42 (by decide) ?_
    refine V_istore (pc := 46) e_L_isFinished_46 (by decide) ?_
    exact V_lq [(0, .ref 0), (1, zI j), (2, .long (PH r sv)), (4, zI x), (5, zI 1)] ⟨⟨_, rfl, rfl⟩, ⟨_, rfl, rfl⟩, ⟨_, rfl, rfl⟩, ⟨_, rfl, rfl⟩, ⟨_, rfl, rfl⟩, trivial⟩ (t_isFinished_48 hB hj (fun _ => PH_sv _ _ _) hp hx hx1 hx2 hC k)
  · refine V_iload (pc := 28) e_L_isFinished_28 rfl ?_
    refine V_if_le (pc := 30) e_L_isFinished_30 (by decide) (by omega) (fun h30 => ?_) (fun h30 => ?_)
    · exfalso
      omega
    · refine V_iload (pc := 33) e_L_isFinished_33 rfl ?_
      refine V_sipush (pc := 35) (by decide) e_L_isFinished_35 ?_
      refine V_icmp_gt (pc := 38) e_L_isFinished_38 (by decide) (by omega) (by decide) (fun h38 => ?_) (fun h38 => ?_)
      · exfalso
        omega
      · refine V_iconst (pc := 41) e_L_isFinished_41 ?_
        refine V_goto (pc := 42) e_L_isFinished_42 (by decide) ?_
        refine V_istore (pc := 46) e_L_isFinished_46 (by decide) ?_
        exact V_lq [(0, .ref 0), (1, zI j), (2, .long (PH r sv)), (4, zI x), (5, zI 1)] ⟨⟨_, rfl, rfl⟩, ⟨_, rfl, rfl⟩, ⟨_, rfl, rfl⟩, ⟨_, rfl, rfl⟩, ⟨_, rfl, rfl⟩, trivial⟩ (t_isFinished_48 hB hj (fun _ => PH_sv _ _ _) hp hx hx1 hx2 hC k)
