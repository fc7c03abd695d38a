/-! the law: what is done -/
section ACTS
variable {B : Int} {scr : Nat × (Nat → Int32)} {S : Sto} {r : Int → Int} {sv : Int} {ρ : Int → Int → Int} {rf : Int} {Q : Option Value → Sto → Prop}
/-- the two ends of an act -/
def K1 (B : Int) (scr : Nat × (Nat → Int32)) (r : Int → Int) (sv : Int) (ρ : Int → Int → Int) (Q : Option Value → Sto → Prop) : Prop := ∀ (v : Int) (S' : Sto) (rf' : Int), -4 ≤ v ∧ v < 0 → CL B scr S' r sv ρ rf' → Q (some (zI v)) S'
def K2 (B : Int) (scr : Nat × (Nat → Int32)) (r : Int → Int) (sv : Int) (ρ : Int → Int → Int) (Q : Option Value → Sto → Prop) : Prop := ∀ (v : Int) (S' : Sto) (r' : Int → Int) (rf' : Int), 0 ≤ v ∧ v < 2147483648 → CL (B + 300) scr S' r' (recS sv) (kpR ρ sv r) rf' → Q (some (zI v)) S'
theorem a_fill (h : CL B scr S r sv ρ rf) {t s : Int} (r_t : -2147483648 ≤ t ∧ t < 2147483648) (r_s : -2147483648 ≤ s ∧ s < 2147483648) (k1 : K1 B scr r sv ρ Q) (k2 : K2 B scr r sv ρ Q) : Con M_X7_fill 144 144 S [.ref 0, zI t, zI s] Q :=
  q_fill h r_t r_s (fun _ S' c => k1 _ S' _ (by decide) c) (fun _ _ S' c => k1 _ S' _ (by decide) c) (fun g g2 S' c => k2 _ S' _ _ (by have a := h.gi.1.2.2.1 t (by omega) (by omega); omega) (c.up (by omega)))
theorem a_load (h : CL B scr S r sv ρ rf) {t s q : Int} (r_t : -2147483648 ≤ t ∧ t < 2147483648) (r_s : -2147483648 ≤ s ∧ s < 2147483648) (r_q : -2147483648 ≤ q ∧ q < 2147483648) (k1 : K1 B scr r sv ρ Q) (k2 : K2 B scr r sv ρ Q) : Con M_X7_load 144 144 S [.ref 0, zI t, zI s, zI q] Q :=
  q_load h r_t r_s r_q (fun _ S' c => k1 _ S' _ (by decide) c) (fun g S' c => k2 _ S' _ _ (by have a := h.gi.1.2.2.1 t (by omega) (by omega); omega) (c.up (by omega)))
theorem a_staples (h : CL B scr S r sv ρ rf) {v : Int} (r_v : -2147483648 ≤ v ∧ v < 2147483648) (k1 : K1 B scr r sv ρ Q) (k2 : K2 B scr r sv ρ Q) : Con M_X7_staples 144 144 S [.ref 0, zI v] Q :=
  q_staples h r_v (fun _ S' c => k1 _ S' _ (by decide) c) (fun g S' c => k2 _ S' _ _ (by have a := h.gi.1.1; unfold NI at a; omega) (c.up (by omega)))
theorem a_emptyBin (h : CL B scr S r sv ρ rf) (k1 : K1 B scr r sv ρ Q) (k2 : K2 B scr r sv ρ Q) : Con M_X7_emptyBin 144 144 S [.ref 0] Q :=
  q_emptyBin h (fun S' c => k2 _ S' _ _ (by have a := h.gi.1.1; unfold NI at a; omega) (c.up (by omega)))
theorem a_set (h : CL B scr S r sv ρ rf) {w v : Int} (r_w : -2147483648 ≤ w ∧ w < 2147483648) (r_v : -2147483648 ≤ v ∧ v < 2147483648) (k1 : K1 B scr r sv ρ Q) (k2 : K2 B scr r sv ρ Q) : Con M_X7_set 144 144 S [.ref 0, zI w, zI v] Q := by
  have n := h.gi.1.1
  unfold NI at n
  refine q_set h r_w r_v (fun _ S' c => k1 _ S' _ (by decide) c) (fun g S' c => ?_)
  have e : 0 ≤ r (10 + w) ∧ r (10 + w) < 2147483648 := by
    rcases g with ⟨rfl, -⟩ | ⟨rfl | rfl, -⟩ | ⟨rfl, -⟩ | ⟨rfl, -⟩ | ⟨rfl, -⟩
    · show 0 ≤ r 10 ∧ r 10 < _
      omega
    · show 0 ≤ r 11 ∧ r 11 < _
      omega
    · show 0 ≤ r 12 ∧ r 12 < _
      omega
    · show 0 ≤ r 13 ∧ r 13 < _
      omega
    · show 0 ≤ r 14 ∧ r 14 < _
      omega
    · show 0 ≤ r 15 ∧ r 15 < _
      omega
  exact k2 _ S' _ _ e (c.up (by omega))
theorem a_priority (h : CL B scr S r sv ρ rf) {j w : Int} (r_j : -2147483648 ≤ j ∧ j < 2147483648) (r_w : -2147483648 ≤ w ∧ w < 2147483648) (k1 : K1 B scr r sv ρ Q) (k2 : K2 B scr r sv ρ Q) : Con M_X7_priority 144 144 S [.ref 0, zI j, zI w] Q :=
  q_priority h r_j r_w (fun _ S' c => k1 _ S' _ (by decide) c) (fun _ _ S' c => k1 _ S' _ (by decide) c) (fun _ g2 S' c => k2 _ S' _ _ (by have a := (h.gi.1.jk ⟨g2, plc_lt g2⟩).1.2.2.2.1; unfold jf at a; omega) (c.up (by omega)))
theorem a_hold (h : CL B scr S r sv ρ rf) {j w : Int} (r_j : -2147483648 ≤ j ∧ j < 2147483648) (r_w : -2147483648 ≤ w ∧ w < 2147483648) (k1 : K1 B scr r sv ρ Q) (k2 : K2 B scr r sv ρ Q) : Con M_X7_hold 144 144 S [.ref 0, zI j, zI w] Q :=
  q_hold h r_j r_w (fun _ S' c => k1 _ S' _ (by decide) c) (fun _ _ S' c => k1 _ S' _ (by decide) c) (fun _ g2 r' S' c => k2 _ S' _ _ (by have a := (h.gi.1.jk ⟨g2, plc_lt g2⟩).1.2.2.2.2.1; unfold jf at a; omega) (c.up (by omega)))
theorem a_cancel (h : CL B scr S r sv ρ rf) {j : Int} (r_j : -2147483648 ≤ j ∧ j < 2147483648) (k1 : K1 B scr r sv ρ Q) (k2 : K2 B scr r sv ρ Q) : Con M_X7_cancel 144 144 S [.ref 0, zI j] Q :=
  q_cancel h r_j (fun _ S' c => k1 _ S' _ (by decide) c) (fun _ _ S' c => k1 _ S' _ (by decide) c) (fun _ g2 r' S' c => k2 _ S' _ _ (by have a := (h.gi.1.jk ⟨g2, plc_lt g2⟩).1; omega) (c.up (by omega)))
theorem a_run (h : CL B scr S r sv ρ rf) (hB : B ≤ 800000) {m : Int} (hm : 1 ≤ m ∧ m ≤ 300) (k1 : K1 B scr r sv ρ Q) (k2 : K2 B scr r sv ρ Q) : Con M_X7_run 144 144 S [.ref 0, zI m] Q :=
  q_run h (by omega) (by omega) (fun _ S' c => k1 _ S' _ (by decide) c) (fun _ S' c => k2 _ S' _ _ (by have a := run_G h.gi (m := m) (by omega) (by omega); omega) (c.up (by omega)))
theorem a_job (h : CL B scr S r sv ρ rf) (hB : B ≤ 800000) {pg cp s q hw : Int} (r_pg : -2147483648 ≤ pg ∧ pg < 2147483648) (r_cp : -2147483648 ≤ cp ∧ cp < 2147483648) (r_s : -2147483648 ≤ s ∧ s < 2147483648) (r_q : -2147483648 ≤ q ∧ q < 2147483648) (r_hw : -2147483648 ≤ hw ∧ hw < 2147483648) (k1 : K1 B scr r sv ρ Q) (k2 : K2 B scr r sv ρ Q) : Con M_X7_job 144 144 S [.ref 0, zI pg, zI cp, zI s, zI q, zI hw] Q :=
  q_job h (by omega) r_pg r_cp r_s r_q r_hw (fun _ S' c => k1 _ S' _ (by decide) c) (fun _ _ S' c => k1 _ S' _ (by decide) c) (fun _ _ _ S' c => k1 _ S' _ (by decide) c) (fun _ _ _ S' c => k2 _ S' _ _ (by have a := h.gi.1.1; unfold NI at a; omega) (c.up (by omega)))
end ACTS
theorem t_acts_23 {B : Int} {scr : Nat × (Nat → Int32)} {r : Int → Int} {sv : Int} {ρ : Int → Int → Int} {rf : Int} {Q : Option Value → Sto → Prop} (hB : B ≤ 800000) {x y : Int} (hx : -2147483648 ≤ x ∧ x < 2147483648) (hy : 0 ≤ y ∧ y < 1000000) {j : Int} (hj : 0 ≤ j ∧ j < 2147483648) {S : Sto} (hC : CL B scr S r sv ρ rf) (k1 : K1 B scr r sv ρ Q) (k2 : K2 B scr r sv ρ Q) : V M_L_acts 144 23 [(0, .ref 0), (1, zI x), (2, zI y), (4, zI j)] [] 144 S Q := by
  refine V_iload_n (pc := 23) e_L_acts_23 rfl ?_
  refine V_bipush (pc := 24) (by decide) e_L_acts_24 ?_
  refine V_cS2 (pc := 26) ca_8_99 e_L_acts_26 (by decide) (Nat.le_of_ble_eq_true rfl) (c_L_low (by decide) (fun z hz => ?_))
  refine V_table (pc := 29) e_L_acts_29 (by decide) (by decide) (by decide) (by omega) (fun h29 => ?_) (fun j o h29 ho => ?_)
  · refine V_aload_n (pc := 410) e_L_acts_410 rfl (Or.inl ⟨_, rfl⟩) ?_
    refine V_iconst (pc := 411) e_L_acts_411 ?_
    refine V_iload_n (pc := 412) e_L_acts_412 rfl ?_
    refine V_iload_n (pc := 413) e_L_acts_413 rfl ?_
    refine V_iconst (pc := 414) e_L_acts_414 ?_
    refine V_irem (pc := 415) e_L_acts_415 (by omega) (by decide) ?_
    refine V_if_ne (pc := 416) e_L_acts_416 (by decide) (by omega) (fun h416 => ?_) (fun h416 => ?_)
    · refine V_bipush (pc := 425) (by decide) e_L_acts_425 ?_
      refine V_irem (pc := 427) e_L_acts_427 (by omega) (by decide) ?_
      refine V_iadd (pc := 428) e_L_acts_428 ?_
      refine V_cV1 (pc := 429) ca_8_77 e_L_acts_429 (by decide) (Nat.le_of_ble_eq_true rfl) (by decide) rfl (by decide) (a_run hC hB (by omega) (fun v S rf hv hC => ?_) (fun v S r rf hv hC => ?_))
      · refine V_ret (pc := 432) (v := some (zI _)) ⟨e_L_acts_432, _, rfl, rfl⟩ ?_
        first | exact k1 _ _ _ hv hC | exact k2 _ _ _ _ hv hC
      · refine V_ret (pc := 432) (v := some (zI _)) ⟨e_L_acts_432, _, rfl, rfl⟩ ?_
        first | exact k1 _ _ _ hv hC | exact k2 _ _ _ _ hv hC
    · refine V_sipush (pc := 419) (by decide) e_L_acts_419 ?_
      refine V_goto (pc := 422) e_L_acts_422 (by decide) ?_
      refine V_irem (pc := 427) e_L_acts_427 (by omega) (by decide) ?_
      refine V_iadd (pc := 428) e_L_acts_428 ?_
      refine V_cV1 (pc := 429) ca_8_77 e_L_acts_429 (by decide) (Nat.le_of_ble_eq_true rfl) (by decide) rfl (by decide) (a_run hC hB (by omega) (fun v S rf hv hC => ?_) (fun v S r rf hv hC => ?_))
      · refine V_ret (pc := 432) (v := some (zI _)) ⟨e_L_acts_432, _, rfl, rfl⟩ ?_
        first | exact k1 _ _ _ hv hC | exact k2 _ _ _ _ hv hC
      · refine V_ret (pc := 432) (v := some (zI _)) ⟨e_L_acts_432, _, rfl, rfl⟩ ?_
        first | exact k1 _ _ _ hv hC | exact k2 _ _ _ _ hv hC
  · match j, ho with
    | 0, ho =>
      obtain rfl := Option.some.inj ho
      refine V_aload_n (pc := 100) e_L_acts_100 rfl (Or.inl ⟨_, rfl⟩) ?_
      refine V_iload_n (pc := 101) e_L_acts_101 rfl ?_
      refine V_iconst (pc := 102) e_L_acts_102 ?_
      refine V_irem (pc := 103) e_L_acts_103 (by omega) (by decide) ?_
      refine V_if_ne (pc := 104) e_L_acts_104 (by decide) (by omega) (fun h104 => ?_) (fun h104 => ?_)
      · refine V_iconst (pc := 117) e_L_acts_117 ?_
        refine V_iload_n (pc := 118) e_L_acts_118 rfl ?_
        refine V_iconst (pc := 119) e_L_acts_119 ?_
        refine V_idiv (pc := 120) e_L_acts_120 (by omega) (by decide) ?_
        refine V_bipush (pc := 121) (by decide) e_L_acts_121 ?_
        refine V_irem (pc := 123) e_L_acts_123 (by omega) (by decide) ?_
        refine V_iadd (pc := 124) e_L_acts_124 ?_
        refine V_iconst (pc := 125) e_L_acts_125 ?_
        refine V_iload_n (pc := 126) e_L_acts_126 rfl ?_
        refine V_bipush (pc := 127) (by decide) e_L_acts_127 ?_
        refine V_idiv (pc := 129) e_L_acts_129 (by omega) (by decide) ?_
        refine V_iconst (pc := 130) e_L_acts_130 ?_
        refine V_irem (pc := 131) e_L_acts_131 (by omega) (by decide) ?_
        refine V_iadd (pc := 132) e_L_acts_132 ?_
        refine V_iload_n (pc := 133) e_L_acts_133 rfl ?_
        refine V_sipush (pc := 134) (by decide) e_L_acts_134 ?_
        refine V_idiv (pc := 137) e_L_acts_137 (by omega) (by decide) ?_
        refine V_iconst (pc := 138) e_L_acts_138 ?_
        refine V_irem (pc := 139) e_L_acts_139 (by omega) (by decide) ?_
        refine V_if_ne (pc := 140) e_L_acts_140 (by decide) (by omega) (fun h140 => ?_) (fun h140 => ?_)
        · refine V_iconst (pc := 153) e_L_acts_153 ?_
          refine V_iload_n (pc := 154) e_L_acts_154 rfl ?_
          refine V_bipush (pc := 155) (by decide) e_L_acts_155 ?_
          refine V_idiv (pc := 157) e_L_acts_157 (by omega) (by decide) ?_
          refine V_iconst (pc := 158) e_L_acts_158 ?_
          refine V_irem (pc := 159) e_L_acts_159 (by omega) (by decide) ?_
          refine V_if_ne (pc := 160) e_L_acts_160 (by decide) (by omega) (fun h160 => ?_) (fun h160 => ?_)
          · refine V_iconst (pc := 172) e_L_acts_172 ?_
            refine V_iload_n (pc := 173) e_L_acts_173 rfl ?_
            refine V_bipush (pc := 174) (by decide) e_L_acts_174 ?_
            refine V_idiv (pc := 176) e_L_acts_176 (by omega) (by decide) ?_
            refine V_bipush (pc := 177) (by decide) e_L_acts_177 ?_
            refine V_irem (pc := 179) e_L_acts_179 (by omega) (by decide) ?_
            refine V_cV5 (pc := 180) ca_8_61 e_L_acts_180 (by decide) (Nat.le_of_ble_eq_true rfl) (by decide) rfl (by decide) (a_job hC hB (by omega) (by omega) (by decide) (by decide) (by omega) (fun v S rf hv hC => ?_) (fun v S r rf hv hC => ?_))
            · refine V_ret (pc := 183) (v := some (zI _)) ⟨e_L_acts_183, _, rfl, rfl⟩ ?_
              first | exact k1 _ _ _ hv hC | exact k2 _ _ _ _ hv hC
            · refine V_ret (pc := 183) (v := some (zI _)) ⟨e_L_acts_183, _, rfl, rfl⟩ ?_
              first | exact k1 _ _ _ hv hC | exact k2 _ _ _ _ hv hC
          · refine V_iload_n (pc := 163) e_L_acts_163 rfl ?_
            refine V_bipush (pc := 164) (by decide) e_L_acts_164 ?_
            refine V_idiv (pc := 166) e_L_acts_166 (by omega) (by decide) ?_
            refine V_iconst (pc := 167) e_L_acts_167 ?_
            refine V_irem (pc := 168) e_L_acts_168 (by omega) (by decide) ?_
            refine V_goto (pc := 169) e_L_acts_169 (by decide) ?_
            refine V_iload_n (pc := 173) e_L_acts_173 rfl ?_
            refine V_bipush (pc := 174) (by decide) e_L_acts_174 ?_
            refine V_idiv (pc := 176) e_L_acts_176 (by omega) (by decide) ?_
            refine V_bipush (pc := 177) (by decide) e_L_acts_177 ?_
            refine V_irem (pc := 179) e_L_acts_179 (by omega) (by decide) ?_
            refine V_cV5 (pc := 180) ca_8_61 e_L_acts_180 (by decide) (Nat.le_of_ble_eq_true rfl) (by decide) rfl (by decide) (a_job hC hB (by omega) (by omega) (by decide) (by omega) (by omega) (fun v S rf hv hC => ?_) (fun v S r rf hv hC => ?_))
            · refine V_ret (pc := 183) (v := some (zI _)) ⟨e_L_acts_183, _, rfl, rfl⟩ ?_
              first | exact k1 _ _ _ hv hC | exact k2 _ _ _ _ hv hC
            · refine V_ret (pc := 183) (v := some (zI _)) ⟨e_L_acts_183, _, rfl, rfl⟩ ?_
              first | exact k1 _ _ _ hv hC | exact k2 _ _ _ _ hv hC
        · refine V_iload_n (pc := 143) e_L_acts_143 rfl ?_
          refine V_sipush (pc := 144) (by decide) e_L_acts_144 ?_
          refine V_idiv (pc := 147) e_L_acts_147 (by omega) (by decide) ?_
          refine V_iconst (pc := 148) e_L_acts_148 ?_
          refine V_irem (pc := 149) e_L_acts_149 (by omega) (by decide) ?_
          refine V_goto (pc := 150) e_L_acts_150 (by decide) ?_
          refine V_iload_n (pc := 154) e_L_acts_154 rfl ?_
          refine V_bipush (pc := 155) (by decide) e_L_acts_155 ?_
          refine V_idiv (pc := 157) e_L_acts_157 (by omega) (by decide) ?_
          refine V_iconst (pc := 158) e_L_acts_158 ?_
          refine V_irem (pc := 159) e_L_acts_159 (by omega) (by decide) ?_
          refine V_if_ne (pc := 160) e_L_acts_160 (by decide) (by omega) (fun h160 => ?_) (fun h160 => ?_)
          · refine V_iconst (pc := 172) e_L_acts_172 ?_
            refine V_iload_n (pc := 173) e_L_acts_173 rfl ?_
            refine V_bipush (pc := 174) (by decide) e_L_acts_174 ?_
            refine V_idiv (pc := 176) e_L_acts_176 (by omega) (by decide) ?_
            refine V_bipush (pc := 177) (by decide) e_L_acts_177 ?_
            refine V_irem (pc := 179) e_L_acts_179 (by omega) (by decide) ?_
            refine V_cV5 (pc := 180) ca_8_61 e_L_acts_180 (by decide) (Nat.le_of_ble_eq_true rfl) (by decide) rfl (by decide) (a_job hC hB (by omega) (by omega) (by omega) (by decide) (by omega) (fun v S rf hv hC => ?_) (fun v S r rf hv hC => ?_))
            · refine V_ret (pc := 183) (v := some (zI _)) ⟨e_L_acts_183, _, rfl, rfl⟩ ?_
              first | exact k1 _ _ _ hv hC | exact k2 _ _ _ _ hv hC
            · refine V_ret (pc := 183) (v := some (zI _)) ⟨e_L_acts_183, _, rfl, rfl⟩ ?_
              first | exact k1 _ _ _ hv hC | exact k2 _ _ _ _ hv hC
          · refine V_iload_n (pc := 163) e_L_acts_163 rfl ?_
            refine V_bipush (pc := 164) (by decide) e_L_acts_164 ?_
            refine V_idiv (pc := 166) e_L_acts_166 (by omega) (by decide) ?_
            refine V_iconst (pc := 167) e_L_acts_167 ?_
            refine V_irem (pc := 168) e_L_acts_168 (by omega) (by decide) ?_
            refine V_goto (pc := 169) e_L_acts_169 (by decide) ?_
            refine V_iload_n (pc := 173) e_L_acts_173 rfl ?_
            refine V_bipush (pc := 174) (by decide) e_L_acts_174 ?_
            refine V_idiv (pc := 176) e_L_acts_176 (by omega) (by decide) ?_
            refine V_bipush (pc := 177) (by decide) e_L_acts_177 ?_
            refine V_irem (pc := 179) e_L_acts_179 (by omega) (by decide) ?_
            refine V_cV5 (pc := 180) ca_8_61 e_L_acts_180 (by decide) (Nat.le_of_ble_eq_true rfl) (by decide) rfl (by decide) (a_job hC hB (by omega) (by omega) (by omega) (by omega) (by omega) (fun v S rf hv hC => ?_) (fun v S r rf hv hC => ?_))
            · refine V_ret (pc := 183) (v := some (zI _)) ⟨e_L_acts_183, _, rfl, rfl⟩ ?_
              first | exact k1 _ _ _ hv hC | exact k2 _ _ _ _ hv hC
            · refine V_ret (pc := 183) (v := some (zI _)) ⟨e_L_acts_183, _, rfl, rfl⟩ ?_
              first | exact k1 _ _ _ hv hC | exact k2 _ _ _ _ hv hC
      · refine V_iconst (pc := 107) e_L_acts_107 ?_
        refine V_iload_n (pc := 108) e_L_acts_108 rfl ?_
        refine V_iconst (pc := 109) e_L_acts_109 ?_
        refine V_idiv (pc := 110) e_L_acts_110 (by omega) (by decide) ?_
        refine V_iconst (pc := 111) e_L_acts_111 ?_
        refine V_irem (pc := 112) e_L_acts_112 (by omega) (by decide) ?_
        refine V_iadd (pc := 113) e_L_acts_113 ?_
        refine V_goto (pc := 114) e_L_acts_114 (by decide) ?_
        refine V_iconst (pc := 125) e_L_acts_125 ?_
        refine V_iload_n (pc := 126) e_L_acts_126 rfl ?_
        refine V_bipush (pc := 127) (by decide) e_L_acts_127 ?_
        refine V_idiv (pc := 129) e_L_acts_129 (by omega) (by decide) ?_
        refine V_iconst (pc := 130) e_L_acts_130 ?_
        refine V_irem (pc := 131) e_L_acts_131 (by omega) (by decide) ?_
        refine V_iadd (pc := 132) e_L_acts_132 ?_
        refine V_iload_n (pc := 133) e_L_acts_133 rfl ?_
        refine V_sipush (pc := 134) (by decide) e_L_acts_134 ?_
        refine V_idiv (pc := 137) e_L_acts_137 (by omega) (by decide) ?_
        refine V_iconst (pc := 138) e_L_acts_138 ?_
        refine V_irem (pc := 139) e_L_acts_139 (by omega) (by decide) ?_
        refine V_if_ne (pc := 140) e_L_acts_140 (by decide) (by omega) (fun h140 => ?_) (fun h140 => ?_)
        · refine V_iconst (pc := 153) e_L_acts_153 ?_
          refine V_iload_n (pc := 154) e_L_acts_154 rfl ?_
          refine V_bipush (pc := 155) (by decide) e_L_acts_155 ?_
          refine V_idiv (pc := 157) e_L_acts_157 (by omega) (by decide) ?_
          refine V_iconst (pc := 158) e_L_acts_158 ?_
          refine V_irem (pc := 159) e_L_acts_159 (by omega) (by decide) ?_
          refine V_if_ne (pc := 160) e_L_acts_160 (by decide) (by omega) (fun h160 => ?_) (fun h160 => ?_)
          · refine V_iconst (pc := 172) e_L_acts_172 ?_
            refine V_iload_n (pc := 173) e_L_acts_173 rfl ?_
            refine V_bipush (pc := 174) (by decide) e_L_acts_174 ?_
            refine V_idiv (pc := 176) e_L_acts_176 (by omega) (by decide) ?_
            refine V_bipush (pc := 177) (by decide) e_L_acts_177 ?_
            refine V_irem (pc := 179) e_L_acts_179 (by omega) (by decide) ?_
            refine V_cV5 (pc := 180) ca_8_61 e_L_acts_180 (by decide) (Nat.le_of_ble_eq_true rfl) (by decide) rfl (by decide) (a_job hC hB (by omega) (by omega) (by decide) (by decide) (by omega) (fun v S rf hv hC => ?_) (fun v S r rf hv hC => ?_))
            · refine V_ret (pc := 183) (v := some (zI _)) ⟨e_L_acts_183, _, rfl, rfl⟩ ?_
              first | exact k1 _ _ _ hv hC | exact k2 _ _ _ _ hv hC
            · refine V_ret (pc := 183) (v := some (zI _)) ⟨e_L_acts_183, _, rfl, rfl⟩ ?_
              first | exact k1 _ _ _ hv hC | exact k2 _ _ _ _ hv hC
          · refine V_iload_n (pc := 163) e_L_acts_163 rfl ?_
            refine V_bipush (pc := 164) (by decide) e_L_acts_164 ?_
            refine V_idiv (pc := 166) e_L_acts_166 (by omega) (by decide) ?_
            refine V_iconst (pc := 167) e_L_acts_167 ?_
            refine V_irem (pc := 168) e_L_acts_168 (by omega) (by decide) ?_
            refine V_goto (pc := 169) e_L_acts_169 (by decide) ?_
            refine V_iload_n (pc := 173) e_L_acts_173 rfl ?_
            refine V_bipush (pc := 174) (by decide) e_L_acts_174 ?_
            refine V_idiv (pc := 176) e_L_acts_176 (by omega) (by decide) ?_
            refine V_bipush (pc := 177) (by decide) e_L_acts_177 ?_
            refine V_irem (pc := 179) e_L_acts_179 (by omega) (by decide) ?_
            refine V_cV5 (pc := 180) ca_8_61 e_L_acts_180 (by decide) (Nat.le_of_ble_eq_true rfl) (by decide) rfl (by decide) (a_job hC hB (by omega) (by omega) (by decide) (by omega) (by omega) (fun v S rf hv hC => ?_) (fun v S r rf hv hC => ?_))
            · refine V_ret (pc := 183) (v := some (zI _)) ⟨e_L_acts_183, _, rfl, rfl⟩ ?_
              first | exact k1 _ _ _ hv hC | exact k2 _ _ _ _ hv hC
            · refine V_ret (pc := 183) (v := some (zI _)) ⟨e_L_acts_183, _, rfl, rfl⟩ ?_
              first | exact k1 _ _ _ hv hC | exact k2 _ _ _ _ hv hC
        · refine V_iload_n (pc := 143) e_L_acts_143 rfl ?_
          refine V_sipush (pc := 144) (by decide) e_L_acts_144 ?_
          refine V_idiv (pc := 147) e_L_acts_147 (by omega) (by decide) ?_
          refine V_iconst (pc := 148) e_L_acts_148 ?_
          refine V_irem (pc := 149) e_L_acts_149 (by omega) (by decide) ?_
          refine V_goto (pc := 150) e_L_acts_150 (by decide) ?_
          refine V_iload_n (pc := 154) e_L_acts_154 rfl ?_
          refine V_bipush (pc := 155) (by decide) e_L_acts_155 ?_
          refine V_idiv (pc := 157) e_L_acts_157 (by omega) (by decide) ?_
          refine V_iconst (pc := 158) e_L_acts_158 ?_
          refine V_irem (pc := 159) e_L_acts_159 (by omega) (by decide) ?_
          refine V_if_ne (pc := 160) e_L_acts_160 (by decide) (by omega) (fun h160 => ?_) (fun h160 => ?_)
          · refine V_iconst (pc := 172) e_L_acts_172 ?_
            refine V_iload_n (pc := 173) e_L_acts_173 rfl ?_
            refine V_bipush (pc := 174) (by decide) e_L_acts_174 ?_
            refine V_idiv (pc := 176) e_L_acts_176 (by omega) (by decide) ?_
            refine V_bipush (pc := 177) (by decide) e_L_acts_177 ?_
            refine V_irem (pc := 179) e_L_acts_179 (by omega) (by decide) ?_
            refine V_cV5 (pc := 180) ca_8_61 e_L_acts_180 (by decide) (Nat.le_of_ble_eq_true rfl) (by decide) rfl (by decide) (a_job hC hB (by omega) (by omega) (by omega) (by decide) (by omega) (fun v S rf hv hC => ?_) (fun v S r rf hv hC => ?_))
            · refine V_ret (pc := 183) (v := some (zI _)) ⟨e_L_acts_183, _, rfl, rfl⟩ ?_
              first | exact k1 _ _ _ hv hC | exact k2 _ _ _ _ hv hC
            · refine V_ret (pc := 183) (v := some (zI _)) ⟨e_L_acts_183, _, rfl, rfl⟩ ?_
              first | exact k1 _ _ _ hv hC | exact k2 _ _ _ _ hv hC
          · refine V_iload_n (pc := 163) e_L_acts_163 rfl ?_
            refine V_bipush (pc := 164) (by decide) e_L_acts_164 ?_
            refine V_idiv (pc := 166) e_L_acts_166 (by omega) (by decide) ?_
            refine V_iconst (pc := 167) e_L_acts_167 ?_
            refine V_irem (pc := 168) e_L_acts_168 (by omega) (by decide) ?_
            refine V_goto (pc := 169) e_L_acts_169 (by decide) ?_
            refine V_iload_n (pc := 173) e_L_acts_173 rfl ?_
            refine V_bipush (pc := 174) (by decide) e_L_acts_174 ?_
            refine V_idiv (pc := 176) e_L_acts_176 (by omega) (by decide) ?_
            refine V_bipush (pc := 177) (by decide) e_L_acts_177 ?_
            refine V_irem (pc := 179) e_L_acts_179 (by omega) (by decide) ?_
            refine V_cV5 (pc := 180) ca_8_61 e_L_acts_180 (by decide) (Nat.le_of_ble_eq_true rfl) (by decide) rfl (by decide) (a_job hC hB (by omega) (by omega) (by omega) (by omega) (by omega) (fun v S rf hv hC => ?_) (fun v S r rf hv hC => ?_))
            · refine V_ret (pc := 183) (v := some (zI _)) ⟨e_L_acts_183, _, rfl, rfl⟩ ?_
              first | exact k1 _ _ _ hv hC | exact k2 _ _ _ _ hv hC
            · refine V_ret (pc := 183) (v := some (zI _)) ⟨e_L_acts_183, _, rfl, rfl⟩ ?_
              first | exact k1 _ _ _ hv hC | exact k2 _ _ _ _ hv hC
    | 1, ho =>
      obtain rfl := Option.some.inj ho
      refine V_aload_n (pc := 100) e_L_acts_100 rfl (Or.inl ⟨_, rfl⟩) ?_
      refine V_iload_n (pc := 101) e_L_acts_101 rfl ?_
      refine V_iconst (pc := 102) e_L_acts_102 ?_
      refine V_irem (pc := 103) e_L_acts_103 (by omega) (by decide) ?_
      refine V_if_ne (pc := 104) e_L_acts_104 (by decide) (by omega) (fun h104 => ?_) (fun h104 => ?_)
      · refine V_iconst (pc := 117) e_L_acts_117 ?_
        refine V_iload_n (pc := 118) e_L_acts_118 rfl ?_
        refine V_iconst (pc := 119) e_L_acts_119 ?_
        refine V_idiv (pc := 120) e_L_acts_120 (by omega) (by decide) ?_
        refine V_bipush (pc := 121) (by decide) e_L_acts_121 ?_
        refine V_irem (pc := 123) e_L_acts_123 (by omega) (by decide) ?_
        refine V_iadd (pc := 124) e_L_acts_124 ?_
        refine V_iconst (pc := 125) e_L_acts_125 ?_
        refine V_iload_n (pc := 126) e_L_acts_126 rfl ?_
        refine V_bipush (pc := 127) (by decide) e_L_acts_127 ?_
        refine V_idiv (pc := 129) e_L_acts_129 (by omega) (by decide) ?_
        refine V_iconst (pc := 130) e_L_acts_130 ?_
        refine V_irem (pc := 131) e_L_acts_131 (by omega) (by decide) ?_
        refine V_iadd (pc := 132) e_L_acts_132 ?_
        refine V_iload_n (pc := 133) e_L_acts_133 rfl ?_
        refine V_sipush (pc := 134) (by decide) e_L_acts_134 ?_
        refine V_idiv (pc := 137) e_L_acts_137 (by omega) (by decide) ?_
        refine V_iconst (pc := 138) e_L_acts_138 ?_
        refine V_irem (pc := 139) e_L_acts_139 (by omega) (by decide) ?_
        refine V_if_ne (pc := 140) e_L_acts_140 (by decide) (by omega) (fun h140 => ?_) (fun h140 => ?_)
        · refine V_iconst (pc := 153) e_L_acts_153 ?_
          refine V_iload_n (pc := 154) e_L_acts_154 rfl ?_
          refine V_bipush (pc := 155) (by decide) e_L_acts_155 ?_
          refine V_idiv (pc := 157) e_L_acts_157 (by omega) (by decide) ?_
          refine V_iconst (pc := 158) e_L_acts_158 ?_
          refine V_irem (pc := 159) e_L_acts_159 (by omega) (by decide) ?_
          refine V_if_ne (pc := 160) e_L_acts_160 (by decide) (by omega) (fun h160 => ?_) (fun h160 => ?_)
          · refine V_iconst (pc := 172) e_L_acts_172 ?_
            refine V_iload_n (pc := 173) e_L_acts_173 rfl ?_
            refine V_bipush (pc := 174) (by decide) e_L_acts_174 ?_
            refine V_idiv (pc := 176) e_L_acts_176 (by omega) (by decide) ?_
            refine V_bipush (pc := 177) (by decide) e_L_acts_177 ?_
            refine V_irem (pc := 179) e_L_acts_179 (by omega) (by decide) ?_
            refine V_cV5 (pc := 180) ca_8_61 e_L_acts_180 (by decide) (Nat.le_of_ble_eq_true rfl) (by decide) rfl (by decide) (a_job hC hB (by omega) (by omega) (by decide) (by decide) (by omega) (fun v S rf hv hC => ?_) (fun v S r rf hv hC => ?_))
            · refine V_ret (pc := 183) (v := some (zI _)) ⟨e_L_acts_183, _, rfl, rfl⟩ ?_
              first | exact k1 _ _ _ hv hC | exact k2 _ _ _ _ hv hC
            · refine V_ret (pc := 183) (v := some (zI _)) ⟨e_L_acts_183, _, rfl, rfl⟩ ?_
              first | exact k1 _ _ _ hv hC | exact k2 _ _ _ _ hv hC
          · refine V_iload_n (pc := 163) e_L_acts_163 rfl ?_
            refine V_bipush (pc := 164) (by decide) e_L_acts_164 ?_
            refine V_idiv (pc := 166) e_L_acts_166 (by omega) (by decide) ?_
            refine V_iconst (pc := 167) e_L_acts_167 ?_
            refine V_irem (pc := 168) e_L_acts_168 (by omega) (by decide) ?_
            refine V_goto (pc := 169) e_L_acts_169 (by decide) ?_
            refine V_iload_n (pc := 173) e_L_acts_173 rfl ?_
            refine V_bipush (pc := 174) (by decide) e_L_acts_174 ?_
            refine V_idiv (pc := 176) e_L_acts_176 (by omega) (by decide) ?_
            refine V_bipush (pc := 177) (by decide) e_L_acts_177 ?_
            refine V_irem (pc := 179) e_L_acts_179 (by omega) (by decide) ?_
            refine V_cV5 (pc := 180) ca_8_61 e_L_acts_180 (by decide) (Nat.le_of_ble_eq_true rfl) (by decide) rfl (by decide) (a_job hC hB (by omega) (by omega) (by decide) (by omega) (by omega) (fun v S rf hv hC => ?_) (fun v S r rf hv hC => ?_))
            · refine V_ret (pc := 183) (v := some (zI _)) ⟨e_L_acts_183, _, rfl, rfl⟩ ?_
              first | exact k1 _ _ _ hv hC | exact k2 _ _ _ _ hv hC
            · refine V_ret (pc := 183) (v := some (zI _)) ⟨e_L_acts_183, _, rfl, rfl⟩ ?_
              first | exact k1 _ _ _ hv hC | exact k2 _ _ _ _ hv hC
        · refine V_iload_n (pc := 143) e_L_acts_143 rfl ?_
          refine V_sipush (pc := 144) (by decide) e_L_acts_144 ?_
          refine V_idiv (pc := 147) e_L_acts_147 (by omega) (by decide) ?_
          refine V_iconst (pc := 148) e_L_acts_148 ?_
          refine V_irem (pc := 149) e_L_acts_149 (by omega) (by decide) ?_
          refine V_goto (pc := 150) e_L_acts_150 (by decide) ?_
          refine V_iload_n (pc := 154) e_L_acts_154 rfl ?_
          refine V_bipush (pc := 155) (by decide) e_L_acts_155 ?_
          refine V_idiv (pc := 157) e_L_acts_157 (by omega) (by decide) ?_
          refine V_iconst (pc := 158) e_L_acts_158 ?_
          refine V_irem (pc := 159) e_L_acts_159 (by omega) (by decide) ?_
          refine V_if_ne (pc := 160) e_L_acts_160 (by decide) (by omega) (fun h160 => ?_) (fun h160 => ?_)
          · refine V_iconst (pc := 172) e_L_acts_172 ?_
            refine V_iload_n (pc := 173) e_L_acts_173 rfl ?_
            refine V_bipush (pc := 174) (by decide) e_L_acts_174 ?_
            refine V_idiv (pc := 176) e_L_acts_176 (by omega) (by decide) ?_
            refine V_bipush (pc := 177) (by decide) e_L_acts_177 ?_
            refine V_irem (pc := 179) e_L_acts_179 (by omega) (by decide) ?_
            refine V_cV5 (pc := 180) ca_8_61 e_L_acts_180 (by decide) (Nat.le_of_ble_eq_true rfl) (by decide) rfl (by decide) (a_job hC hB (by omega) (by omega) (by omega) (by decide) (by omega) (fun v S rf hv hC => ?_) (fun v S r rf hv hC => ?_))
            · refine V_ret (pc := 183) (v := some (zI _)) ⟨e_L_acts_183, _, rfl, rfl⟩ ?_
              first | exact k1 _ _ _ hv hC | exact k2 _ _ _ _ hv hC
            · refine V_ret (pc := 183) (v := some (zI _)) ⟨e_L_acts_183, _, rfl, rfl⟩ ?_
              first | exact k1 _ _ _ hv hC | exact k2 _ _ _ _ hv hC
          · refine V_iload_n (pc := 163) e_L_acts_163 rfl ?_
            refine V_bipush (pc := 164) (by decide) e_L_acts_164 ?_
            refine V_idiv (pc := 166) e_L_acts_166 (by omega) (by decide) ?_
            refine V_iconst (pc := 167) e_L_acts_167 ?_
            refine V_irem (pc := 168) e_L_acts_168 (by omega) (by decide) ?_
            refine V_goto (pc := 169) e_L_acts_169 (by decide) ?_
            refine V_iload_n (pc := 173) e_L_acts_173 rfl ?_
            refine V_bipush (pc := 174) (by decide) e_L_acts_174 ?_
            refine V_idiv (pc := 176) e_L_acts_176 (by omega) (by decide) ?_
            refine V_bipush (pc := 177) (by decide) e_L_acts_177 ?_
            refine V_irem (pc := 179) e_L_acts_179 (by omega) (by decide) ?_
            refine V_cV5 (pc := 180) ca_8_61 e_L_acts_180 (by decide) (Nat.le_of_ble_eq_true rfl) (by decide) rfl (by decide) (a_job hC hB (by omega) (by omega) (by omega) (by omega) (by omega) (fun v S rf hv hC => ?_) (fun v S r rf hv hC => ?_))
            · refine V_ret (pc := 183) (v := some (zI _)) ⟨e_L_acts_183, _, rfl, rfl⟩ ?_
              first | exact k1 _ _ _ hv hC | exact k2 _ _ _ _ hv hC
            · refine V_ret (pc := 183) (v := some (zI _)) ⟨e_L_acts_183, _, rfl, rfl⟩ ?_
              first | exact k1 _ _ _ hv hC | exact k2 _ _ _ _ hv hC
      · refine V_iconst (pc := 107) e_L_acts_107 ?_
        refine V_iload_n (pc := 108) e_L_acts_108 rfl ?_
        refine V_iconst (pc := 109) e_L_acts_109 ?_
        refine V_idiv (pc := 110) e_L_acts_110 (by omega) (by decide) ?_
        refine V_iconst (pc := 111) e_L_acts_111 ?_
        refine V_irem (pc := 112) e_L_acts_112 (by omega) (by decide) ?_
        refine V_iadd (pc := 113) e_L_acts_113 ?_
        refine V_goto (pc := 114) e_L_acts_114 (by decide) ?_
        refine V_iconst (pc := 125) e_L_acts_125 ?_
        refine V_iload_n (pc := 126) e_L_acts_126 rfl ?_
        refine V_bipush (pc := 127) (by decide) e_L_acts_127 ?_
        refine V_idiv (pc := 129) e_L_acts_129 (by omega) (by decide) ?_
        refine V_iconst (pc := 130) e_L_acts_130 ?_
        refine V_irem (pc := 131) e_L_acts_131 (by omega) (by decide) ?_
        refine V_iadd (pc := 132) e_L_acts_132 ?_
        refine V_iload_n (pc := 133) e_L_acts_133 rfl ?_
        refine V_sipush (pc := 134) (by decide) e_L_acts_134 ?_
        refine V_idiv (pc := 137) e_L_acts_137 (by omega) (by decide) ?_
        refine V_iconst (pc := 138) e_L_acts_138 ?_
        refine V_irem (pc := 139) e_L_acts_139 (by omega) (by decide) ?_
        refine V_if_ne (pc := 140) e_L_acts_140 (by decide) (by omega) (fun h140 => ?_) (fun h140 => ?_)
        · refine V_iconst (pc := 153) e_L_acts_153 ?_
          refine V_iload_n (pc := 154) e_L_acts_154 rfl ?_
          refine V_bipush (pc := 155) (by decide) e_L_acts_155 ?_
          refine V_idiv (pc := 157) e_L_acts_157 (by omega) (by decide) ?_
          refine V_iconst (pc := 158) e_L_acts_158 ?_
          refine V_irem (pc := 159) e_L_acts_159 (by omega) (by decide) ?_
          refine V_if_ne (pc := 160) e_L_acts_160 (by decide) (by omega) (fun h160 => ?_) (fun h160 => ?_)
          · refine V_iconst (pc := 172) e_L_acts_172 ?_
            refine V_iload_n (pc := 173) e_L_acts_173 rfl ?_
            refine V_bipush (pc := 174) (by decide) e_L_acts_174 ?_
            refine V_idiv (pc := 176) e_L_acts_176 (by omega) (by decide) ?_
            refine V_bipush (pc := 177) (by decide) e_L_acts_177 ?_
            refine V_irem (pc := 179) e_L_acts_179 (by omega) (by decide) ?_
            refine V_cV5 (pc := 180) ca_8_61 e_L_acts_180 (by decide) (Nat.le_of_ble_eq_true rfl) (by decide) rfl (by decide) (a_job hC hB (by omega) (by omega) (by decide) (by decide) (by omega) (fun v S rf hv hC => ?_) (fun v S r rf hv hC => ?_))
            · refine V_ret (pc := 183) (v := some (zI _)) ⟨e_L_acts_183, _, rfl, rfl⟩ ?_
              first | exact k1 _ _ _ hv hC | exact k2 _ _ _ _ hv hC
            · refine V_ret (pc := 183) (v := some (zI _)) ⟨e_L_acts_183, _, rfl, rfl⟩ ?_
              first | exact k1 _ _ _ hv hC | exact k2 _ _ _ _ hv hC
          · refine V_iload_n (pc := 163) e_L_acts_163 rfl ?_
            refine V_bipush (pc := 164) (by decide) e_L_acts_164 ?_
            refine V_idiv (pc := 166) e_L_acts_166 (by omega) (by decide) ?_
            refine V_iconst (pc := 167) e_L_acts_167 ?_
            refine V_irem (pc := 168) e_L_acts_168 (by omega) (by decide) ?_
            refine V_goto (pc := 169) e_L_acts_169 (by decide) ?_
            refine V_iload_n (pc := 173) e_L_acts_173 rfl ?_
            refine V_bipush (pc := 174) (by decide) e_L_acts_174 ?_
            refine V_idiv (pc := 176) e_L_acts_176 (by omega) (by decide) ?_
            refine V_bipush (pc := 177) (by decide) e_L_acts_177 ?_
            refine V_irem (pc := 179) e_L_acts_179 (by omega) (by decide) ?_
            refine V_cV5 (pc := 180) ca_8_61 e_L_acts_180 (by decide) (Nat.le_of_ble_eq_true rfl) (by decide) rfl (by decide) (a_job hC hB (by omega) (by omega) (by decide) (by omega) (by omega) (fun v S rf hv hC => ?_) (fun v S r rf hv hC => ?_))
            · refine V_ret (pc := 183) (v := some (zI _)) ⟨e_L_acts_183, _, rfl, rfl⟩ ?_
              first | exact k1 _ _ _ hv hC | exact k2 _ _ _ _ hv hC
            · refine V_ret (pc := 183) (v := some (zI _)) ⟨e_L_acts_183, _, rfl, rfl⟩ ?_
              first | exact k1 _ _ _ hv hC | exact k2 _ _ _ _ hv hC
        · refine V_iload_n (pc := 143) e_L_acts_143 rfl ?_
          refine V_sipush (pc := 144) (by decide) e_L_acts_144 ?_
          refine V_idiv (pc := 147) e_L_acts_147 (by omega) (by decide) ?_
          refine V_iconst (pc := 148) e_L_acts_148 ?_
          refine V_irem (pc := 149) e_L_acts_149 (by omega) (by decide) ?_
          refine V_goto (pc := 150) e_L_acts_150 (by decide) ?_
          refine V_iload_n (pc := 154) e_L_acts_154 rfl ?_
          refine V_bipush (pc := 155) (by decide) e_L_acts_155 ?_
          refine V_idiv (pc := 157) e_L_acts_157 (by omega) (by decide) ?_
          refine V_iconst (pc := 158) e_L_acts_158 ?_
          refine V_irem (pc := 159) e_L_acts_159 (by omega) (by decide) ?_
          refine V_if_ne (pc := 160) e_L_acts_160 (by decide) (by omega) (fun h160 => ?_) (fun h160 => ?_)
          · refine V_iconst (pc := 172) e_L_acts_172 ?_
            refine V_iload_n (pc := 173) e_L_acts_173 rfl ?_
            refine V_bipush (pc := 174) (by decide) e_L_acts_174 ?_
            refine V_idiv (pc := 176) e_L_acts_176 (by omega) (by decide) ?_
            refine V_bipush (pc := 177) (by decide) e_L_acts_177 ?_
            refine V_irem (pc := 179) e_L_acts_179 (by omega) (by decide) ?_
            refine V_cV5 (pc := 180) ca_8_61 e_L_acts_180 (by decide) (Nat.le_of_ble_eq_true rfl) (by decide) rfl (by decide) (a_job hC hB (by omega) (by omega) (by omega) (by decide) (by omega) (fun v S rf hv hC => ?_) (fun v S r rf hv hC => ?_))
            · refine V_ret (pc := 183) (v := some (zI _)) ⟨e_L_acts_183, _, rfl, rfl⟩ ?_
              first | exact k1 _ _ _ hv hC | exact k2 _ _ _ _ hv hC
            · refine V_ret (pc := 183) (v := some (zI _)) ⟨e_L_acts_183, _, rfl, rfl⟩ ?_
              first | exact k1 _ _ _ hv hC | exact k2 _ _ _ _ hv hC
          · refine V_iload_n (pc := 163) e_L_acts_163 rfl ?_
            refine V_bipush (pc := 164) (by decide) e_L_acts_164 ?_
            refine V_idiv (pc := 166) e_L_acts_166 (by omega) (by decide) ?_
            refine V_iconst (pc := 167) e_L_acts_167 ?_
            refine V_irem (pc := 168) e_L_acts_168 (by omega) (by decide) ?_
            refine V_goto (pc := 169) e_L_acts_169 (by decide) ?_
            refine V_iload_n (pc := 173) e_L_acts_173 rfl ?_
            refine V_bipush (pc := 174) (by decide) e_L_acts_174 ?_
            refine V_idiv (pc := 176) e_L_acts_176 (by omega) (by decide) ?_
            refine V_bipush (pc := 177) (by decide) e_L_acts_177 ?_
            refine V_irem (pc := 179) e_L_acts_179 (by omega) (by decide) ?_
            refine V_cV5 (pc := 180) ca_8_61 e_L_acts_180 (by decide) (Nat.le_of_ble_eq_true rfl) (by decide) rfl (by decide) (a_job hC hB (by omega) (by omega) (by omega) (by omega) (by omega) (fun v S rf hv hC => ?_) (fun v S r rf hv hC => ?_))
            · refine V_ret (pc := 183) (v := some (zI _)) ⟨e_L_acts_183, _, rfl, rfl⟩ ?_
              first | exact k1 _ _ _ hv hC | exact k2 _ _ _ _ hv hC
            · refine V_ret (pc := 183) (v := some (zI _)) ⟨e_L_acts_183, _, rfl, rfl⟩ ?_
              first | exact k1 _ _ _ hv hC | exact k2 _ _ _ _ hv hC
    | 2, ho =>
      obtain rfl := Option.some.inj ho
      refine V_aload_n (pc := 100) e_L_acts_100 rfl (Or.inl ⟨_, rfl⟩) ?_
      refine V_iload_n (pc := 101) e_L_acts_101 rfl ?_
      refine V_iconst (pc := 102) e_L_acts_102 ?_
      refine V_irem (pc := 103) e_L_acts_103 (by omega) (by decide) ?_
      refine V_if_ne (pc := 104) e_L_acts_104 (by decide) (by omega) (fun h104 => ?_) (fun h104 => ?_)
      · refine V_iconst (pc := 117) e_L_acts_117 ?_
        refine V_iload_n (pc := 118) e_L_acts_118 rfl ?_
        refine V_iconst (pc := 119) e_L_acts_119 ?_
        refine V_idiv (pc := 120) e_L_acts_120 (by omega) (by decide) ?_
        refine V_bipush (pc := 121) (by decide) e_L_acts_121 ?_
        refine V_irem (pc := 123) e_L_acts_123 (by omega) (by decide) ?_
        refine V_iadd (pc := 124) e_L_acts_124 ?_
        refine V_iconst (pc := 125) e_L_acts_125 ?_
        refine V_iload_n (pc := 126) e_L_acts_126 rfl ?_
        refine V_bipush (pc := 127) (by decide) e_L_acts_127 ?_
        refine V_idiv (pc := 129) e_L_acts_129 (by omega) (by decide) ?_
        refine V_iconst (pc := 130) e_L_acts_130 ?_
        refine V_irem (pc := 131) e_L_acts_131 (by omega) (by decide) ?_
        refine V_iadd (pc := 132) e_L_acts_132 ?_
        refine V_iload_n (pc := 133) e_L_acts_133 rfl ?_
        refine V_sipush (pc := 134) (by decide) e_L_acts_134 ?_
        refine V_idiv (pc := 137) e_L_acts_137 (by omega) (by decide) ?_
        refine V_iconst (pc := 138) e_L_acts_138 ?_
        refine V_irem (pc := 139) e_L_acts_139 (by omega) (by decide) ?_
        refine V_if_ne (pc := 140) e_L_acts_140 (by decide) (by omega) (fun h140 => ?_) (fun h140 => ?_)
        · refine V_iconst (pc := 153) e_L_acts_153 ?_
          refine V_iload_n (pc := 154) e_L_acts_154 rfl ?_
          refine V_bipush (pc := 155) (by decide) e_L_acts_155 ?_
          refine V_idiv (pc := 157) e_L_acts_157 (by omega) (by decide) ?_
          refine V_iconst (pc := 158) e_L_acts_158 ?_
          refine V_irem (pc := 159) e_L_acts_159 (by omega) (by decide) ?_
          refine V_if_ne (pc := 160) e_L_acts_160 (by decide) (by omega) (fun h160 => ?_) (fun h160 => ?_)
          · refine V_iconst (pc := 172) e_L_acts_172 ?_
            refine V_iload_n (pc := 173) e_L_acts_173 rfl ?_
            refine V_bipush (pc := 174) (by decide) e_L_acts_174 ?_
            refine V_idiv (pc := 176) e_L_acts_176 (by omega) (by decide) ?_
            refine V_bipush (pc := 177) (by decide) e_L_acts_177 ?_
            refine V_irem (pc := 179) e_L_acts_179 (by omega) (by decide) ?_
            refine V_cV5 (pc := 180) ca_8_61 e_L_acts_180 (by decide) (Nat.le_of_ble_eq_true rfl) (by decide) rfl (by decide) (a_job hC hB (by omega) (by omega) (by decide) (by decide) (by omega) (fun v S rf hv hC => ?_) (fun v S r rf hv hC => ?_))
            · refine V_ret (pc := 183) (v := some (zI _)) ⟨e_L_acts_183, _, rfl, rfl⟩ ?_
              first | exact k1 _ _ _ hv hC | exact k2 _ _ _ _ hv hC
            · refine V_ret (pc := 183) (v := some (zI _)) ⟨e_L_acts_183, _, rfl, rfl⟩ ?_
              first | exact k1 _ _ _ hv hC | exact k2 _ _ _ _ hv hC
          · refine V_iload_n (pc := 163) e_L_acts_163 rfl ?_
            refine V_bipush (pc := 164) (by decide) e_L_acts_164 ?_
            refine V_idiv (pc := 166) e_L_acts_166 (by omega) (by decide) ?_
            refine V_iconst (pc := 167) e_L_acts_167 ?_
            refine V_irem (pc := 168) e_L_acts_168 (by omega) (by decide) ?_
            refine V_goto (pc := 169) e_L_acts_169 (by decide) ?_
            refine V_iload_n (pc := 173) e_L_acts_173 rfl ?_
            refine V_bipush (pc := 174) (by decide) e_L_acts_174 ?_
            refine V_idiv (pc := 176) e_L_acts_176 (by omega) (by decide) ?_
            refine V_bipush (pc := 177) (by decide) e_L_acts_177 ?_
            refine V_irem (pc := 179) e_L_acts_179 (by omega) (by decide) ?_
            refine V_cV5 (pc := 180) ca_8_61 e_L_acts_180 (by decide) (Nat.le_of_ble_eq_true rfl) (by decide) rfl (by decide) (a_job hC hB (by omega) (by omega) (by decide) (by omega) (by omega) (fun v S rf hv hC => ?_) (fun v S r rf hv hC => ?_))
            · refine V_ret (pc := 183) (v := some (zI _)) ⟨e_L_acts_183, _, rfl, rfl⟩ ?_
              first | exact k1 _ _ _ hv hC | exact k2 _ _ _ _ hv hC
            · refine V_ret (pc := 183) (v := some (zI _)) ⟨e_L_acts_183, _, rfl, rfl⟩ ?_
              first | exact k1 _ _ _ hv hC | exact k2 _ _ _ _ hv hC
        · refine V_iload_n (pc := 143) e_L_acts_143 rfl ?_
          refine V_sipush (pc := 144) (by decide) e_L_acts_144 ?_
          refine V_idiv (pc := 147) e_L_acts_147 (by omega) (by decide) ?_
          refine V_iconst (pc := 148) e_L_acts_148 ?_
          refine V_irem (pc := 149) e_L_acts_149 (by omega) (by decide) ?_
          refine V_goto (pc := 150) e_L_acts_150 (by decide) ?_
          refine V_iload_n (pc := 154) e_L_acts_154 rfl ?_
          refine V_bipush (pc := 155) (by decide) e_L_acts_155 ?_
          refine V_idiv (pc := 157) e_L_acts_157 (by omega) (by decide) ?_
          refine V_iconst (pc := 158) e_L_acts_158 ?_
          refine V_irem (pc := 159) e_L_acts_159 (by omega) (by decide) ?_
          refine V_if_ne (pc := 160) e_L_acts_160 (by decide) (by omega) (fun h160 => ?_) (fun h160 => ?_)
          · refine V_iconst (pc := 172) e_L_acts_172 ?_
            refine V_iload_n (pc := 173) e_L_acts_173 rfl ?_
            refine V_bipush (pc := 174) (by decide) e_L_acts_174 ?_
            refine V_idiv (pc := 176) e_L_acts_176 (by omega) (by decide) ?_
            refine V_bipush (pc := 177) (by decide) e_L_acts_177 ?_
            refine V_irem (pc := 179) e_L_acts_179 (by omega) (by decide) ?_
            refine V_cV5 (pc := 180) ca_8_61 e_L_acts_180 (by decide) (Nat.le_of_ble_eq_true rfl) (by decide) rfl (by decide) (a_job hC hB (by omega) (by omega) (by omega) (by decide) (by omega) (fun v S rf hv hC => ?_) (fun v S r rf hv hC => ?_))
            · refine V_ret (pc := 183) (v := some (zI _)) ⟨e_L_acts_183, _, rfl, rfl⟩ ?_
              first | exact k1 _ _ _ hv hC | exact k2 _ _ _ _ hv hC
            · refine V_ret (pc := 183) (v := some (zI _)) ⟨e_L_acts_183, _, rfl, rfl⟩ ?_
              first | exact k1 _ _ _ hv hC | exact k2 _ _ _ _ hv hC
          · refine V_iload_n (pc := 163) e_L_acts_163 rfl ?_
            refine V_bipush (pc := 164) (by decide) e_L_acts_164 ?_
            refine V_idiv (pc := 166) e_L_acts_166 (by omega) (by decide) ?_
            refine V_iconst (pc := 167) e_L_acts_167 ?_
            refine V_irem (pc := 168) e_L_acts_168 (by omega) (by decide) ?_
            refine V_goto (pc := 169) e_L_acts_169 (by decide) ?_
            refine V_iload_n (pc := 173) e_L_acts_173 rfl ?_
            refine V_bipush (pc := 174) (by decide) e_L_acts_174 ?_
            refine V_idiv (pc := 176) e_L_acts_176 (by omega) (by decide) ?_
            refine V_bipush (pc := 177) (by decide) e_L_acts_177 ?_
            refine V_irem (pc := 179) e_L_acts_179 (by omega) (by decide) ?_
            refine V_cV5 (pc := 180) ca_8_61 e_L_acts_180 (by decide) (Nat.le_of_ble_eq_true rfl) (by decide) rfl (by decide) (a_job hC hB (by omega) (by omega) (by omega) (by omega) (by omega) (fun v S rf hv hC => ?_) (fun v S r rf hv hC => ?_))
            · refine V_ret (pc := 183) (v := some (zI _)) ⟨e_L_acts_183, _, rfl, rfl⟩ ?_
              first | exact k1 _ _ _ hv hC | exact k2 _ _ _ _ hv hC
            · refine V_ret (pc := 183) (v := some (zI _)) ⟨e_L_acts_183, _, rfl, rfl⟩ ?_
              first | exact k1 _ _ _ hv hC | exact k2 _ _ _ _ hv hC
      · refine V_iconst (pc := 107) e_L_acts_107 ?_
        refine V_iload_n (pc := 108) e_L_acts_108 rfl ?_
        refine V_iconst (pc := 109) e_L_acts_109 ?_
        refine V_idiv (pc := 110) e_L_acts_110 (by omega) (by decide) ?_
        refine V_iconst (pc := 111) e_L_acts_111 ?_
        refine V_irem (pc := 112) e_L_acts_112 (by omega) (by decide) ?_
        refine V_iadd (pc := 113) e_L_acts_113 ?_
        refine V_goto (pc := 114) e_L_acts_114 (by decide) ?_
        refine V_iconst (pc := 125) e_L_acts_125 ?_
        refine V_iload_n (pc := 126) e_L_acts_126 rfl ?_
        refine V_bipush (pc := 127) (by decide) e_L_acts_127 ?_
        refine V_idiv (pc := 129) e_L_acts_129 (by omega) (by decide) ?_
        refine V_iconst (pc := 130) e_L_acts_130 ?_
        refine V_irem (pc := 131) e_L_acts_131 (by omega) (by decide) ?_
        refine V_iadd (pc := 132) e_L_acts_132 ?_
        refine V_iload_n (pc := 133) e_L_acts_133 rfl ?_
        refine V_sipush (pc := 134) (by decide) e_L_acts_134 ?_
        refine V_idiv (pc := 137) e_L_acts_137 (by omega) (by decide) ?_
        refine V_iconst (pc := 138) e_L_acts_138 ?_
        refine V_irem (pc := 139) e_L_acts_139 (by omega) (by decide) ?_
        refine V_if_ne (pc := 140) e_L_acts_140 (by decide) (by omega) (fun h140 => ?_) (fun h140 => ?_)
        · refine V_iconst (pc := 153) e_L_acts_153 ?_
          refine V_iload_n (pc := 154) e_L_acts_154 rfl ?_
          refine V_bipush (pc := 155) (by decide) e_L_acts_155 ?_
          refine V_idiv (pc := 157) e_L_acts_157 (by omega) (by decide) ?_
          refine V_iconst (pc := 158) e_L_acts_158 ?_
          refine V_irem (pc := 159) e_L_acts_159 (by omega) (by decide) ?_
          refine V_if_ne (pc := 160) e_L_acts_160 (by decide) (by omega) (fun h160 => ?_) (fun h160 => ?_)
          · refine V_iconst (pc := 172) e_L_acts_172 ?_
            refine V_iload_n (pc := 173) e_L_acts_173 rfl ?_
            refine V_bipush (pc := 174) (by decide) e_L_acts_174 ?_
            refine V_idiv (pc := 176) e_L_acts_176 (by omega) (by decide) ?_
            refine V_bipush (pc := 177) (by decide) e_L_acts_177 ?_
            refine V_irem (pc := 179) e_L_acts_179 (by omega) (by decide) ?_
            refine V_cV5 (pc := 180) ca_8_61 e_L_acts_180 (by decide) (Nat.le_of_ble_eq_true rfl) (by decide) rfl (by decide) (a_job hC hB (by omega) (by omega) (by decide) (by decide) (by omega) (fun v S rf hv hC => ?_) (fun v S r rf hv hC => ?_))
            · refine V_ret (pc := 183) (v := some (zI _)) ⟨e_L_acts_183, _, rfl, rfl⟩ ?_
              first | exact k1 _ _ _ hv hC | exact k2 _ _ _ _ hv hC
            · refine V_ret (pc := 183) (v := some (zI _)) ⟨e_L_acts_183, _, rfl, rfl⟩ ?_
              first | exact k1 _ _ _ hv hC | exact k2 _ _ _ _ hv hC
          · refine V_iload_n (pc := 163) e_L_acts_163 rfl ?_
            refine V_bipush (pc := 164) (by decide) e_L_acts_164 ?_
            refine V_idiv (pc := 166) e_L_acts_166 (by omega) (by decide) ?_
            refine V_iconst (pc := 167) e_L_acts_167 ?_
            refine V_irem (pc := 168) e_L_acts_168 (by omega) (by decide) ?_
            refine V_goto (pc := 169) e_L_acts_169 (by decide) ?_
            refine V_iload_n (pc := 173) e_L_acts_173 rfl ?_
            refine V_bipush (pc := 174) (by decide) e_L_acts_174 ?_
            refine V_idiv (pc := 176) e_L_acts_176 (by omega) (by decide) ?_
            refine V_bipush (pc := 177) (by decide) e_L_acts_177 ?_
            refine V_irem (pc := 179) e_L_acts_179 (by omega) (by decide) ?_
            refine V_cV5 (pc := 180) ca_8_61 e_L_acts_180 (by decide) (Nat.le_of_ble_eq_true rfl) (by decide) rfl (by decide) (a_job hC hB (by omega) (by omega) (by decide) (by omega) (by omega) (fun v S rf hv hC => ?_) (fun v S r rf hv hC => ?_))
            · refine V_ret (pc := 183) (v := some (zI _)) ⟨e_L_acts_183, _, rfl, rfl⟩ ?_
              first | exact k1 _ _ _ hv hC | exact k2 _ _ _ _ hv hC
            · refine V_ret (pc := 183) (v := some (zI _)) ⟨e_L_acts_183, _, rfl, rfl⟩ ?_
              first | exact k1 _ _ _ hv hC | exact k2 _ _ _ _ hv hC
        · refine V_iload_n (pc := 143) e_L_acts_143 rfl ?_
          refine V_sipush (pc := 144) (by decide) e_L_acts_144 ?_
          refine V_idiv (pc := 147) e_L_acts_147 (by omega) (by decide) ?_
          refine V_iconst (pc := 148) e_L_acts_148 ?_
          refine V_irem (pc := 149) e_L_acts_149 (by omega) (by decide) ?_
          refine V_goto (pc := 150) e_L_acts_150 (by decide) ?_
          refine V_iload_n (pc := 154) e_L_acts_154 rfl ?_
          refine V_bipush (pc := 155) (by decide) e_L_acts_155 ?_
          refine V_idiv (pc := 157) e_L_acts_157 (by omega) (by decide) ?_
          refine V_iconst (pc := 158) e_L_acts_158 ?_
          refine V_irem (pc := 159) e_L_acts_159 (by omega) (by decide) ?_
          refine V_if_ne (pc := 160) e_L_acts_160 (by decide) (by omega) (fun h160 => ?_) (fun h160 => ?_)
          · refine V_iconst (pc := 172) e_L_acts_172 ?_
            refine V_iload_n (pc := 173) e_L_acts_173 rfl ?_
            refine V_bipush (pc := 174) (by decide) e_L_acts_174 ?_
            refine V_idiv (pc := 176) e_L_acts_176 (by omega) (by decide) ?_
            refine V_bipush (pc := 177) (by decide) e_L_acts_177 ?_
            refine V_irem (pc := 179) e_L_acts_179 (by omega) (by decide) ?_
            refine V_cV5 (pc := 180) ca_8_61 e_L_acts_180 (by decide) (Nat.le_of_ble_eq_true rfl) (by decide) rfl (by decide) (a_job hC hB (by omega) (by omega) (by omega) (by decide) (by omega) (fun v S rf hv hC => ?_) (fun v S r rf hv hC => ?_))
            · refine V_ret (pc := 183) (v := some (zI _)) ⟨e_L_acts_183, _, rfl, rfl⟩ ?_
              first | exact k1 _ _ _ hv hC | exact k2 _ _ _ _ hv hC
            · refine V_ret (pc := 183) (v := some (zI _)) ⟨e_L_acts_183, _, rfl, rfl⟩ ?_
              first | exact k1 _ _ _ hv hC | exact k2 _ _ _ _ hv hC
          · refine V_iload_n (pc := 163) e_L_acts_163 rfl ?_
            refine V_bipush (pc := 164) (by decide) e_L_acts_164 ?_
            refine V_idiv (pc := 166) e_L_acts_166 (by omega) (by decide) ?_
            refine V_iconst (pc := 167) e_L_acts_167 ?_
            refine V_irem (pc := 168) e_L_acts_168 (by omega) (by decide) ?_
            refine V_goto (pc := 169) e_L_acts_169 (by decide) ?_
            refine V_iload_n (pc := 173) e_L_acts_173 rfl ?_
            refine V_bipush (pc := 174) (by decide) e_L_acts_174 ?_
            refine V_idiv (pc := 176) e_L_acts_176 (by omega) (by decide) ?_
            refine V_bipush (pc := 177) (by decide) e_L_acts_177 ?_
            refine V_irem (pc := 179) e_L_acts_179 (by omega) (by decide) ?_
            refine V_cV5 (pc := 180) ca_8_61 e_L_acts_180 (by decide) (Nat.le_of_ble_eq_true rfl) (by decide) rfl (by decide) (a_job hC hB (by omega) (by omega) (by omega) (by omega) (by omega) (fun v S rf hv hC => ?_) (fun v S r rf hv hC => ?_))
            · refine V_ret (pc := 183) (v := some (zI _)) ⟨e_L_acts_183, _, rfl, rfl⟩ ?_
              first | exact k1 _ _ _ hv hC | exact k2 _ _ _ _ hv hC
            · refine V_ret (pc := 183) (v := some (zI _)) ⟨e_L_acts_183, _, rfl, rfl⟩ ?_
              first | exact k1 _ _ _ hv hC | exact k2 _ _ _ _ hv hC
    | 3, ho =>
      obtain rfl := Option.some.inj ho
      refine V_aload_n (pc := 100) e_L_acts_100 rfl (Or.inl ⟨_, rfl⟩) ?_
      refine V_iload_n (pc := 101) e_L_acts_101 rfl ?_
      refine V_iconst (pc := 102) e_L_acts_102 ?_
      refine V_irem (pc := 103) e_L_acts_103 (by omega) (by decide) ?_
      refine V_if_ne (pc := 104) e_L_acts_104 (by decide) (by omega) (fun h104 => ?_) (fun h104 => ?_)
      · refine V_iconst (pc := 117) e_L_acts_117 ?_
        refine V_iload_n (pc := 118) e_L_acts_118 rfl ?_
        refine V_iconst (pc := 119) e_L_acts_119 ?_
        refine V_idiv (pc := 120) e_L_acts_120 (by omega) (by decide) ?_
        refine V_bipush (pc := 121) (by decide) e_L_acts_121 ?_
        refine V_irem (pc := 123) e_L_acts_123 (by omega) (by decide) ?_
        refine V_iadd (pc := 124) e_L_acts_124 ?_
        refine V_iconst (pc := 125) e_L_acts_125 ?_
        refine V_iload_n (pc := 126) e_L_acts_126 rfl ?_
        refine V_bipush (pc := 127) (by decide) e_L_acts_127 ?_
        refine V_idiv (pc := 129) e_L_acts_129 (by omega) (by decide) ?_
        refine V_iconst (pc := 130) e_L_acts_130 ?_
        refine V_irem (pc := 131) e_L_acts_131 (by omega) (by decide) ?_
        refine V_iadd (pc := 132) e_L_acts_132 ?_
        refine V_iload_n (pc := 133) e_L_acts_133 rfl ?_
        refine V_sipush (pc := 134) (by decide) e_L_acts_134 ?_
        refine V_idiv (pc := 137) e_L_acts_137 (by omega) (by decide) ?_
        refine V_iconst (pc := 138) e_L_acts_138 ?_
        refine V_irem (pc := 139) e_L_acts_139 (by omega) (by decide) ?_
        refine V_if_ne (pc := 140) e_L_acts_140 (by decide) (by omega) (fun h140 => ?_) (fun h140 => ?_)
        · refine V_iconst (pc := 153) e_L_acts_153 ?_
          refine V_iload_n (pc := 154) e_L_acts_154 rfl ?_
          refine V_bipush (pc := 155) (by decide) e_L_acts_155 ?_
          refine V_idiv (pc := 157) e_L_acts_157 (by omega) (by decide) ?_
          refine V_iconst (pc := 158) e_L_acts_158 ?_
          refine V_irem (pc := 159) e_L_acts_159 (by omega) (by decide) ?_
          refine V_if_ne (pc := 160) e_L_acts_160 (by decide) (by omega) (fun h160 => ?_) (fun h160 => ?_)
          · refine V_iconst (pc := 172) e_L_acts_172 ?_
            refine V_iload_n (pc := 173) e_L_acts_173 rfl ?_
            refine V_bipush (pc := 174) (by decide) e_L_acts_174 ?_
            refine V_idiv (pc := 176) e_L_acts_176 (by omega) (by decide) ?_
            refine V_bipush (pc := 177) (by decide) e_L_acts_177 ?_
            refine V_irem (pc := 179) e_L_acts_179 (by omega) (by decide) ?_
            refine V_cV5 (pc := 180) ca_8_61 e_L_acts_180 (by decide) (Nat.le_of_ble_eq_true rfl) (by decide) rfl (by decide) (a_job hC hB (by omega) (by omega) (by decide) (by decide) (by omega) (fun v S rf hv hC => ?_) (fun v S r rf hv hC => ?_))
            · refine V_ret (pc := 183) (v := some (zI _)) ⟨e_L_acts_183, _, rfl, rfl⟩ ?_
              first | exact k1 _ _ _ hv hC | exact k2 _ _ _ _ hv hC
            · refine V_ret (pc := 183) (v := some (zI _)) ⟨e_L_acts_183, _, rfl, rfl⟩ ?_
              first | exact k1 _ _ _ hv hC | exact k2 _ _ _ _ hv hC
          · refine V_iload_n (pc := 163) e_L_acts_163 rfl ?_
            refine V_bipush (pc := 164) (by decide) e_L_acts_164 ?_
            refine V_idiv (pc := 166) e_L_acts_166 (by omega) (by decide) ?_
            refine V_iconst (pc := 167) e_L_acts_167 ?_
            refine V_irem (pc := 168) e_L_acts_168 (by omega) (by decide) ?_
            refine V_goto (pc := 169) e_L_acts_169 (by decide) ?_
            refine V_iload_n (pc := 173) e_L_acts_173 rfl ?_
            refine V_bipush (pc := 174) (by decide) e_L_acts_174 ?_
            refine V_idiv (pc := 176) e_L_acts_176 (by omega) (by decide) ?_
            refine V_bipush (pc := 177) (by decide) e_L_acts_177 ?_
            refine V_irem (pc := 179) e_L_acts_179 (by omega) (by decide) ?_
            refine V_cV5 (pc := 180) ca_8_61 e_L_acts_180 (by decide) (Nat.le_of_ble_eq_true rfl) (by decide) rfl (by decide) (a_job hC hB (by omega) (by omega) (by decide) (by omega) (by omega) (fun v S rf hv hC => ?_) (fun v S r rf hv hC => ?_))
            · refine V_ret (pc := 183) (v := some (zI _)) ⟨e_L_acts_183, _, rfl, rfl⟩ ?_
              first | exact k1 _ _ _ hv hC | exact k2 _ _ _ _ hv hC
            · refine V_ret (pc := 183) (v := some (zI _)) ⟨e_L_acts_183, _, rfl, rfl⟩ ?_
              first | exact k1 _ _ _ hv hC | exact k2 _ _ _ _ hv hC
        · refine V_iload_n (pc := 143) e_L_acts_143 rfl ?_
          refine V_sipush (pc := 144) (by decide) e_L_acts_144 ?_
          refine V_idiv (pc := 147) e_L_acts_147 (by omega) (by decide) ?_
          refine V_iconst (pc := 148) e_L_acts_148 ?_
          refine V_irem (pc := 149) e_L_acts_149 (by omega) (by decide) ?_
          refine V_goto (pc := 150) e_L_acts_150 (by decide) ?_
          refine V_iload_n (pc := 154) e_L_acts_154 rfl ?_
          refine V_bipush (pc := 155) (by decide) e_L_acts_155 ?_
          refine V_idiv (pc := 157) e_L_acts_157 (by omega) (by decide) ?_
          refine V_iconst (pc := 158) e_L_acts_158 ?_
          refine V_irem (pc := 159) e_L_acts_159 (by omega) (by decide) ?_
          refine V_if_ne (pc := 160) e_L_acts_160 (by decide) (by omega) (fun h160 => ?_) (fun h160 => ?_)
          · refine V_iconst (pc := 172) e_L_acts_172 ?_
            refine V_iload_n (pc := 173) e_L_acts_173 rfl ?_
            refine V_bipush (pc := 174) (by decide) e_L_acts_174 ?_
            refine V_idiv (pc := 176) e_L_acts_176 (by omega) (by decide) ?_
            refine V_bipush (pc := 177) (by decide) e_L_acts_177 ?_
            refine V_irem (pc := 179) e_L_acts_179 (by omega) (by decide) ?_
            refine V_cV5 (pc := 180) ca_8_61 e_L_acts_180 (by decide) (Nat.le_of_ble_eq_true rfl) (by decide) rfl (by decide) (a_job hC hB (by omega) (by omega) (by omega) (by decide) (by omega) (fun v S rf hv hC => ?_) (fun v S r rf hv hC => ?_))
            · refine V_ret (pc := 183) (v := some (zI _)) ⟨e_L_acts_183, _, rfl, rfl⟩ ?_
              first | exact k1 _ _ _ hv hC | exact k2 _ _ _ _ hv hC
            · refine V_ret (pc := 183) (v := some (zI _)) ⟨e_L_acts_183, _, rfl, rfl⟩ ?_
              first | exact k1 _ _ _ hv hC | exact k2 _ _ _ _ hv hC
          · refine V_iload_n (pc := 163) e_L_acts_163 rfl ?_
            refine V_bipush (pc := 164) (by decide) e_L_acts_164 ?_
            refine V_idiv (pc := 166) e_L_acts_166 (by omega) (by decide) ?_
            refine V_iconst (pc := 167) e_L_acts_167 ?_
            refine V_irem (pc := 168) e_L_acts_168 (by omega) (by decide) ?_
            refine V_goto (pc := 169) e_L_acts_169 (by decide) ?_
            refine V_iload_n (pc := 173) e_L_acts_173 rfl ?_
            refine V_bipush (pc := 174) (by decide) e_L_acts_174 ?_
            refine V_idiv (pc := 176) e_L_acts_176 (by omega) (by decide) ?_
            refine V_bipush (pc := 177) (by decide) e_L_acts_177 ?_
            refine V_irem (pc := 179) e_L_acts_179 (by omega) (by decide) ?_
            refine V_cV5 (pc := 180) ca_8_61 e_L_acts_180 (by decide) (Nat.le_of_ble_eq_true rfl) (by decide) rfl (by decide) (a_job hC hB (by omega) (by omega) (by omega) (by omega) (by omega) (fun v S rf hv hC => ?_) (fun v S r rf hv hC => ?_))
            · refine V_ret (pc := 183) (v := some (zI _)) ⟨e_L_acts_183, _, rfl, rfl⟩ ?_
              first | exact k1 _ _ _ hv hC | exact k2 _ _ _ _ hv hC
            · refine V_ret (pc := 183) (v := some (zI _)) ⟨e_L_acts_183, _, rfl, rfl⟩ ?_
              first | exact k1 _ _ _ hv hC | exact k2 _ _ _ _ hv hC
      · refine V_iconst (pc := 107) e_L_acts_107 ?_
        refine V_iload_n (pc := 108) e_L_acts_108 rfl ?_
        refine V_iconst (pc := 109) e_L_acts_109 ?_
        refine V_idiv (pc := 110) e_L_acts_110 (by omega) (by decide) ?_
        refine V_iconst (pc := 111) e_L_acts_111 ?_
        refine V_irem (pc := 112) e_L_acts_112 (by omega) (by decide) ?_
        refine V_iadd (pc := 113) e_L_acts_113 ?_
        refine V_goto (pc := 114) e_L_acts_114 (by decide) ?_
        refine V_iconst (pc := 125) e_L_acts_125 ?_
        refine V_iload_n (pc := 126) e_L_acts_126 rfl ?_
        refine V_bipush (pc := 127) (by decide) e_L_acts_127 ?_
        refine V_idiv (pc := 129) e_L_acts_129 (by omega) (by decide) ?_
        refine V_iconst (pc := 130) e_L_acts_130 ?_
        refine V_irem (pc := 131) e_L_acts_131 (by omega) (by decide) ?_
        refine V_iadd (pc := 132) e_L_acts_132 ?_
        refine V_iload_n (pc := 133) e_L_acts_133 rfl ?_
        refine V_sipush (pc := 134) (by decide) e_L_acts_134 ?_
        refine V_idiv (pc := 137) e_L_acts_137 (by omega) (by decide) ?_
        refine V_iconst (pc := 138) e_L_acts_138 ?_
        refine V_irem (pc := 139) e_L_acts_139 (by omega) (by decide) ?_
        refine V_if_ne (pc := 140) e_L_acts_140 (by decide) (by omega) (fun h140 => ?_) (fun h140 => ?_)
        · refine V_iconst (pc := 153) e_L_acts_153 ?_
          refine V_iload_n (pc := 154) e_L_acts_154 rfl ?_
          refine V_bipush (pc := 155) (by decide) e_L_acts_155 ?_
          refine V_idiv (pc := 157) e_L_acts_157 (by omega) (by decide) ?_
          refine V_iconst (pc := 158) e_L_acts_158 ?_
          refine V_irem (pc := 159) e_L_acts_159 (by omega) (by decide) ?_
          refine V_if_ne (pc := 160) e_L_acts_160 (by decide) (by omega) (fun h160 => ?_) (fun h160 => ?_)
          · refine V_iconst (pc := 172) e_L_acts_172 ?_
            refine V_iload_n (pc := 173) e_L_acts_173 rfl ?_
            refine V_bipush (pc := 174) (by decide) e_L_acts_174 ?_
            refine V_idiv (pc := 176) e_L_acts_176 (by omega) (by decide) ?_
            refine V_bipush (pc := 177) (by decide) e_L_acts_177 ?_
            refine V_irem (pc := 179) e_L_acts_179 (by omega) (by decide) ?_
            refine V_cV5 (pc := 180) ca_8_61 e_L_acts_180 (by decide) (Nat.le_of_ble_eq_true rfl) (by decide) rfl (by decide) (a_job hC hB (by omega) (by omega) (by decide) (by decide) (by omega) (fun v S rf hv hC => ?_) (fun v S r rf hv hC => ?_))
            · refine V_ret (pc := 183) (v := some (zI _)) ⟨e_L_acts_183, _, rfl, rfl⟩ ?_
              first | exact k1 _ _ _ hv hC | exact k2 _ _ _ _ hv hC
            · refine V_ret (pc := 183) (v := some (zI _)) ⟨e_L_acts_183, _, rfl, rfl⟩ ?_
              first | exact k1 _ _ _ hv hC | exact k2 _ _ _ _ hv hC
          · refine V_iload_n (pc := 163) e_L_acts_163 rfl ?_
            refine V_bipush (pc := 164) (by decide) e_L_acts_164 ?_
            refine V_idiv (pc := 166) e_L_acts_166 (by omega) (by decide) ?_
            refine V_iconst (pc := 167) e_L_acts_167 ?_
            refine V_irem (pc := 168) e_L_acts_168 (by omega) (by decide) ?_
            refine V_goto (pc := 169) e_L_acts_169 (by decide) ?_
            refine V_iload_n (pc := 173) e_L_acts_173 rfl ?_
            refine V_bipush (pc := 174) (by decide) e_L_acts_174 ?_
            refine V_idiv (pc := 176) e_L_acts_176 (by omega) (by decide) ?_
            refine V_bipush (pc := 177) (by decide) e_L_acts_177 ?_
            refine V_irem (pc := 179) e_L_acts_179 (by omega) (by decide) ?_
            refine V_cV5 (pc := 180) ca_8_61 e_L_acts_180 (by decide) (Nat.le_of_ble_eq_true rfl) (by decide) rfl (by decide) (a_job hC hB (by omega) (by omega) (by decide) (by omega) (by omega) (fun v S rf hv hC => ?_) (fun v S r rf hv hC => ?_))
            · refine V_ret (pc := 183) (v := some (zI _)) ⟨e_L_acts_183, _, rfl, rfl⟩ ?_
              first | exact k1 _ _ _ hv hC | exact k2 _ _ _ _ hv hC
            · refine V_ret (pc := 183) (v := some (zI _)) ⟨e_L_acts_183, _, rfl, rfl⟩ ?_
              first | exact k1 _ _ _ hv hC | exact k2 _ _ _ _ hv hC
        · refine V_iload_n (pc := 143) e_L_acts_143 rfl ?_
          refine V_sipush (pc := 144) (by decide) e_L_acts_144 ?_
          refine V_idiv (pc := 147) e_L_acts_147 (by omega) (by decide) ?_
          refine V_iconst (pc := 148) e_L_acts_148 ?_
          refine V_irem (pc := 149) e_L_acts_149 (by omega) (by decide) ?_
          refine V_goto (pc := 150) e_L_acts_150 (by decide) ?_
          refine V_iload_n (pc := 154) e_L_acts_154 rfl ?_
          refine V_bipush (pc := 155) (by decide) e_L_acts_155 ?_
          refine V_idiv (pc := 157) e_L_acts_157 (by omega) (by decide) ?_
          refine V_iconst (pc := 158) e_L_acts_158 ?_
          refine V_irem (pc := 159) e_L_acts_159 (by omega) (by decide) ?_
          refine V_if_ne (pc := 160) e_L_acts_160 (by decide) (by omega) (fun h160 => ?_) (fun h160 => ?_)
          · refine V_iconst (pc := 172) e_L_acts_172 ?_
            refine V_iload_n (pc := 173) e_L_acts_173 rfl ?_
            refine V_bipush (pc := 174) (by decide) e_L_acts_174 ?_
            refine V_idiv (pc := 176) e_L_acts_176 (by omega) (by decide) ?_
            refine V_bipush (pc := 177) (by decide) e_L_acts_177 ?_
            refine V_irem (pc := 179) e_L_acts_179 (by omega) (by decide) ?_
            refine V_cV5 (pc := 180) ca_8_61 e_L_acts_180 (by decide) (Nat.le_of_ble_eq_true rfl) (by decide) rfl (by decide) (a_job hC hB (by omega) (by omega) (by omega) (by decide) (by omega) (fun v S rf hv hC => ?_) (fun v S r rf hv hC => ?_))
            · refine V_ret (pc := 183) (v := some (zI _)) ⟨e_L_acts_183, _, rfl, rfl⟩ ?_
              first | exact k1 _ _ _ hv hC | exact k2 _ _ _ _ hv hC
            · refine V_ret (pc := 183) (v := some (zI _)) ⟨e_L_acts_183, _, rfl, rfl⟩ ?_
              first | exact k1 _ _ _ hv hC | exact k2 _ _ _ _ hv hC
          · refine V_iload_n (pc := 163) e_L_acts_163 rfl ?_
            refine V_bipush (pc := 164) (by decide) e_L_acts_164 ?_
            refine V_idiv (pc := 166) e_L_acts_166 (by omega) (by decide) ?_
            refine V_iconst (pc := 167) e_L_acts_167 ?_
            refine V_irem (pc := 168) e_L_acts_168 (by omega) (by decide) ?_
            refine V_goto (pc := 169) e_L_acts_169 (by decide) ?_
            refine V_iload_n (pc := 173) e_L_acts_173 rfl ?_
            refine V_bipush (pc := 174) (by decide) e_L_acts_174 ?_
            refine V_idiv (pc := 176) e_L_acts_176 (by omega) (by decide) ?_
            refine V_bipush (pc := 177) (by decide) e_L_acts_177 ?_
            refine V_irem (pc := 179) e_L_acts_179 (by omega) (by decide) ?_
            refine V_cV5 (pc := 180) ca_8_61 e_L_acts_180 (by decide) (Nat.le_of_ble_eq_true rfl) (by decide) rfl (by decide) (a_job hC hB (by omega) (by omega) (by omega) (by omega) (by omega) (fun v S rf hv hC => ?_) (fun v S r rf hv hC => ?_))
            · refine V_ret (pc := 183) (v := some (zI _)) ⟨e_L_acts_183, _, rfl, rfl⟩ ?_
              first | exact k1 _ _ _ hv hC | exact k2 _ _ _ _ hv hC
            · refine V_ret (pc := 183) (v := some (zI _)) ⟨e_L_acts_183, _, rfl, rfl⟩ ?_
              first | exact k1 _ _ _ hv hC | exact k2 _ _ _ _ hv hC
    | 4, ho =>
      obtain rfl := Option.some.inj ho
      refine V_aload_n (pc := 184) e_L_acts_184 rfl (Or.inl ⟨_, rfl⟩) ?_
      refine V_iload_n (pc := 185) e_L_acts_185 rfl ?_
      refine V_iconst (pc := 186) e_L_acts_186 ?_
      refine V_irem (pc := 187) e_L_acts_187 (by omega) (by decide) ?_
      refine V_iconst (pc := 188) e_L_acts_188 ?_
      refine V_iload_n (pc := 189) e_L_acts_189 rfl ?_
      refine V_iconst (pc := 190) e_L_acts_190 ?_
      refine V_idiv (pc := 191) e_L_acts_191 (by omega) (by decide) ?_
      refine V_bipush (pc := 192) (by decide) e_L_acts_192 ?_
      refine V_irem (pc := 194) e_L_acts_194 (by omega) (by decide) ?_
      refine V_iadd (pc := 195) e_L_acts_195 ?_
      refine V_cV2 (pc := 196) ca_8_48 e_L_acts_196 (by decide) (Nat.le_of_ble_eq_true rfl) (by decide) rfl (by decide) (a_fill hC (by omega) (by omega) (fun v S rf hv hC => ?_) (fun v S r rf hv hC => ?_))
      · refine V_ret (pc := 199) (v := some (zI _)) ⟨e_L_acts_199, _, rfl, rfl⟩ ?_
        first | exact k1 _ _ _ hv hC | exact k2 _ _ _ _ hv hC
      · refine V_ret (pc := 199) (v := some (zI _)) ⟨e_L_acts_199, _, rfl, rfl⟩ ?_
        first | exact k1 _ _ _ hv hC | exact k2 _ _ _ _ hv hC
    | 5, ho =>
      obtain rfl := Option.some.inj ho
      refine V_aload_n (pc := 184) e_L_acts_184 rfl (Or.inl ⟨_, rfl⟩) ?_
      refine V_iload_n (pc := 185) e_L_acts_185 rfl ?_
      refine V_iconst (pc := 186) e_L_acts_186 ?_
      refine V_irem (pc := 187) e_L_acts_187 (by omega) (by decide) ?_
      refine V_iconst (pc := 188) e_L_acts_188 ?_
      refine V_iload_n (pc := 189) e_L_acts_189 rfl ?_
      refine V_iconst (pc := 190) e_L_acts_190 ?_
      refine V_idiv (pc := 191) e_L_acts_191 (by omega) (by decide) ?_
      refine V_bipush (pc := 192) (by decide) e_L_acts_192 ?_
      refine V_irem (pc := 194) e_L_acts_194 (by omega) (by decide) ?_
      refine V_iadd (pc := 195) e_L_acts_195 ?_
      refine V_cV2 (pc := 196) ca_8_48 e_L_acts_196 (by decide) (Nat.le_of_ble_eq_true rfl) (by decide) rfl (by decide) (a_fill hC (by omega) (by omega) (fun v S rf hv hC => ?_) (fun v S r rf hv hC => ?_))
      · refine V_ret (pc := 199) (v := some (zI _)) ⟨e_L_acts_199, _, rfl, rfl⟩ ?_
        first | exact k1 _ _ _ hv hC | exact k2 _ _ _ _ hv hC
      · refine V_ret (pc := 199) (v := some (zI _)) ⟨e_L_acts_199, _, rfl, rfl⟩ ?_
        first | exact k1 _ _ _ hv hC | exact k2 _ _ _ _ hv hC
    | 6, ho =>
      obtain rfl := Option.some.inj ho
      refine V_aload_n (pc := 184) e_L_acts_184 rfl (Or.inl ⟨_, rfl⟩) ?_
      refine V_iload_n (pc := 185) e_L_acts_185 rfl ?_
      refine V_iconst (pc := 186) e_L_acts_186 ?_
      refine V_irem (pc := 187) e_L_acts_187 (by omega) (by decide) ?_
      refine V_iconst (pc := 188) e_L_acts_188 ?_
      refine V_iload_n (pc := 189) e_L_acts_189 rfl ?_
      refine V_iconst (pc := 190) e_L_acts_190 ?_
      refine V_idiv (pc := 191) e_L_acts_191 (by omega) (by decide) ?_
      refine V_bipush (pc := 192) (by decide) e_L_acts_192 ?_
      refine V_irem (pc := 194) e_L_acts_194 (by omega) (by decide) ?_
      refine V_iadd (pc := 195) e_L_acts_195 ?_
      refine V_cV2 (pc := 196) ca_8_48 e_L_acts_196 (by decide) (Nat.le_of_ble_eq_true rfl) (by decide) rfl (by decide) (a_fill hC (by omega) (by omega) (fun v S rf hv hC => ?_) (fun v S r rf hv hC => ?_))
      · refine V_ret (pc := 199) (v := some (zI _)) ⟨e_L_acts_199, _, rfl, rfl⟩ ?_
        first | exact k1 _ _ _ hv hC | exact k2 _ _ _ _ hv hC
      · refine V_ret (pc := 199) (v := some (zI _)) ⟨e_L_acts_199, _, rfl, rfl⟩ ?_
        first | exact k1 _ _ _ hv hC | exact k2 _ _ _ _ hv hC
    | 7, ho =>
      obtain rfl := Option.some.inj ho
      refine V_aload_n (pc := 200) e_L_acts_200 rfl (Or.inl ⟨_, rfl⟩) ?_
      refine V_iload_n (pc := 201) e_L_acts_201 rfl ?_
      refine V_iconst (pc := 202) e_L_acts_202 ?_
      refine V_irem (pc := 203) e_L_acts_203 (by omega) (by decide) ?_
      refine V_iload_n (pc := 204) e_L_acts_204 rfl ?_
      refine V_iconst (pc := 205) e_L_acts_205 ?_
      refine V_idiv (pc := 206) e_L_acts_206 (by omega) (by decide) ?_
      refine V_iconst (pc := 207) e_L_acts_207 ?_
      refine V_irem (pc := 208) e_L_acts_208 (by omega) (by decide) ?_
      refine V_if_ne (pc := 209) e_L_acts_209 (by decide) (by omega) (fun h209 => ?_) (fun h209 => ?_)
      · refine V_iconst (pc := 221) e_L_acts_221 ?_
        refine V_iload_n (pc := 222) e_L_acts_222 rfl ?_
        refine V_bipush (pc := 223) (by decide) e_L_acts_223 ?_
        refine V_idiv (pc := 225) e_L_acts_225 (by omega) (by decide) ?_
        refine V_iconst (pc := 226) e_L_acts_226 ?_
        refine V_irem (pc := 227) e_L_acts_227 (by omega) (by decide) ?_
        refine V_if_ne (pc := 228) e_L_acts_228 (by decide) (by omega) (fun h228 => ?_) (fun h228 => ?_)
        · refine V_iconst (pc := 241) e_L_acts_241 ?_
          refine V_cV3 (pc := 242) ca_8_51 e_L_acts_242 (by decide) (Nat.le_of_ble_eq_true rfl) (by decide) rfl (by decide) (a_load hC (by omega) (by decide) (by decide) (fun v S rf hv hC => ?_) (fun v S r rf hv hC => ?_))
          · refine V_ret (pc := 245) (v := some (zI _)) ⟨e_L_acts_245, _, rfl, rfl⟩ ?_
            first | exact k1 _ _ _ hv hC | exact k2 _ _ _ _ hv hC
          · refine V_ret (pc := 245) (v := some (zI _)) ⟨e_L_acts_245, _, rfl, rfl⟩ ?_
            first | exact k1 _ _ _ hv hC | exact k2 _ _ _ _ hv hC
        · refine V_iload_n (pc := 231) e_L_acts_231 rfl ?_
          refine V_sipush (pc := 232) (by decide) e_L_acts_232 ?_
          refine V_idiv (pc := 235) e_L_acts_235 (by omega) (by decide) ?_
          refine V_iconst (pc := 236) e_L_acts_236 ?_
          refine V_irem (pc := 237) e_L_acts_237 (by omega) (by decide) ?_
          refine V_goto (pc := 238) e_L_acts_238 (by decide) ?_
          refine V_cV3 (pc := 242) ca_8_51 e_L_acts_242 (by decide) (Nat.le_of_ble_eq_true rfl) (by decide) rfl (by decide) (a_load hC (by omega) (by decide) (by omega) (fun v S rf hv hC => ?_) (fun v S r rf hv hC => ?_))
          · refine V_ret (pc := 245) (v := some (zI _)) ⟨e_L_acts_245, _, rfl, rfl⟩ ?_
            first | exact k1 _ _ _ hv hC | exact k2 _ _ _ _ hv hC
          · refine V_ret (pc := 245) (v := some (zI _)) ⟨e_L_acts_245, _, rfl, rfl⟩ ?_
            first | exact k1 _ _ _ hv hC | exact k2 _ _ _ _ hv hC
      · refine V_iload_n (pc := 212) e_L_acts_212 rfl ?_
        refine V_bipush (pc := 213) (by decide) e_L_acts_213 ?_
        refine V_idiv (pc := 215) e_L_acts_215 (by omega) (by decide) ?_
        refine V_iconst (pc := 216) e_L_acts_216 ?_
        refine V_irem (pc := 217) e_L_acts_217 (by omega) (by decide) ?_
        refine V_goto (pc := 218) e_L_acts_218 (by decide) ?_
        refine V_iload_n (pc := 222) e_L_acts_222 rfl ?_
        refine V_bipush (pc := 223) (by decide) e_L_acts_223 ?_
        refine V_idiv (pc := 225) e_L_acts_225 (by omega) (by decide) ?_
        refine V_iconst (pc := 226) e_L_acts_226 ?_
        refine V_irem (pc := 227) e_L_acts_227 (by omega) (by decide) ?_
        refine V_if_ne (pc := 228) e_L_acts_228 (by decide) (by omega) (fun h228 => ?_) (fun h228 => ?_)
        · refine V_iconst (pc := 241) e_L_acts_241 ?_
          refine V_cV3 (pc := 242) ca_8_51 e_L_acts_242 (by decide) (Nat.le_of_ble_eq_true rfl) (by decide) rfl (by decide) (a_load hC (by omega) (by omega) (by decide) (fun v S rf hv hC => ?_) (fun v S r rf hv hC => ?_))
          · refine V_ret (pc := 245) (v := some (zI _)) ⟨e_L_acts_245, _, rfl, rfl⟩ ?_
            first | exact k1 _ _ _ hv hC | exact k2 _ _ _ _ hv hC
          · refine V_ret (pc := 245) (v := some (zI _)) ⟨e_L_acts_245, _, rfl, rfl⟩ ?_
            first | exact k1 _ _ _ hv hC | exact k2 _ _ _ _ hv hC
        · refine V_iload_n (pc := 231) e_L_acts_231 rfl ?_
          refine V_sipush (pc := 232) (by decide) e_L_acts_232 ?_
          refine V_idiv (pc := 235) e_L_acts_235 (by omega) (by decide) ?_
          refine V_iconst (pc := 236) e_L_acts_236 ?_
          refine V_irem (pc := 237) e_L_acts_237 (by omega) (by decide) ?_
          refine V_goto (pc := 238) e_L_acts_238 (by decide) ?_
          refine V_cV3 (pc := 242) ca_8_51 e_L_acts_242 (by decide) (Nat.le_of_ble_eq_true rfl) (by decide) rfl (by decide) (a_load hC (by omega) (by omega) (by omega) (fun v S rf hv hC => ?_) (fun v S r rf hv hC => ?_))
          · refine V_ret (pc := 245) (v := some (zI _)) ⟨e_L_acts_245, _, rfl, rfl⟩ ?_
            first | exact k1 _ _ _ hv hC | exact k2 _ _ _ _ hv hC
          · refine V_ret (pc := 245) (v := some (zI _)) ⟨e_L_acts_245, _, rfl, rfl⟩ ?_
            first | exact k1 _ _ _ hv hC | exact k2 _ _ _ _ hv hC
    | 8, ho =>
      obtain rfl := Option.some.inj ho
      refine V_aload_n (pc := 246) e_L_acts_246 rfl (Or.inl ⟨_, rfl⟩) ?_
      refine V_iload (pc := 247) e_L_acts_247 rfl ?_
      refine V_iload_n (pc := 249) e_L_acts_249 rfl ?_
      refine V_bipush (pc := 250) (by decide) e_L_acts_250 ?_
      refine V_idiv (pc := 252) e_L_acts_252 (by omega) (by decide) ?_
      refine V_iconst (pc := 253) e_L_acts_253 ?_
      refine V_irem (pc := 254) e_L_acts_254 (by omega) (by decide) ?_
      refine V_cV2 (pc := 255) ca_8_68 e_L_acts_255 (by decide) (Nat.le_of_ble_eq_true rfl) (by decide) rfl (by decide) (a_hold hC (by omega) (by omega) (fun v S rf hv hC => ?_) (fun v S r rf hv hC => ?_))
      · refine V_ret (pc := 258) (v := some (zI _)) ⟨e_L_acts_258, _, rfl, rfl⟩ ?_
        first | exact k1 _ _ _ hv hC | exact k2 _ _ _ _ hv hC
      · refine V_ret (pc := 258) (v := some (zI _)) ⟨e_L_acts_258, _, rfl, rfl⟩ ?_
        first | exact k1 _ _ _ hv hC | exact k2 _ _ _ _ hv hC
    | 9, ho =>
      obtain rfl := Option.some.inj ho
      refine V_iload_n (pc := 259) e_L_acts_259 rfl ?_
      refine V_bipush (pc := 260) (by decide) e_L_acts_260 ?_
      refine V_idiv (pc := 262) e_L_acts_262 (by omega) (by decide) ?_
      refine V_iconst (pc := 263) e_L_acts_263 ?_
      refine V_irem (pc := 264) e_L_acts_264 (by omega) (by decide) ?_
      refine V_if_ne (pc := 265) e_L_acts_265 (by decide) (by omega) (fun h265 => ?_) (fun h265 => ?_)
      · refine V_aload_n (pc := 277) e_L_acts_277 rfl (Or.inl ⟨_, rfl⟩) ?_
        refine V_iload (pc := 278) e_L_acts_278 rfl ?_
        refine V_iload_n (pc := 280) e_L_acts_280 rfl ?_
        refine V_bipush (pc := 281) (by decide) e_L_acts_281 ?_
        refine V_idiv (pc := 283) e_L_acts_283 (by omega) (by decide) ?_
        refine V_bipush (pc := 284) (by decide) e_L_acts_284 ?_
        refine V_irem (pc := 286) e_L_acts_286 (by omega) (by decide) ?_
        refine V_cV2 (pc := 287) ca_8_74 e_L_acts_287 (by decide) (Nat.le_of_ble_eq_true rfl) (by decide) rfl (by decide) (a_priority hC (by omega) (by omega) (fun v S rf hv hC => ?_) (fun v S r rf hv hC => ?_))
        · refine V_ret (pc := 290) (v := some (zI _)) ⟨e_L_acts_290, _, rfl, rfl⟩ ?_
          first | exact k1 _ _ _ hv hC | exact k2 _ _ _ _ hv hC
        · refine V_ret (pc := 290) (v := some (zI _)) ⟨e_L_acts_290, _, rfl, rfl⟩ ?_
          first | exact k1 _ _ _ hv hC | exact k2 _ _ _ _ hv hC
      · refine V_aload_n (pc := 268) e_L_acts_268 rfl (Or.inl ⟨_, rfl⟩) ?_
        refine V_iload (pc := 269) e_L_acts_269 rfl ?_
        refine V_cV1 (pc := 271) ca_8_71 e_L_acts_271 (by decide) (Nat.le_of_ble_eq_true rfl) (by decide) rfl (by decide) (a_cancel hC (by omega) (fun v S rf hv hC => ?_) (fun v S r rf hv hC => ?_))
        · refine V_goto (pc := 274) e_L_acts_274 (by decide) ?_
          refine V_ret (pc := 290) (v := some (zI _)) ⟨e_L_acts_290, _, rfl, rfl⟩ ?_
          first | exact k1 _ _ _ hv hC | exact k2 _ _ _ _ hv hC
        · refine V_goto (pc := 274) e_L_acts_274 (by decide) ?_
          refine V_ret (pc := 290) (v := some (zI _)) ⟨e_L_acts_290, _, rfl, rfl⟩ ?_
          first | exact k1 _ _ _ hv hC | exact k2 _ _ _ _ hv hC
    | 10, ho =>
      obtain rfl := Option.some.inj ho
      refine V_aload_n (pc := 291) e_L_acts_291 rfl (Or.inl ⟨_, rfl⟩) ?_
      refine V_iload (pc := 292) e_L_acts_292 rfl ?_
      refine V_iload_n (pc := 294) e_L_acts_294 rfl ?_
      refine V_bipush (pc := 295) (by decide) e_L_acts_295 ?_
      refine V_idiv (pc := 297) e_L_acts_297 (by omega) (by decide) ?_
      refine V_bipush (pc := 298) (by decide) e_L_acts_298 ?_
      refine V_irem (pc := 300) e_L_acts_300 (by omega) (by decide) ?_
      refine V_cV2 (pc := 301) ca_8_74 e_L_acts_301 (by decide) (Nat.le_of_ble_eq_true rfl) (by decide) rfl (by decide) (a_priority hC (by omega) (by omega) (fun v S rf hv hC => ?_) (fun v S r rf hv hC => ?_))
      · refine V_ret (pc := 304) (v := some (zI _)) ⟨e_L_acts_304, _, rfl, rfl⟩ ?_
        first | exact k1 _ _ _ hv hC | exact k2 _ _ _ _ hv hC
      · refine V_ret (pc := 304) (v := some (zI _)) ⟨e_L_acts_304, _, rfl, rfl⟩ ?_
        first | exact k1 _ _ _ hv hC | exact k2 _ _ _ _ hv hC
    | 11, ho =>
      obtain rfl := Option.some.inj ho
      refine V_aload_n (pc := 305) e_L_acts_305 rfl (Or.inl ⟨_, rfl⟩) ?_
      refine V_iload_n (pc := 306) e_L_acts_306 rfl ?_
      refine V_bipush (pc := 307) (by decide) e_L_acts_307 ?_
      refine V_irem (pc := 309) e_L_acts_309 (by omega) (by decide) ?_
      refine V_cV1 (pc := 310) ca_8_55 e_L_acts_310 (by decide) (Nat.le_of_ble_eq_true rfl) (by decide) rfl (by decide) (a_staples hC (by omega) (fun v S rf hv hC => ?_) (fun v S r rf hv hC => ?_))
      · refine V_ret (pc := 313) (v := some (zI _)) ⟨e_L_acts_313, _, rfl, rfl⟩ ?_
        first | exact k1 _ _ _ hv hC | exact k2 _ _ _ _ hv hC
      · refine V_ret (pc := 313) (v := some (zI _)) ⟨e_L_acts_313, _, rfl, rfl⟩ ?_
        first | exact k1 _ _ _ hv hC | exact k2 _ _ _ _ hv hC
    | 12, ho =>
      obtain rfl := Option.some.inj ho
      refine V_aload_n (pc := 314) e_L_acts_314 rfl (Or.inl ⟨_, rfl⟩) ?_
      refine V_iload_n (pc := 315) e_L_acts_315 rfl ?_
      refine V_bipush (pc := 316) (by decide) e_L_acts_316 ?_
      refine V_irem (pc := 318) e_L_acts_318 (by omega) (by decide) ?_
      refine V_iload_n (pc := 319) e_L_acts_319 rfl ?_
      refine V_bipush (pc := 320) (by decide) e_L_acts_320 ?_
      refine V_irem (pc := 322) e_L_acts_322 (by omega) (by decide) ?_
      refine V_iconst (pc := 323) e_L_acts_323 ?_
      refine V_icmp_ne (pc := 324) e_L_acts_324 (by decide) (by omega) (by decide) (fun h324 => ?_) (fun h324 => ?_)
      · refine V_iload_n (pc := 339) e_L_acts_339 rfl ?_
        refine V_bipush (pc := 340) (by decide) e_L_acts_340 ?_
        refine V_irem (pc := 342) e_L_acts_342 (by omega) (by decide) ?_
        refine V_iconst (pc := 343) e_L_acts_343 ?_
        refine V_icmp_ne (pc := 344) e_L_acts_344 (by decide) (by omega) (by decide) (fun h344 => ?_) (fun h344 => ?_)
        · refine V_iload_n (pc := 359) e_L_acts_359 rfl ?_
          refine V_bipush (pc := 360) (by decide) e_L_acts_360 ?_
          refine V_irem (pc := 362) e_L_acts_362 (by omega) (by decide) ?_
          refine V_iconst (pc := 363) e_L_acts_363 ?_
          refine V_icmp_ne (pc := 364) e_L_acts_364 (by decide) (by omega) (by decide) (fun h364 => ?_) (fun h364 => ?_)
          · refine V_iload_n (pc := 377) e_L_acts_377 rfl ?_
            refine V_bipush (pc := 378) (by decide) e_L_acts_378 ?_
            refine V_irem (pc := 380) e_L_acts_380 (by omega) (by decide) ?_
            refine V_if_ne (pc := 381) e_L_acts_381 (by decide) (by omega) (fun h381 => ?_) (fun h381 => ?_)
            · refine V_iload_n (pc := 395) e_L_acts_395 rfl ?_
              refine V_bipush (pc := 396) (by decide) e_L_acts_396 ?_
              refine V_idiv (pc := 398) e_L_acts_398 (by omega) (by decide) ?_
              refine V_iconst (pc := 399) e_L_acts_399 ?_
              refine V_irem (pc := 400) e_L_acts_400 (by omega) (by decide) ?_
              refine V_cV2 (pc := 401) ca_8_58 e_L_acts_401 (by decide) (Nat.le_of_ble_eq_true rfl) (by decide) rfl (by decide) (a_set hC (by omega) (by omega) (fun v S rf hv hC => ?_) (fun v S r rf hv hC => ?_))
              · refine V_ret (pc := 404) (v := some (zI _)) ⟨e_L_acts_404, _, rfl, rfl⟩ ?_
                first | exact k1 _ _ _ hv hC | exact k2 _ _ _ _ hv hC
              · refine V_ret (pc := 404) (v := some (zI _)) ⟨e_L_acts_404, _, rfl, rfl⟩ ?_
                first | exact k1 _ _ _ hv hC | exact k2 _ _ _ _ hv hC
            · refine V_iconst (pc := 384) e_L_acts_384 ?_
              refine V_iload_n (pc := 385) e_L_acts_385 rfl ?_
              refine V_bipush (pc := 386) (by decide) e_L_acts_386 ?_
              refine V_idiv (pc := 388) e_L_acts_388 (by omega) (by decide) ?_
              refine V_iconst (pc := 389) e_L_acts_389 ?_
              refine V_irem (pc := 390) e_L_acts_390 (by omega) (by decide) ?_
              refine V_iadd (pc := 391) e_L_acts_391 ?_
              refine V_goto (pc := 392) e_L_acts_392 (by decide) ?_
              refine V_cV2 (pc := 401) ca_8_58 e_L_acts_401 (by decide) (Nat.le_of_ble_eq_true rfl) (by decide) rfl (by decide) (a_set hC (by omega) (by omega) (fun v S rf hv hC => ?_) (fun v S r rf hv hC => ?_))
              · refine V_ret (pc := 404) (v := some (zI _)) ⟨e_L_acts_404, _, rfl, rfl⟩ ?_
                first | exact k1 _ _ _ hv hC | exact k2 _ _ _ _ hv hC
              · refine V_ret (pc := 404) (v := some (zI _)) ⟨e_L_acts_404, _, rfl, rfl⟩ ?_
                first | exact k1 _ _ _ hv hC | exact k2 _ _ _ _ hv hC
          · refine V_iload_n (pc := 367) e_L_acts_367 rfl ?_
            refine V_bipush (pc := 368) (by decide) e_L_acts_368 ?_
            refine V_idiv (pc := 370) e_L_acts_370 (by omega) (by decide) ?_
            refine V_bipush (pc := 371) (by decide) e_L_acts_371 ?_
            refine V_irem (pc := 373) e_L_acts_373 (by omega) (by decide) ?_
            refine V_goto (pc := 374) e_L_acts_374 (by decide) ?_
            refine V_cV2 (pc := 401) ca_8_58 e_L_acts_401 (by decide) (Nat.le_of_ble_eq_true rfl) (by decide) rfl (by decide) (a_set hC (by omega) (by omega) (fun v S rf hv hC => ?_) (fun v S r rf hv hC => ?_))
            · refine V_ret (pc := 404) (v := some (zI _)) ⟨e_L_acts_404, _, rfl, rfl⟩ ?_
              first | exact k1 _ _ _ hv hC | exact k2 _ _ _ _ hv hC
            · refine V_ret (pc := 404) (v := some (zI _)) ⟨e_L_acts_404, _, rfl, rfl⟩ ?_
              first | exact k1 _ _ _ hv hC | exact k2 _ _ _ _ hv hC
        · refine V_iconst (pc := 347) e_L_acts_347 ?_
          refine V_iload_n (pc := 348) e_L_acts_348 rfl ?_
          refine V_bipush (pc := 349) (by decide) e_L_acts_349 ?_
          refine V_idiv (pc := 351) e_L_acts_351 (by omega) (by decide) ?_
          refine V_bipush (pc := 352) (by decide) e_L_acts_352 ?_
          refine V_irem (pc := 354) e_L_acts_354 (by omega) (by decide) ?_
          refine V_iadd (pc := 355) e_L_acts_355 ?_
          refine V_goto (pc := 356) e_L_acts_356 (by decide) ?_
          refine V_cV2 (pc := 401) ca_8_58 e_L_acts_401 (by decide) (Nat.le_of_ble_eq_true rfl) (by decide) rfl (by decide) (a_set hC (by omega) (by omega) (fun v S rf hv hC => ?_) (fun v S r rf hv hC => ?_))
          · refine V_ret (pc := 404) (v := some (zI _)) ⟨e_L_acts_404, _, rfl, rfl⟩ ?_
            first | exact k1 _ _ _ hv hC | exact k2 _ _ _ _ hv hC
          · refine V_ret (pc := 404) (v := some (zI _)) ⟨e_L_acts_404, _, rfl, rfl⟩ ?_
            first | exact k1 _ _ _ hv hC | exact k2 _ _ _ _ hv hC
      · refine V_iconst (pc := 327) e_L_acts_327 ?_
        refine V_iload_n (pc := 328) e_L_acts_328 rfl ?_
        refine V_bipush (pc := 329) (by decide) e_L_acts_329 ?_
        refine V_idiv (pc := 331) e_L_acts_331 (by omega) (by decide) ?_
        refine V_bipush (pc := 332) (by decide) e_L_acts_332 ?_
        refine V_irem (pc := 334) e_L_acts_334 (by omega) (by decide) ?_
        refine V_iadd (pc := 335) e_L_acts_335 ?_
        refine V_goto (pc := 336) e_L_acts_336 (by decide) ?_
        refine V_cV2 (pc := 401) ca_8_58 e_L_acts_401 (by decide) (Nat.le_of_ble_eq_true rfl) (by decide) rfl (by decide) (a_set hC (by omega) (by omega) (fun v S rf hv hC => ?_) (fun v S r rf hv hC => ?_))
        · refine V_ret (pc := 404) (v := some (zI _)) ⟨e_L_acts_404, _, rfl, rfl⟩ ?_
          first | exact k1 _ _ _ hv hC | exact k2 _ _ _ _ hv hC
        · refine V_ret (pc := 404) (v := some (zI _)) ⟨e_L_acts_404, _, rfl, rfl⟩ ?_
          first | exact k1 _ _ _ hv hC | exact k2 _ _ _ _ hv hC
    | 13, ho =>
      obtain rfl := Option.some.inj ho
      refine V_aload_n (pc := 405) e_L_acts_405 rfl (Or.inl ⟨_, rfl⟩) ?_
      refine V_cV0 (pc := 406) ca_8_102 e_L_acts_406 (by decide) (Nat.le_of_ble_eq_true rfl) (by decide) rfl (by decide) (a_emptyBin hC  (fun v S rf hv hC => ?_) (fun v S r rf hv hC => ?_))
      · refine V_ret (pc := 409) (v := some (zI _)) ⟨e_L_acts_409, _, rfl, rfl⟩ ?_
        first | exact k1 _ _ _ hv hC | exact k2 _ _ _ _ hv hC
      · refine V_ret (pc := 409) (v := some (zI _)) ⟨e_L_acts_409, _, rfl, rfl⟩ ?_
        first | exact k1 _ _ _ hv hC | exact k2 _ _ _ _ hv hC
    | j + 14, ho => exact absurd ho (by simp)
theorem c_L_acts {B : Int} {scr : Nat × (Nat → Int32)} {r : Int → Int} {sv : Int} {ρ : Int → Int → Int} {rf : Int} {Q : Option Value → Sto → Prop} (hB : B ≤ 800000) {x y : Int} (hx : -2147483648 ≤ x ∧ x < 2147483648) (hy : 0 ≤ y ∧ y < 1000000) {S : Sto} (hC : CL B scr S r sv ρ rf) (k1 : K1 B scr r sv ρ Q) (k2 : K2 B scr r sv ρ Q) : Con M_L_acts 144 144 S [.ref 0, zI x, zI y] Q := by
  refine V_entry ok_L_acts (Nat.le_refl _) (Nat.le_of_ble_eq_true rfl) (V_ls [(0, .ref 0), (1, zI x), (2, zI y)] ⟨rfl, rfl, rfl, trivial⟩ ?_)
  have fa := (hC.gi.fa (by omega)).1
  refine V_aload_n (pc := 0) e_L_acts_0 rfl (Or.inl ⟨_, rfl⟩) ?_
  refine V_iconst (pc := 1) e_L_acts_1 ?_
  refine V_cV1 (pc := 2) ca_8_13 e_L_acts_2 (by decide) (Nat.le_of_ble_eq_true rfl) (by decide) rfl (by decide) (q_count (x := r 0) hC (by decide) rfl (fun S hC => ?_))
  refine V_istore_n (pc := 5) e_L_acts_5 (by decide) ?_
  refine V_iload_n (pc := 6) e_L_acts_6 rfl ?_
  refine V_if_ne (pc := 7) e_L_acts_7 (by decide) (by omega) (fun h7 => ?_) (fun h7 => ?_)
  · have ym : 0 ≤ y % r 0 ∧ y % r 0 < r 0 := ⟨Int.emod_nonneg y (by omega), Int.emod_lt_of_pos y (by omega)⟩
    have qa := qu_at hC.gi.1 ym
    have jk := (hC.gi.1.jk qa.1).1.2.2.2.2.2.2.2.2.2.2
    refine V_aload_n (pc := 14) e_L_acts_14 rfl (Or.inl ⟨_, rfl⟩) ?_
    refine V_iload_n (pc := 15) e_L_acts_15 rfl ?_
    refine V_iload_n (pc := 16) e_L_acts_16 rfl ?_
    refine V_irem (pc := 17) e_L_acts_17 (by omega) (by omega) ?_
    refine V_cV1 (pc := 18) ca_8_22 e_L_acts_18 (by decide) (Nat.le_of_ble_eq_true rfl) (by decide) rfl (by decide) (q_queuedP (t := y % r 0) hC ym (fun S hC => ?_))
    refine V_istore (pc := 21) e_L_acts_21 (by decide) ?_
    exact V_lq [(0, .ref 0), (1, zI x), (2, zI y), (4, zI (jf r (quP r (y % r 0)) 0))] ⟨⟨_, rfl, rfl⟩, ⟨_, rfl, rfl⟩, ⟨_, rfl, rfl⟩, ⟨_, rfl, rfl⟩, trivial⟩ (t_acts_23 (j := jf r (quP r (y % r 0)) 0) hB hx hy (by omega) hC k1 k2)
  · refine V_iconst (pc := 10) e_L_acts_10 ?_
    refine V_goto (pc := 11) e_L_acts_11 (by decide) ?_
    refine V_istore (pc := 21) e_L_acts_21 (by decide) ?_
    exact V_lq [(0, .ref 0), (1, zI x), (2, zI y), (4, zI 0)] ⟨⟨_, rfl, rfl⟩, ⟨_, rfl, rfl⟩, ⟨_, rfl, rfl⟩, ⟨_, rfl, rfl⟩, trivial⟩ (t_acts_23 (j := 0) hB hx hy (by decide) hC k1 k2)
