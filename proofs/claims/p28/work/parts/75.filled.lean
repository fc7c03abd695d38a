/-! the law: what lacks, filled in -/
section FILLED
variable {B : Int} {scr : Nat × (Nat → Int32)} {S : Sto} {r : Int → Int} {sv : Int} {ρ : Int → Int → Int} {rf : Int} {Q : Option Value → Sto → Prop}
theorem c_L_printE (h : CL B scr S r sv ρ rf) {x : Int64} (e : PH r sv = x) (k : ∀ S', CL B scr S' r sv ρ rf → Q (some (.long x)) S') : Con M_L_print 144 144 S [.ref 0] Q := c_L_print h (by rw [e]; exact k)
theorem q_lackK (h : CL B scr S r sv ρ rf) {s q x : Int} (hs : 0 ≤ s ∧ s ≤ 3) (hq : 0 ≤ q ∧ q ≤ 3) (hx : lkF r s q = x) (k : ∀ S', CL B scr S' r sv ρ rf → Q (some (zI x)) S') : Con M_X7_lacking 144 144 S [.ref 0, zI s, zI q] Q := by
  refine q_lacking h (by omega) (by omega) (fun g => absurd (show (0 ≤ s ∧ s ≤ 3) ∧ 0 ≤ q ∧ q ≤ 3 from ⟨hs, hq⟩) g) (fun _ => ?_)
  rw [← hx] at k
  exact k
theorem q_undoX (h : CL B scr S r sv ρ rf) {r0 : Int → Int} (h0 : 0 < sv) (he : ρ (sv - 1) = r0) (k : ∀ S', CL B scr S' r0 (sv - 1) ρ rf → Q (some (zI (sv - 1))) S') : Con M_X7_undo 144 144 S [.ref 0] Q := by
  subst he
  exact q_undo h (fun g => absurd g (by omega)) (fun _ => k)
theorem q_runK (h : CL B scr S r sv ρ rf) (hB : B ≤ 900000) {m : Int} {r' : Int → Int} (hm : 1 ≤ m ∧ m ≤ 5000) (he : runF 5000 r m = r') (k : ∀ S', CL (B + m) scr S' r' (recS sv) (kpR ρ sv r) rf → Q (some (zI (r' 17 - r 17))) S') : Con M_X7_run 144 144 S [.ref 0, zI m] Q := by
  subst he
  exact q_run h hB (by omega) (fun g => absurd hm g) (fun _ => k)
theorem q_fillK (h : CL B scr S r sv ρ rf) {t s x : Int} (ht : 0 ≤ t ∧ t ≤ 3) (hs : 1 ≤ s ∧ s ≤ 500) (h5 : r (25 + 3 * t + 2) + s ≤ 500) (hx : r (25 + 3 * t + 2) + s = x) (k : ∀ S', CL B scr S' (up1 r (25 + 3 * t + 2) x) (recS sv) (kpR ρ sv r) rf → Q (some (zI x)) S') : Con M_X7_fill 144 144 S [.ref 0, zI t, zI s] Q := by
  subst hx
  exact q_fill h (by omega) (by omega) (fun g => absurd (show (0 ≤ t ∧ t ≤ 3) ∧ 1 ≤ s ∧ s ≤ 500 from ⟨ht, hs⟩) g) (fun _ g => absurd g (by omega)) (fun _ _ => k)
theorem q_loadK (h : CL B scr S r sv ρ rf) {t s q : Int} (ht : 0 ≤ t ∧ t ≤ 3) (hs : 0 ≤ s ∧ s ≤ 3) (hq : 0 ≤ q ∧ q ≤ 3) (k : ∀ S', CL B scr S' (up1 (up1 (up1 r (25 + 3 * t) s) (25 + 3 * t + 1) q) (25 + 3 * t + 2) 0) (recS sv) (kpR ρ sv r) rf → Q (some (zI (r (25 + 3 * t + 2)))) S') : Con M_X7_load 144 144 S [.ref 0, zI t, zI s, zI q] Q :=
  q_load h (by omega) (by omega) (by omega) (fun g => absurd (show (0 ≤ t ∧ t ≤ 3) ∧ (0 ≤ s ∧ s ≤ 3) ∧ 0 ≤ q ∧ q ≤ 3 from ⟨ht, hs, hq⟩) g) (fun _ => k)
end FILLED
theorem recS_rg {sv : Int} (h : 0 ≤ sv ∧ sv ≤ 4) : (1 ≤ recS sv ∧ recS sv ≤ 4) ∧ (recS sv = 4 ∧ sv = 4 ∨ recS sv = sv + 1) := by
  unfold recS recN
  split <;> omega
theorem kpR_two {ρ : Int → Int → Int} {sv : Int} {r r1 : Int → Int} (h : 0 ≤ sv ∧ sv ≤ 4) : kpR (kpR ρ sv r) (recS sv) r1 (recS (recS sv) - 1 - 1) = r := by
  have a := recS_rg h
  have b := recS_rg (sv := recS sv) (by omega)
  have c := kpR_top (ρ := ρ) (sv := sv) (r := r)
  have d : ∀ z : Int, z = recS sv - 1 → kpR ρ sv r z = r := fun z e => by rw [e]; exact c
  rw [show kpR (kpR ρ sv r) (recS sv) r1 = if recS sv = 4 then up1 (fun k => kpR ρ sv r (k + 1)) 3 r1 else up1 (kpR ρ sv r) (recS sv) r1 from rfl]
  by_cases q : recS sv = 4
  · rw [if_pos q, up1_ne (by omega)]
    exact d _ (by omega)
  · rw [if_neg q, up1_ne (by omega)]
    exact d _ (by omega)
theorem lkF_fill {r : Int → Int} {s q m th : Int} (h0 : 0 < lkF r s q) (hm : m ≤ lkF r s q) (ht : th = if r 34 = s ∧ r 35 = q then r 36 else 0) (h36 : 0 ≤ r 36) : lkF (up1 (up1 (up1 (up1 r (25 + 3 * 3) s) (25 + 3 * 3 + 1) q) (25 + 3 * 3 + 2) 0) (25 + 3 * 3 + 2) m) s q = lkF r s q - m + th := by
  have z0 : up1 (up1 (up1 (up1 r (25 + 3 * 3) s) (25 + 3 * 3 + 1) q) (25 + 3 * 3 + 2) 0) (25 + 3 * 3 + 2) m 0 = r 0 := by rw [up1_ne (by decide), up1_ne (by decide), up1_ne (by decide), up1_ne (by decide)]
  have e : lkF r s q = lkN r s q (r 0).toNat := by
    unfold lkF at h0 ⊢
    split at h0
    · omega
    · rename_i g
      rw [if_neg g]
  have f := lk_fill (r := r) (s := s) (q := q) (m := m) (r 0).toNat
  unfold lkF
  rw [z0, f, ← ht]
  have t0 : 0 ≤ th := by
    rw [ht]
    split <;> omega
  rw [if_neg (by omega)]
  have e2 : (if lkN r s q (r 0).toNat < 0 then 0 else lkN r s q (r 0).toNat) = lkN r s q (r 0).toNat := e
  rw [e2]
theorem t_isFilled_140 {B : Int} {scr : Nat × (Nat → Int32)} {r : Int → Int} {sv : Int} {ρ : Int → Int → Int} {rf : Int} {Q : Option Value → Sto → Prop} {h0 : Int64} (hh : ∀ sv, PH r sv = h0) {S : Sto} (hC : CL B scr S r sv ρ rf) (k : ∀ S sv ρ, CL B scr S r sv ρ rf → Q (some (zI 1)) S) : V M_L_isFilled 144 140 [(0, .ref 0), (3, .long h0), (7, zI 1)] [] 144 S Q := by
  refine V_iload (pc := 140) e_L_isFilled_140 rfl ?_
  refine V_if_eq (pc := 142) e_L_isFilled_142 (by decide) (by decide) (fun h => absurd h (by decide)) (fun _ => ?_)
  refine V_aload_n (pc := 145) e_L_isFilled_145 rfl (Or.inl ⟨_, rfl⟩) ?_
  refine V_cS1 (pc := 146) ca_8_42 e_L_isFilled_146 (by decide) (Nat.le_of_ble_eq_true rfl) (c_L_printE hC (hh _) (fun S hC => ?_))
  refine V_lload_n (pc := 149) e_L_isFilled_149 rfl ?_
  refine V_lsame (pc := 150) e_L_isFilled_150 ?_
  refine V_if_ne (pc := 151) e_L_isFilled_151 (by decide) (by decide) (fun h => absurd (by decide) h) (fun _ => ?_)
  refine V_iconst (pc := 154) e_L_isFilled_154 ?_
  refine V_goto (pc := 155) e_L_isFilled_155 (by decide) ?_
  refine V_ret (pc := 159) (v := some (zI _)) ⟨e_L_isFilled_159, _, rfl, by decide⟩ ?_
  exact k S _ _ hC
theorem t_isFilled_80 {B : Int} {scr : Nat × (Nat → Int32)} {r : Int → Int} {sv : Int} {ρ : Int → Int → Int} {rf : Int} {Q : Option Value → Sto → Prop} (hB : B ≤ 900000) {s q : Int} (hs : 0 ≤ s ∧ s ≤ 3) (hq : 0 ≤ q ∧ q ≤ 3) {h0 : Int64} (hh : ∀ sv, PH r sv = h0) {m th : Int} (hl : 0 < lkF r s q ∧ lkF r s q ≤ 13000000) (hm : 1 ≤ m ∧ m ≤ 500 ∧ m ≤ lkF r s q) (ht : th = if r 34 = s ∧ r 35 = q then r 36 else 0) {S : Sto} (hC : CL B scr S r sv ρ rf) (k : ∀ S sv ρ, CL B scr S r sv ρ rf → Q (some (zI 1)) S) : V M_L_isFilled 144 80 [(0, .ref 0), (1, zI s), (2, zI q), (3, .long h0), (5, zI (lkF r s q)), (6, zI m), (8, zI th)] [] 144 S Q := by
  have hv := hC.sv
  have g1 := recS_rg hv
  have g2 := recS_rg (sv := recS sv) (by omega)
  have rt := hC.gi.1.2.2.1 3 (by decide) (by decide)
  have h36 : 0 ≤ r 36 ∧ r 36 ≤ 500 := rt.2.2
  have tb : 0 ≤ th ∧ th ≤ 500 := by rw [ht]; split <;> omega
  refine V_aload_n (pc := 80) e_L_isFilled_80 rfl (Or.inl ⟨_, rfl⟩) ?_
  refine V_iconst (pc := 81) e_L_isFilled_81 ?_
  refine V_iload_n (pc := 82) e_L_isFilled_82 rfl ?_
  refine V_iload_n (pc := 83) e_L_isFilled_83 rfl ?_
  refine V_cV3 (pc := 84) ca_8_51 e_L_isFilled_84 (by decide) (Nat.le_of_ble_eq_true rfl) (by decide) rfl (by decide) (q_loadK (t := 3) hC (by decide) hs hq (fun S hC => ?_))
  refine V_if_lt (pc := 87) e_L_isFilled_87 (by decide) (by omega) (fun h87 => ?_) (fun h87 => ?_)
  · exfalso
    omega
  · refine V_aload_n (pc := 90) e_L_isFilled_90 rfl (Or.inl ⟨_, rfl⟩) ?_
    refine V_iconst (pc := 91) e_L_isFilled_91 ?_
    refine V_iload (pc := 92) e_L_isFilled_92 rfl ?_
    refine V_cV2 (pc := 94) ca_8_48 e_L_isFilled_94 (by decide) (Nat.le_of_ble_eq_true rfl) (by decide) rfl (by decide) (q_fillK (t := 3) (x := m) hC (by decide) (by omega) (by rw [up1_at]; omega) (by rw [up1_at]; omega) (fun S hC => ?_))
    refine V_iload (pc := 97) e_L_isFilled_97 rfl ?_
    refine V_icmp_ne (pc := 99) e_L_isFilled_99 (by decide) (by omega) (by omega) (fun h99 => ?_) (fun h99 => ?_)
    · exfalso
      omega
    · refine V_aload_n (pc := 102) e_L_isFilled_102 rfl (Or.inl ⟨_, rfl⟩) ?_
      refine V_iload_n (pc := 103) e_L_isFilled_103 rfl ?_
      refine V_iload_n (pc := 104) e_L_isFilled_104 rfl ?_
      refine V_cV2 (pc := 105) ca_8_32 e_L_isFilled_105 (by decide) (Nat.le_of_ble_eq_true rfl) (by decide) rfl (by decide) (q_lackK (x := lkF r s q - m + th) hC hs hq (lkF_fill hl.1 hm.2.2 ht h36.1) (fun S hC => ?_))
      refine V_iload (pc := 108) e_L_isFilled_108 rfl ?_
      refine V_iload (pc := 110) e_L_isFilled_110 rfl ?_
      refine V_isub (pc := 112) e_L_isFilled_112 ?_
      refine V_iload (pc := 113) e_L_isFilled_113 rfl ?_
      refine V_iadd (pc := 115) e_L_isFilled_115 ?_
      refine V_icmp_ne (pc := 116) e_L_isFilled_116 (by decide) (by omega) (by omega) (fun h116 => ?_) (fun h116 => ?_)
      · exfalso
        omega
      · refine V_aload_n (pc := 119) e_L_isFilled_119 rfl (Or.inl ⟨_, rfl⟩) ?_
        refine V_cV0 (pc := 120) ca_8_89 e_L_isFilled_120 (by decide) (Nat.le_of_ble_eq_true rfl) (by decide) rfl (by decide) (q_undoX hC (by omega) kpR_top (fun S hC => ?_))
        refine V_if_lt (pc := 123) e_L_isFilled_123 (by decide) (by omega) (fun h123 => ?_) (fun h123 => ?_)
        · exfalso
          omega
        · refine V_aload_n (pc := 126) e_L_isFilled_126 rfl (Or.inl ⟨_, rfl⟩) ?_
          refine V_cV0 (pc := 127) ca_8_89 e_L_isFilled_127 (by decide) (Nat.le_of_ble_eq_true rfl) (by decide) rfl (by decide) (q_undoX hC (by omega) (kpR_two hv) (fun S hC => ?_))
          refine V_if_lt (pc := 130) e_L_isFilled_130 (by decide) (by omega) (fun h130 => ?_) (fun h130 => ?_)
          · exfalso
            omega
          · refine V_iconst (pc := 133) e_L_isFilled_133 ?_
            refine V_goto (pc := 134) e_L_isFilled_134 (by decide) ?_
            refine V_istore (pc := 138) e_L_isFilled_138 (by decide) ?_
            exact V_lq [(0, .ref 0), (3, .long h0), (7, zI 1)] ⟨⟨_, rfl, rfl⟩, ⟨_, rfl, rfl⟩, ⟨_, rfl, rfl⟩, trivial⟩ (t_isFilled_140 hh hC k)
theorem t_isFilled_48 {B : Int} {scr : Nat × (Nat → Int32)} {r : Int → Int} {sv : Int} {ρ : Int → Int → Int} {rf : Int} {Q : Option Value → Sto → Prop} (hB : B ≤ 900000) {s q : Int} (hs : 0 ≤ s ∧ s ≤ 3) (hq : 0 ≤ q ∧ q ≤ 3) {h0 : Int64} (hh : ∀ sv, PH r sv = h0) {m : Int} (hl : 0 < lkF r s q ∧ lkF r s q ≤ 13000000) (hm : 1 ≤ m ∧ m ≤ 500 ∧ m ≤ lkF r s q) {S : Sto} (hC : CL B scr S r sv ρ rf) (k : ∀ S sv ρ, CL B scr S r sv ρ rf → Q (some (zI 1)) S) : V M_L_isFilled 144 48 [(0, .ref 0), (1, zI s), (2, zI q), (3, .long h0), (5, zI (lkF r s q)), (6, zI m)] [] 144 S Q := by
  have hv := hC.sv
  have g1 := recS_rg hv
  have g2 := recS_rg (sv := recS sv) (by omega)
  have rt := hC.gi.1.2.2.1 3 (by decide) (by decide)
  have rt2 : (0 ≤ r 34 ∧ r 34 ≤ 3) ∧ (0 ≤ r 35 ∧ r 35 ≤ 3) ∧ 0 ≤ r 36 ∧ r 36 ≤ 500 := rt
  refine V_aload_n (pc := 48) e_L_isFilled_48 rfl (Or.inl ⟨_, rfl⟩) ?_
  refine V_iconst (pc := 49) e_L_isFilled_49 ?_
  refine V_iconst (pc := 50) e_L_isFilled_50 ?_
  refine V_cV2 (pc := 51) ca_8_29 e_L_isFilled_51 (by decide) (Nat.le_of_ble_eq_true rfl) (by decide) rfl (by decide) (q_trayK (x := r 34) hC (by decide) (by decide) rfl (fun S hC => ?_))
  refine V_iload_n (pc := 54) e_L_isFilled_54 rfl ?_
  refine V_icmp_ne (pc := 55) e_L_isFilled_55 (by decide) (by omega) (by omega) (fun h55 => ?_) (fun h55 => ?_)
  · refine V_iconst (pc := 77) e_L_isFilled_77 ?_
    refine V_istore (pc := 78) e_L_isFilled_78 (by decide) ?_
    exact V_lq [(0, .ref 0), (1, zI s), (2, zI q), (3, .long h0), (5, zI (lkF r s q)), (6, zI m), (8, zI 0)] ⟨⟨_, rfl, rfl⟩, ⟨_, rfl, rfl⟩, ⟨_, rfl, rfl⟩, ⟨_, rfl, rfl⟩, ⟨_, rfl, rfl⟩, ⟨_, rfl, rfl⟩, ⟨_, rfl, rfl⟩, trivial⟩ (t_isFilled_80 (th := 0) hB hs hq hh hl hm (by rw [if_neg (show ¬ (r 34 = s ∧ r 35 = q) by omega)]) hC k)
  · refine V_aload_n (pc := 58) e_L_isFilled_58 rfl (Or.inl ⟨_, rfl⟩) ?_
    refine V_iconst (pc := 59) e_L_isFilled_59 ?_
    refine V_iconst (pc := 60) e_L_isFilled_60 ?_
    refine V_cV2 (pc := 61) ca_8_29 e_L_isFilled_61 (by decide) (Nat.le_of_ble_eq_true rfl) (by decide) rfl (by decide) (q_trayK (x := r 35) hC (by decide) (by decide) rfl (fun S hC => ?_))
    refine V_iload_n (pc := 64) e_L_isFilled_64 rfl ?_
    refine V_icmp_ne (pc := 65) e_L_isFilled_65 (by decide) (by omega) (by omega) (fun h65 => ?_) (fun h65 => ?_)
    · refine V_iconst (pc := 77) e_L_isFilled_77 ?_
      refine V_istore (pc := 78) e_L_isFilled_78 (by decide) ?_
      exact V_lq [(0, .ref 0), (1, zI s), (2, zI q), (3, .long h0), (5, zI (lkF r s q)), (6, zI m), (8, zI 0)] ⟨⟨_, rfl, rfl⟩, ⟨_, rfl, rfl⟩, ⟨_, rfl, rfl⟩, ⟨_, rfl, rfl⟩, ⟨_, rfl, rfl⟩, ⟨_, rfl, rfl⟩, ⟨_, rfl, rfl⟩, trivial⟩ (t_isFilled_80 (th := 0) hB hs hq hh hl hm (by rw [if_neg (show ¬ (r 34 = s ∧ r 35 = q) by omega)]) hC k)
    · refine V_aload_n (pc := 68) e_L_isFilled_68 rfl (Or.inl ⟨_, rfl⟩) ?_
      refine V_iconst (pc := 69) e_L_isFilled_69 ?_
      refine V_iconst (pc := 70) e_L_isFilled_70 ?_
      refine V_cV2 (pc := 71) ca_8_29 e_L_isFilled_71 (by decide) (Nat.le_of_ble_eq_true rfl) (by decide) rfl (by decide) (q_trayK (x := r 36) hC (by decide) (by decide) rfl (fun S hC => ?_))
      refine V_goto (pc := 74) e_L_isFilled_74 (by decide) ?_
      refine V_istore (pc := 78) e_L_isFilled_78 (by decide) ?_
      exact V_lq [(0, .ref 0), (1, zI s), (2, zI q), (3, .long h0), (5, zI (lkF r s q)), (6, zI m), (8, zI (r 36))] ⟨⟨_, rfl, rfl⟩, ⟨_, rfl, rfl⟩, ⟨_, rfl, rfl⟩, ⟨_, rfl, rfl⟩, ⟨_, rfl, rfl⟩, ⟨_, rfl, rfl⟩, ⟨_, rfl, rfl⟩, trivial⟩ (t_isFilled_80 (th := (r 36)) hB hs hq hh hl hm (by rw [if_pos (show r 34 = s ∧ r 35 = q by omega)]) hC k)
theorem c_L_isFilled {B : Int} {scr : Nat × (Nat → Int32)} {r : Int → Int} {sv : Int} {ρ : Int → Int → Int} {rf : Int} {Q : Option Value → Sto → Prop} (hB : B ≤ 900000) {s q : Int} (hs : 0 ≤ s ∧ s ≤ 3) (hq : 0 ≤ q ∧ q ≤ 3) {S : Sto} (hC : CL B scr S r sv ρ rf) (k : ∀ S sv ρ, CL B scr S r sv ρ rf → Q (some (zI 1)) S) : Con M_L_isFilled 144 144 S [.ref 0, zI s, zI q] Q := by
  refine V_entry ok_L_isFilled (Nat.le_refl _) (Nat.le_of_ble_eq_true rfl) (V_ls [(0, .ref 0), (1, zI s), (2, zI q)] ⟨rfl, rfl, rfl, trivial⟩ ?_)
  have lg := lkN_rg hC.gi.1.rr s q (r 0).toNat (by have := hC.gi.ni; omega)
  have n0 := hC.gi.ni
  have hl : 0 ≤ lkF r s q ∧ lkF r s q ≤ 13000000 := by unfold lkF; split <;> omega
  refine V_aload_n (pc := 0) e_L_isFilled_0 rfl (Or.inl ⟨_, rfl⟩) ?_
  refine V_cS1 (pc := 1) ca_8_42 e_L_isFilled_1 (by decide) (Nat.le_of_ble_eq_true rfl) (c_L_print hC (fun S hC => ?_))
  refine V_lstore_n (pc := 4) e_L_isFilled_4 (by decide) ?_
  refine V_aload_n (pc := 5) e_L_isFilled_5 rfl (Or.inl ⟨_, rfl⟩) ?_
  refine V_iload_n (pc := 6) e_L_isFilled_6 rfl ?_
  refine V_iload_n (pc := 7) e_L_isFilled_7 rfl ?_
  refine V_cV2 (pc := 8) ca_8_32 e_L_isFilled_8 (by decide) (Nat.le_of_ble_eq_true rfl) (by decide) rfl (by decide) (q_lackK (x := lkF r s q) hC hs hq rfl (fun S hC => ?_))
  refine V_istore (pc := 11) e_L_isFilled_11 (by decide) ?_
  refine V_iload (pc := 13) e_L_isFilled_13 rfl ?_
  refine V_sipush (pc := 15) (by decide) e_L_isFilled_15 ?_
  refine V_icmp_le (pc := 18) e_L_isFilled_18 (by decide) (by omega) (by decide) (fun h18 => ?_) (fun h18 => ?_)
  · refine V_iload (pc := 27) e_L_isFilled_27 rfl ?_
    refine V_istore (pc := 29) e_L_isFilled_29 (by decide) ?_
    refine V_iload (pc := 31) e_L_isFilled_31 rfl ?_
    refine V_if_lt (pc := 33) e_L_isFilled_33 (by decide) (by omega) (fun h33 => ?_) (fun h33 => ?_)
    · exfalso
      omega
    · refine V_iconst (pc := 36) e_L_isFilled_36 ?_
      refine V_goto (pc := 37) e_L_isFilled_37 (by decide) ?_
      refine V_istore (pc := 41) e_L_isFilled_41 (by decide) ?_
      refine V_iload (pc := 43) e_L_isFilled_43 rfl ?_
      refine V_if_le (pc := 45) e_L_isFilled_45 (by decide) (by omega) (fun h45 => ?_) (fun h45 => ?_)
      · exact V_lq [(0, .ref 0), (3, .long (PH r sv)), (7, zI 1)] ⟨⟨_, rfl, rfl⟩, ⟨_, rfl, rfl⟩, ⟨_, rfl, rfl⟩, trivial⟩ (t_isFilled_140 (fun _ => PH_sv r _ sv) hC k)
      · exact V_lq [(0, .ref 0), (1, zI s), (2, zI q), (3, .long (PH r sv)), (5, zI (lkF r s q)), (6, zI (lkF r s q))] ⟨⟨_, rfl, rfl⟩, ⟨_, rfl, rfl⟩, ⟨_, rfl, rfl⟩, ⟨_, rfl, rfl⟩, ⟨_, rfl, rfl⟩, ⟨_, rfl, rfl⟩, trivial⟩ (t_isFilled_48 (m := (lkF r s q)) hB hs hq (fun _ => PH_sv r _ sv) (by omega) (by omega) hC k)
  · refine V_sipush (pc := 21) (by decide) e_L_isFilled_21 ?_
    refine V_goto (pc := 24) e_L_isFilled_24 (by decide) ?_
    refine V_istore (pc := 29) e_L_isFilled_29 (by decide) ?_
    refine V_iload (pc := 31) e_L_isFilled_31 rfl ?_
    refine V_if_lt (pc := 33) e_L_isFilled_33 (by decide) (by omega) (fun h33 => ?_) (fun h33 => ?_)
    · exfalso
      omega
    · refine V_iconst (pc := 36) e_L_isFilled_36 ?_
      refine V_goto (pc := 37) e_L_isFilled_37 (by decide) ?_
      refine V_istore (pc := 41) e_L_isFilled_41 (by decide) ?_
      refine V_iload (pc := 43) e_L_isFilled_43 rfl ?_
      refine V_if_le (pc := 45) e_L_isFilled_45 (by decide) (by decide) (fun h => absurd h (by decide)) (fun _ => ?_)
      exact V_lq [(0, .ref 0), (1, zI s), (2, zI q), (3, .long (PH r sv)), (5, zI (lkF r s q)), (6, zI 500)] ⟨⟨_, rfl, rfl⟩, ⟨_, rfl, rfl⟩, ⟨_, rfl, rfl⟩, ⟨_, rfl, rfl⟩, ⟨_, rfl, rfl⟩, ⟨_, rfl, rfl⟩, trivial⟩ (t_isFilled_48 (m := 500) hB hs hq (fun _ => PH_sv r _ sv) (by omega) (by omega) hC k)
