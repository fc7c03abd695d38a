/-! the model is made -/
theorem setI_at {σ : Sto} {i : Nat} {k x : Int} : (setI σ i k x).1 i = up1 (σ.1 i) k x := up2_at
theorem setI_ne1 {σ : Sto} {i j : Nat} {k x : Int} (h : ¬ j = i) : (setI σ i k x).1 j = σ.1 j := up2_ne h
theorem setI_snd {σ : Sto} {i : Nat} {k x : Int} : (setI σ i k x).2 = σ.2 := rfl
def sG (σ : Sto) : Sto := (setR (newR (setR (newR (setI (setR (newR (setR (newR (setR (newR (newR σ 144 (fun _ => none)) 145 (fun _ => none)) 144 0 (some 145)) 146 (fun _ => none)) 144 1 (some 146)) 147 (fun _ => none)) 144 2 (some 147)) 144 4 (-4)) 148 (fun _ => none)) 144 5 (some 148)) 149 (fun _ => none)) 144 8 (some 149))
theorem sG_o {σ : Sto} {i : Nat} (h : i < 144) : (sG σ).1 i = σ.1 i ∧ (sG σ).2.1 i = σ.2.1 i := by
  unfold sG
  refine ⟨?_, ?_⟩
  · simp (disch := omega) only [setI_at, setI_ne1, setI_snd, setR_ne, setR_i, newR_ne, newR_ne2]
  · simp (disch := omega) only [setI_snd, setR_ne, setR_i, newR_ne, newR_ne2]
theorem sG_s {σ : Sto} : (sG σ).2.2 = σ.2.2 := rfl
theorem sG_m {σ : Sto} : sG σ = mst (sG σ) (fun _ => 0) ((fun _ => 0), (fun _ => 0), 0, -4) ((fun _ => 0), (fun _ => 0), 0, 0, 0, 0, 0) := by
  refine Prod.ext (funext fun i => ?_) (Prod.ext (funext fun i => ?_) rfl)
  · by_cases h4 : i = 144
    · subst h4
      show (sG σ).1 144 = mfld _ _
      unfold sG
      simp (disch := omega) only [setI_at, setI_ne1, setI_snd, setR_ne, setR_i, newR_ne, newR_ne2, newR_1, newR_2]
      funext q
      unfold up1 mfld
      (repeat' split) <;> first | rfl | omega
    · by_cases h : 145 ≤ i ∧ i < 150
      · rcases (show i = 145 ∨ i = 146 ∨ i = 147 ∨ i = 148 ∨ i = 149 by omega) with y | y | y | y | y <;> subst y <;> rfl
      · show (sG σ).1 i = (if i < 144 then (sG σ).1 i else if i = 144 then _ else if i = 145 then _ else if i = 146 then _ else if i = 147 then _ else if i = 148 then _ else if i = 149 then _ else (sG σ).1 i)
        by_cases g : i < 144
        · rw [if_pos g]
        · rw [if_neg g, if_neg (by omega), if_neg (by omega), if_neg (by omega), if_neg (by omega), if_neg (by omega), if_neg (by omega)]
  · by_cases h4 : i = 144
    · subst h4
      show (sG σ).2.1 144 = mref
      funext q
      unfold sG
      by_cases a0 : q = 0
      · subst a0
        rfl
      · by_cases a1 : q = 1
        · subst a1
          rfl
        · by_cases a2 : q = 2
          · subst a2
            rfl
          · by_cases a5 : q = 5
            · subst a5
              rfl
            · by_cases a8 : q = 8
              · subst a8
                rfl
              · unfold mref
                simp (disch := omega) only [setI_snd, setR_q, setR_ne, newR_ne2, newR_2, if_neg a0, if_neg a1, if_neg a2, if_neg a5, if_neg a8]
    · show (sG σ).2.1 i = (if i = 144 then mref else (sG σ).2.1 i)
      rw [if_neg h4]
theorem e_r0 : r0 = (up1 (up1 (up1 (up1 (up1 (up1 (up1 (up1 (up1 (up1 (up1 (up1 (fun _ => 0) 3 (100)) 6 (-4)) 7 (-4)) 10 (2)) 11 (1)) 12 (3)) 13 (30)) 15 (250)) (25 + 3 * 0) 1) (25 + 3 * 1) 1) (25 + 3 * 2) 1) (25 + 3 * 3) 1) := by
  funext k
  unfold r0 up1
  (repeat' split) <;> first | rfl | omega
theorem T_X8_init {σ : Sto} {P : PT} {T : TT} {Q : Option Value → Sto → Prop} (k : Q none (mst σ r0 P T)) : V M_X8_init 150 52 [(0, .ref 144)] [] 150 (mst σ (fun _ => 0) P T) Q := by
  have e0 := e_r0
  refine V_aload_n (pc := 52) e_X8_init_52 rfl (Or.inl ⟨_, rfl⟩) ?_
  refine V_getR (pc := 53) (q := 0) (j := 145) fx_8_7 e_X8_init_53 rfl rfl (by decide) rfl rfl ?_
  refine V_iconst (pc := 56) e_X8_init_56 ?_
  refine V_bipush (pc := 57) (by decide) e_X8_init_57 ?_
  refine Vm_nowS (pc := 59) e_X8_init_59 (by decide) ?_
  refine V_aload_n (pc := 60) e_X8_init_60 rfl (Or.inl ⟨_, rfl⟩) ?_
  refine V_getR (pc := 61) (q := 0) (j := 145) fx_8_7 e_X8_init_61 rfl rfl (by decide) rfl rfl ?_
  refine V_bipush (pc := 64) (by decide) e_X8_init_64 ?_
  refine V_bipush (pc := 66) (by decide) e_X8_init_66 ?_
  refine Vm_nowS (pc := 68) e_X8_init_68 (by decide) ?_
  refine V_aload_n (pc := 69) e_X8_init_69 rfl (Or.inl ⟨_, rfl⟩) ?_
  refine V_getR (pc := 70) (q := 0) (j := 145) fx_8_7 e_X8_init_70 rfl rfl (by decide) rfl rfl ?_
  refine V_bipush (pc := 73) (by decide) e_X8_init_73 ?_
  refine V_bipush (pc := 75) (by decide) e_X8_init_75 ?_
  refine Vm_nowS (pc := 77) e_X8_init_77 (by decide) ?_
  refine V_aload_n (pc := 78) e_X8_init_78 rfl (Or.inl ⟨_, rfl⟩) ?_
  refine V_getR (pc := 79) (q := 0) (j := 145) fx_8_7 e_X8_init_79 rfl rfl (by decide) rfl rfl ?_
  refine V_bipush (pc := 82) (by decide) e_X8_init_82 ?_
  refine V_iconst (pc := 84) e_X8_init_84 ?_
  refine Vm_nowS (pc := 85) e_X8_init_85 (by decide) ?_
  refine V_aload_n (pc := 86) e_X8_init_86 rfl (Or.inl ⟨_, rfl⟩) ?_
  refine V_getR (pc := 87) (q := 0) (j := 145) fx_8_7 e_X8_init_87 rfl rfl (by decide) rfl rfl ?_
  refine V_bipush (pc := 90) (by decide) e_X8_init_90 ?_
  refine V_iconst (pc := 92) e_X8_init_92 ?_
  refine Vm_nowS (pc := 93) e_X8_init_93 (by decide) ?_
  refine V_aload_n (pc := 94) e_X8_init_94 rfl (Or.inl ⟨_, rfl⟩) ?_
  refine V_getR (pc := 95) (q := 0) (j := 145) fx_8_7 e_X8_init_95 rfl rfl (by decide) rfl rfl ?_
  refine V_bipush (pc := 98) (by decide) e_X8_init_98 ?_
  refine V_iconst (pc := 100) e_X8_init_100 ?_
  refine Vm_nowS (pc := 101) e_X8_init_101 (by decide) ?_
  refine V_aload_n (pc := 102) e_X8_init_102 rfl (Or.inl ⟨_, rfl⟩) ?_
  refine V_getR (pc := 103) (q := 0) (j := 145) fx_8_7 e_X8_init_103 rfl rfl (by decide) rfl rfl ?_
  refine V_bipush (pc := 106) (by decide) e_X8_init_106 ?_
  refine V_bipush (pc := 108) (by decide) e_X8_init_108 ?_
  refine Vm_nowS (pc := 110) e_X8_init_110 (by decide) ?_
  refine V_aload_n (pc := 111) e_X8_init_111 rfl (Or.inl ⟨_, rfl⟩) ?_
  refine V_getR (pc := 112) (q := 0) (j := 145) fx_8_7 e_X8_init_112 rfl rfl (by decide) rfl rfl ?_
  refine V_bipush (pc := 115) (by decide) e_X8_init_115 ?_
  refine V_sipush (pc := 117) (by decide) e_X8_init_117 ?_
  refine Vm_nowS (pc := 120) e_X8_init_120 (by decide) ?_
  refine V_iconst (pc := 121) e_X8_init_121 ?_
  refine V_istore_n (pc := 122) e_X8_init_122 (by decide) ?_
  refine V_iload_n (pc := 123) e_X8_init_123 rfl ?_
  refine V_iconst (pc := 124) e_X8_init_124 ?_
  refine V_icmp_ge (pc := 125) e_X8_init_125 (by decide) (by decide) (by decide) (fun h => absurd h (by decide)) (fun _ => ?_)
  refine V_aload_n (pc := 128) e_X8_init_128 rfl (Or.inl ⟨_, rfl⟩) ?_
  refine V_getR (pc := 129) (q := 0) (j := 145) fx_8_7 e_X8_init_129 rfl rfl (by decide) rfl rfl ?_
  refine V_bipush (pc := 132) (by decide) e_X8_init_132 ?_
  refine V_iconst (pc := 134) e_X8_init_134 ?_
  refine V_iload_n (pc := 135) e_X8_init_135 rfl ?_
  refine V_imul (pc := 136) e_X8_init_136 ?_
  refine V_iadd (pc := 137) e_X8_init_137 ?_
  refine V_iconst (pc := 138) e_X8_init_138 ?_
  refine Vm_nowS (pc := 139) e_X8_init_139 (by omega) ?_
  refine V_iincK (pc := 140) (z := 1) e_X8_init_140 rfl rfl (by decide) ?_
  refine V_goto (pc := 143) e_X8_init_143 (by decide) ?_
  refine V_iload_n (pc := 123) e_X8_init_123 rfl ?_
  refine V_iconst (pc := 124) e_X8_init_124 ?_
  refine V_icmp_ge (pc := 125) e_X8_init_125 (by decide) (by decide) (by decide) (fun h => absurd h (by decide)) (fun _ => ?_)
  refine V_aload_n (pc := 128) e_X8_init_128 rfl (Or.inl ⟨_, rfl⟩) ?_
  refine V_getR (pc := 129) (q := 0) (j := 145) fx_8_7 e_X8_init_129 rfl rfl (by decide) rfl rfl ?_
  refine V_bipush (pc := 132) (by decide) e_X8_init_132 ?_
  refine V_iconst (pc := 134) e_X8_init_134 ?_
  refine V_iload_n (pc := 135) e_X8_init_135 rfl ?_
  refine V_imul (pc := 136) e_X8_init_136 ?_
  refine V_iadd (pc := 137) e_X8_init_137 ?_
  refine V_iconst (pc := 138) e_X8_init_138 ?_
  refine Vm_nowS (pc := 139) e_X8_init_139 (by omega) ?_
  refine V_iincK (pc := 140) (z := 2) e_X8_init_140 rfl rfl (by decide) ?_
  refine V_goto (pc := 143) e_X8_init_143 (by decide) ?_
  refine V_iload_n (pc := 123) e_X8_init_123 rfl ?_
  refine V_iconst (pc := 124) e_X8_init_124 ?_
  refine V_icmp_ge (pc := 125) e_X8_init_125 (by decide) (by decide) (by decide) (fun h => absurd h (by decide)) (fun _ => ?_)
  refine V_aload_n (pc := 128) e_X8_init_128 rfl (Or.inl ⟨_, rfl⟩) ?_
  refine V_getR (pc := 129) (q := 0) (j := 145) fx_8_7 e_X8_init_129 rfl rfl (by decide) rfl rfl ?_
  refine V_bipush (pc := 132) (by decide) e_X8_init_132 ?_
  refine V_iconst (pc := 134) e_X8_init_134 ?_
  refine V_iload_n (pc := 135) e_X8_init_135 rfl ?_
  refine V_imul (pc := 136) e_X8_init_136 ?_
  refine V_iadd (pc := 137) e_X8_init_137 ?_
  refine V_iconst (pc := 138) e_X8_init_138 ?_
  refine Vm_nowS (pc := 139) e_X8_init_139 (by omega) ?_
  refine V_iincK (pc := 140) (z := 3) e_X8_init_140 rfl rfl (by decide) ?_
  refine V_goto (pc := 143) e_X8_init_143 (by decide) ?_
  refine V_iload_n (pc := 123) e_X8_init_123 rfl ?_
  refine V_iconst (pc := 124) e_X8_init_124 ?_
  refine V_icmp_ge (pc := 125) e_X8_init_125 (by decide) (by decide) (by decide) (fun h => absurd h (by decide)) (fun _ => ?_)
  refine V_aload_n (pc := 128) e_X8_init_128 rfl (Or.inl ⟨_, rfl⟩) ?_
  refine V_getR (pc := 129) (q := 0) (j := 145) fx_8_7 e_X8_init_129 rfl rfl (by decide) rfl rfl ?_
  refine V_bipush (pc := 132) (by decide) e_X8_init_132 ?_
  refine V_iconst (pc := 134) e_X8_init_134 ?_
  refine V_iload_n (pc := 135) e_X8_init_135 rfl ?_
  refine V_imul (pc := 136) e_X8_init_136 ?_
  refine V_iadd (pc := 137) e_X8_init_137 ?_
  refine V_iconst (pc := 138) e_X8_init_138 ?_
  refine Vm_nowS (pc := 139) e_X8_init_139 (by omega) ?_
  refine V_iincK (pc := 140) (z := 4) e_X8_init_140 rfl rfl (by decide) ?_
  refine V_goto (pc := 143) e_X8_init_143 (by decide) ?_
  refine V_iload_n (pc := 123) e_X8_init_123 rfl ?_
  refine V_iconst (pc := 124) e_X8_init_124 ?_
  refine V_icmp_ge (pc := 125) e_X8_init_125 (by decide) (by decide) (by decide) (fun _ => ?_) (fun h => absurd (by decide) h)
  refine V_ret (pc := 146) (v := none) ⟨e_X8_init_146, rfl⟩ ?_
  rw [e0] at k
  exact k
theorem c_X8_init {σ : Sto} {Q : Option Value → Sto → Prop} (k : Q none (mst (sG σ) r0 ((fun _ => 0), (fun _ => 0), 0, -4) ((fun _ => 0), (fun _ => 0), 0, 0, 0, 0, 0))) : Con M_X8_init 145 150 (newR σ 144 (fun _ => none)) [.ref 144] Q := by
  refine V_entry ok_X8_init (by decide) (Nat.le_of_ble_eq_true rfl) (V_ls [(0, .ref 144)] ⟨rfl, trivial⟩ ?_)
  refine V_aload_n (pc := 0) e_X8_init_0 rfl (Or.inl ⟨_, rfl⟩) ?_
  refine V_objInit (pc := 1) rfl (by decide) (Nat.le_of_ble_eq_true rfl) e_X8_init_1 ?_
  refine V_aload_n (pc := 4) e_X8_init_4 rfl (Or.inl ⟨_, rfl⟩) ?_
  refine V_sipush (pc := 5) (by decide) e_X8_init_5 ?_
  refine V_newi (pc := 8) (N := 145) (n := 185) e_X8_init_8 rfl (by decide) (by decide) ?_
  refine V_putF (pc := 10) (q := 0) fx_8_7 e_X8_init_10 rfl rfl rfl rfl rfl (by decide) rfl ?_
  refine V_aload_n (pc := 13) e_X8_init_13 rfl (Or.inl ⟨_, rfl⟩) ?_
  refine V_sipush (pc := 14) (by decide) e_X8_init_14 ?_
  refine V_newi (pc := 17) (N := 146) (n := 740) e_X8_init_17 rfl (by decide) (by decide) ?_
  refine V_putF (pc := 19) (q := 1) fx_8_13 e_X8_init_19 rfl rfl rfl rfl rfl (by decide) rfl ?_
  refine V_aload_n (pc := 22) e_X8_init_22 rfl (Or.inl ⟨_, rfl⟩) ?_
  refine V_sipush (pc := 23) (by decide) e_X8_init_23 ?_
  refine V_newi (pc := 26) (N := 147) (n := 185) e_X8_init_26 rfl (by decide) (by decide) ?_
  refine V_putF (pc := 28) (q := 2) fx_8_16 e_X8_init_28 rfl rfl rfl rfl rfl (by decide) rfl ?_
  refine V_aload_n (pc := 31) e_X8_init_31 rfl (Or.inl ⟨_, rfl⟩) ?_
  refine V_bipush (pc := 32) (by decide) e_X8_init_32 ?_
  refine V_put (pc := 34) (q := 4) fx_8_19 e_X8_init_34 rfl rfl rfl rfl rfl (by decide) rfl ?_
  refine V_aload_n (pc := 37) e_X8_init_37 rfl (Or.inl ⟨_, rfl⟩) ?_
  refine V_bipush (pc := 38) (by decide) e_X8_init_38 ?_
  refine V_newi (pc := 40) (N := 148) (n := 100) e_X8_init_40 rfl (by decide) (by decide) ?_
  refine V_putF (pc := 42) (q := 5) fx_8_23 e_X8_init_42 rfl rfl rfl rfl rfl (by decide) rfl ?_
  refine V_aload_n (pc := 45) e_X8_init_45 rfl (Or.inl ⟨_, rfl⟩) ?_
  refine V_iconst (pc := 46) e_X8_init_46 ?_
  refine V_newi (pc := 47) (N := 149) (n := 5) e_X8_init_47 rfl (by decide) (by decide) ?_
  refine V_putF (pc := 49) (q := 8) fx_8_26 e_X8_init_49 rfl rfl rfl rfl rfl (by decide) rfl ?_
  have eg := sG_m (σ := σ)
  unfold sG at eg
  refine V_sq eg ?_
  exact T_X8_init k
