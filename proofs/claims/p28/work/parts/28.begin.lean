/-! what holds of a row between the calls; the class: work that begins -/
/-- what holds of a job in the queue -/
def JI (r : Int → Int) (p : Int) : Prop := JB r p ∧ (jf r p 5 < 12 ∧ (4 ≤ jf r p 5 → jf r p 5 / 2 % 2 = 1 ∧ ¬ jf r p 4 = 3 ∧ 2 ≤ sst r p ∧ jf r p 9 ≤ jf r p 8 / sst r p) ∧ (jf r p 5 < 4 → jf r p 9 = 0)) ∧ (jf r p 8 ≤ als r p ∧ jf r p 9 ≤ jf r p 2) ∧ ¬ donF r p ∧ jf r p 0 < r 1
/-- the work under way -/
def WI (r : Int → Int) : Prop := (r 5 = 0 ∧ r 4 = 0 ∧ r 6 = -4) ∨ (r 5 = 1 ∧ 1 ≤ r 4 ∧ r 4 ≤ 60 ∧ 0 ≤ r 6 ∧ 0 ≤ plc r (r 6) ∧ jf r (plc r (r 6)) 8 < als r (plc r (r 6))) ∨ (r 5 = 2 ∧ 1 ≤ r 4 ∧ r 4 ≤ 20 ∧ 0 ≤ r 6 ∧ 0 ≤ plc r (r 6) ∧ hset r (plc r (r 6)))
/-- papers are told once each -/
def PI_ (r : Int → Int) : Prop := (∀ k : Int, 0 ≤ k → k < r 9 → (0 ≤ r (37 + 3 * k) ∧ r (37 + 3 * k) ≤ 3) ∧ 0 ≤ r (37 + 3 * k + 1) ∧ r (37 + 3 * k + 1) ≤ 3) ∧ ∀ i k : Int, 0 ≤ i → i < k → k < r 9 → ¬ (r (37 + 3 * i) = r (37 + 3 * k) ∧ r (37 + 3 * i + 1) = r (37 + 3 * k + 1))
def NI (r : Int → Int) : Prop := (0 ≤ r 0 ∧ r 0 ≤ 10) ∧ (0 ≤ r 1 ∧ r 1 ≤ 2000000) ∧ (0 ≤ r 2 ∧ r 2 ≤ r 8) ∧ (0 ≤ r 3 ∧ r 3 ≤ 5000) ∧ (0 ≤ r 8 ∧ r 8 ≤ r 24) ∧ (0 ≤ r 24 ∧ r 24 ≤ 2000000) ∧ (0 ≤ r 9 ∧ r 9 ≤ 16) ∧ (1 ≤ r 10 ∧ r 10 ≤ 20) ∧ (0 ≤ r 11 ∧ r 11 ≤ 20) ∧ (0 ≤ r 12 ∧ r 12 ≤ 20) ∧ (2 ≤ r 13 ∧ r 13 ≤ 100) ∧ (0 ≤ r 14 ∧ r 14 ≤ 500) ∧ (1 ≤ r 15 ∧ r 15 ≤ 1000) ∧ (r 7 = -4 ∨ (0 ≤ r 7 ∧ r 7 < r 1))
def RI (r : Int → Int) : Prop := NI r ∧ RB r ∧ RT r ∧ PI_ r ∧ SO r ∧ (∀ p : Int, 0 ≤ p → p < r 0 → JI r p) ∧ WI r
theorem RI.rr {r : Int → Int} (h : RI r) : RR r := by
  obtain ⟨n, rb, rt, pi, so, j, w⟩ := h
  unfold NI at n
  exact ⟨rb, by omega, by omega, fun p a d => (j p a d).1⟩
theorem nsh_lt {r : Int → Int} {p : Int} (hJ : JB r p) (h8 : jf r p 8 < als r p) : nsh r p < sst r p := by
  have s := sst_rg hJ
  have j := hJ
  unfold JB at j
  unfold nsh
  split
  · exact Int.emod_lt_of_pos _ (by omega)
  · unfold als at h8
    exact Int.ediv_lt_of_lt_mul (by omega) h8
theorem hset_lt {r : Int → Int} {p : Int} (hJ : JB r p) (h8 : jf r p 8 ≤ als r p) (h : hset r p) : jf r p 9 < jf r p 2 := by
  have s := sst_rg hJ
  have h2 := h.2
  have a : jf r p 8 / sst r p ≤ als r p / sst r p := Int.ediv_le_ediv (by omega) h8
  have e : als r p / sst r p = jf r p 2 := by
    unfold als
    exact Int.mul_ediv_cancel_left _ (by omega)
  omega
theorem not_done {r : Int → Int} {p : Int} (h : JI r p) (hn : ¬ hset r p) : jf r p 8 < als r p := by
  obtain ⟨hJ, ⟨j5, j6, j7⟩, ⟨h8, h9⟩, hd, -⟩ := h
  have s := sst_rg hJ
  have jj := hJ
  unfold JB at jj
  apply Classical.byContradiction
  intro y
  have e8 : jf r p 8 = als r p := by omega
  have e : als r p / sst r p = jf r p 2 := by
    unfold als
    exact Int.mul_ediv_cancel_left _ (by omega)
  rw [← e8] at e
  by_cases z : jf r p 5 < 4
  · exact hd ⟨e8, Or.inl (by omega)⟩
  · exact hd ⟨e8, Or.inr (by omega)⟩
theorem sta2_c {r : Int → Int} {p : Int} (hp : 0 ≤ p) : up1 (up1 (up1 r 5 2) 6 (jf r p 0)) 4 (r 12) = sta2 r p := by
  unfold sta2
  have e : jf (up1 (up1 r 4 (r 12)) 5 2) p 0 = jf r p 0 := by
    unfold jf
    rw [up1_ne (by omega), up1_ne (by omega)]
  rw [e]
  funext q
  unfold up1
  (repeat' split) <;> first | rfl | (exfalso; omega)
theorem bsh_c {R : Int → Int} {p s l : Int} (hp : 0 ≤ p) (hl : l = s * R 10 + (if s = 2 then R 11 else 0)) : up1 (up1 (up1 (up1 R 7 (jf R p 0)) 5 1) 6 (jf R p 0)) 4 l = bshL (bsh1 R p) s := by
  unfold bshL bsh1
  have e : jf (bsh2 R p) p 0 = jf R p 0 := by
    unfold bsh2 jf
    rw [up1_ne (by omega), up1_ne (by omega)]
  rw [e]
  unfold bsh2
  rw [show up1 (up1 (up1 R 7 (jf R p 0)) 5 1) 6 (jf R p 0) 10 = R 10 by rw [up1_ne (by decide), up1_ne (by decide), up1_ne (by decide)], show up1 (up1 (up1 R 7 (jf R p 0)) 5 1) 6 (jf R p 0) 11 = R 11 by rw [up1_ne (by decide), up1_ne (by decide), up1_ne (by decide)], hl]
theorem c_X4_beginStapling {σ : Sto} {b : Nat} {c : Nat → Int → Int} {π : Int → Nat} {r : Int → Int} {n0 n9 : Int} {Q : Option Value → Sto → Prop} (hB : MB b) (hX : MX c π r n0 n9) {p : Int} (hp : 0 ≤ p ∧ p < n0) (hJ : JB r p) (g7 : -3000000 ≤ r 7 ∧ r 7 ≤ 3000000) (h8 : jf r p 8 ≤ als r p) (hs9 : jf r p 9 < jf r p 2) (g3 : -3000000 ≤ r 3 ∧ r 3 ≤ 3000000) (z4 : r 4 = 0) (g12 : -3000000 ≤ r 12 ∧ r 12 ≤ 3000000) (k : ∀ (c' : Nat → Int → Int) (π' : Int → Nat), MR c' π' (if r 12 = 0 then stapF (up1 r 4 (r 12)) p else sta2 r p) → Q none (kst b σ c' π')) : Con M_X4_beginStapling 144 144 (kst b σ c π) [.ref b, .ref (b + π p)] Q := by
  refine V_entry ok_X4_beginStapling (Nat.le_refl _) (Nat.le_of_ble_eq_true rfl) (V_ls [(0, .ref b), (1, .ref (b + π p))] ⟨rfl, rfl, trivial⟩ ?_)
  obtain ⟨hM, e0, e9, b0, b9⟩ := id hX
  obtain ⟨k1, k2, k3, k4, k5⟩ := hM.2.2.2.1
  obtain ⟨pp, hj⟩ := MX_j hX hp
  have jj := hJ
  unfold JB at jj
  have jr := hj
  unfold JR at jr
  have s2 : c 22 2 = r 12 := hM.2.2.1 2 (by decide) (by decide)
  refine V_aload_n (pc := 0) e_X4_beginStapling_0 rfl (Or.inl ⟨_, rfl⟩) ?_
  refine Vk_getR (pc := 1) (i := 0) (q := 3) hB rfl (by decide) rfl fx_4_32 e_X4_beginStapling_1 rfl rfl (by decide) rfl ?_
  refine V_iconst (pc := 4) e_X4_beginStapling_4 ?_
  refine Vk_ld (pc := 5) (n := 6) hB rfl (by decide) rfl (by decide) e_X4_beginStapling_5 (by decide) ?_
  refine V_if_ne (pc := 6) e_X4_beginStapling_6 (by decide) (by omega) (fun h6 => ?_) (fun h6 => ?_)
  · refine V_aload_n (pc := 15) e_X4_beginStapling_15 rfl (Or.inl ⟨_, rfl⟩) ?_
    refine V_iconst (pc := 16) e_X4_beginStapling_16 ?_
    refine Vk_put (pc := 17) (i := 0) (q := 6) hB rfl (by decide) rfl fx_4_40 e_X4_beginStapling_17 rfl rfl rfl rfl rfl ?_
    refine V_aload_n (pc := 20) e_X4_beginStapling_20 rfl (Or.inl ⟨_, rfl⟩) ?_
    refine V_aload_n (pc := 21) e_X4_beginStapling_21 rfl (Or.inl ⟨_, rfl⟩) ?_
    refine Vk_get (pc := 22) (q := 0) hB rfl (by omega) (shM_j (by omega) (by omega)) fx_4_127 e_X4_beginStapling_22 rfl rfl ?_
    refine Vk_put (pc := 25) (i := 0) (q := 7) hB rfl (by decide) rfl fx_4_65 e_X4_beginStapling_25 rfl rfl rfl rfl rfl ?_
    refine V_aload_n (pc := 28) e_X4_beginStapling_28 rfl (Or.inl ⟨_, rfl⟩) ?_
    refine V_aload_n (pc := 29) e_X4_beginStapling_29 rfl (Or.inl ⟨_, rfl⟩) ?_
    refine Vk_getR (pc := 30) (i := 0) (q := 3) hB rfl (by decide) rfl fx_4_32 e_X4_beginStapling_30 rfl rfl (by decide) rfl ?_
    refine V_iconst (pc := 33) e_X4_beginStapling_33 ?_
    refine Vk_ld (pc := 34) (n := 6) hB rfl (by decide) rfl (by decide) e_X4_beginStapling_34 (by decide) ?_
    refine Vk_put (pc := 35) (i := 0) (q := 8) hB rfl (by decide) rfl fx_4_68 e_X4_beginStapling_35 rfl rfl rfl rfl rfl ?_
    refine V_ret (pc := 38) (v := none) ⟨e_X4_beginStapling_38, rfl⟩ ?_
    refine k _ _ ?_
    rw [if_neg (by omega), ← sta2_c hp.1]
    have y := MX_tik (MX_wrk hX 2 (jf r p 0)) (r 12)
    have z0 : up2 c 0 6 2 (π p) 0 = jf r p 0 := by rw [up2_o (by omega)]; omega
    have z2 : up2 (up2 c 0 6 2) 0 7 (up2 c 0 6 2 (π p) 0) 22 2 = r 12 := by rw [up2_o (by omega), up2_o (by omega)]; exact s2
    rw [z2, z0]
    exact y.1
  · refine V_aload_n (pc := 9) e_X4_beginStapling_9 rfl (Or.inl ⟨_, rfl⟩) ?_
    refine V_aload_n (pc := 10) e_X4_beginStapling_10 rfl (Or.inl ⟨_, rfl⟩) ?_
    refine V_cV1 (pc := 11) ca_4_136 e_X4_beginStapling_11 (by decide) (Nat.le_of_ble_eq_true rfl) (kb_lt (i := 0) hB (by decide)) ((shB (i := 0) hB (by decide)).trans rfl) (by decide) (c_X4_finishStapling (r := r) (p := p) hB hX hp hJ g7 h8 hs9 g3 (fun c1 π1 y => ?_))
    refine V_ret (pc := 14) (v := none) ⟨e_X4_beginStapling_14, rfl⟩ ?_
    refine k _ _ ?_
    rw [if_pos (by omega), show up1 r 4 (r 12) = r by
      funext q
      unfold up1
      split
      · next z => rw [z]; omega
      · rfl]
    exact y
theorem T_X4_beginSheet {σ : Sto} {b : Nat} {c : Nat → Int → Int} {π : Int → Nat} {r : Int → Int} {n0 n9 : Int} {Q : Option Value → Sto → Prop} (hB : MB b) (hX : MX c π r n0 n9) {p : Int} (hp : 0 ≤ p ∧ p < n0) (hJ : JB r p) (h8 : jf r p 8 < als r p) (k : ∀ c' : Nat → Int → Int, MR c' π (bshL (bsh1 r p) (sid r p)) → Q none (kst b σ c' π)) : V M_X4_beginSheet 144 30 [(0, .ref b), (1, .ref (b + π p))] [] 144 (kst b σ c π) Q := by
  obtain ⟨hM, e0, e9, b0, b9⟩ := id hX
  obtain ⟨k1, k2, k3, k4, k5⟩ := hM.2.2.2.1
  obtain ⟨pp, hj⟩ := MX_j hX hp
  have jj := hJ
  unfold JB at jj
  have jr := hj
  unfold JR at jr
  have nl := nsh_lt hJ h8
  have x1 := MX_lat hX (jf r p 0) (jf r p 0) (Or.inr ⟨by omega, rfl⟩)
  have jI : ∀ w, 0 ≤ w → w < 10 → jf (up1 r 7 (jf r p 0)) p w = jf r p w := fun w a d => up1_ne (by omega)
  have hK : JB (up1 r 7 (jf r p 0)) p := JB_ext jI hJ
  have sx := sid_ext jI
  have ax := sst_ext jI
  have jx := (MX_j x1 hp).2
  have s12 := sid_12 r p
  have c0 : c (π p) 0 = jf r p 0 := by omega
  refine V_aload_n (pc := 30) e_X4_beginSheet_30 rfl (Or.inl ⟨_, rfl⟩) ?_
  refine Vk_getR (pc := 31) (i := 0) (q := 1) hB rfl (by decide) rfl fx_4_21 e_X4_beginSheet_31 rfl rfl (by decide) rfl ?_
  refine V_aload_n (pc := 34) e_X4_beginSheet_34 rfl (Or.inl ⟨_, rfl⟩) ?_
  refine Vk_get (pc := 35) (q := 0) hB rfl (by omega) (shM_j (by omega) (by omega)) fx_4_127 e_X4_beginSheet_35 rfl rfl ?_
  rw [c0]
  refine Vk_put (pc := 38) (q := 3) hB rfl (by decide) rfl fx_4_130 e_X4_beginSheet_38 rfl rfl rfl rfl rfl ?_
  refine V_aload_n (pc := 41) e_X4_beginSheet_41 rfl (Or.inl ⟨_, rfl⟩) ?_
  refine V_cV0 (pc := 42) ca_4_133 e_X4_beginSheet_42 (by decide) (Nat.le_of_ble_eq_true rfl) (kb_lt hB (by omega)) ((shB hB (by omega)).trans (shM_j (by omega) (by omega))) (by decide) (c_X1_sidesOfNextSheet (r := up1 r 7 (jf r p 0)) (p := p) hB pp jx hK (by rw [jI 8 (by decide) (by decide), ax.2]; exact h8) (by rw [sx.2, ax.1]; exact nl) ?_)
  rw [sx.1]
  refine V_istore_n (pc := 45) e_X4_beginSheet_45 (by decide) ?_
  refine V_aload_n (pc := 46) e_X4_beginSheet_46 rfl (Or.inl ⟨_, rfl⟩) ?_
  refine V_iconst (pc := 47) e_X4_beginSheet_47 ?_
  refine Vk_put (pc := 48) (i := 0) (q := 6) hB rfl (by decide) rfl fx_4_40 e_X4_beginSheet_48 rfl rfl rfl rfl rfl ?_
  refine V_aload_n (pc := 51) e_X4_beginSheet_51 rfl (Or.inl ⟨_, rfl⟩) ?_
  refine V_aload_n (pc := 52) e_X4_beginSheet_52 rfl (Or.inl ⟨_, rfl⟩) ?_
  refine Vk_get (pc := 53) (q := 0) hB rfl (by omega) (shM_j (by omega) (by omega)) fx_4_127 e_X4_beginSheet_53 rfl rfl ?_
  refine Vk_put (pc := 56) (i := 0) (q := 7) hB rfl (by decide) rfl fx_4_65 e_X4_beginSheet_56 rfl rfl rfl rfl rfl ?_
  refine V_aload_n (pc := 59) e_X4_beginSheet_59 rfl (Or.inl ⟨_, rfl⟩) ?_
  refine V_iload_n (pc := 60) e_X4_beginSheet_60 rfl ?_
  refine V_aload_n (pc := 61) e_X4_beginSheet_61 rfl (Or.inl ⟨_, rfl⟩) ?_
  refine Vk_getR (pc := 62) (i := 0) (q := 3) hB rfl (by decide) rfl fx_4_32 e_X4_beginSheet_62 rfl rfl (by decide) rfl ?_
  refine V_iconst (pc := 65) e_X4_beginSheet_65 ?_
  refine Vk_ld (pc := 66) (n := 6) hB rfl (by decide) rfl (by decide) e_X4_beginSheet_66 (by decide) ?_
  refine V_imul (pc := 67) e_X4_beginSheet_67 ?_
  refine V_iload_n (pc := 68) e_X4_beginSheet_68 rfl ?_
  refine V_iconst (pc := 69) e_X4_beginSheet_69 ?_
  refine V_icmp_ne (pc := 70) e_X4_beginSheet_70 (by decide) (by omega) (by decide) (fun h70 => ?_) (fun h70 => ?_)
  · refine V_iconst (pc := 82) e_X4_beginSheet_82 ?_
    refine V_iadd (pc := 83) e_X4_beginSheet_83 ?_
    refine Vk_put (pc := 84) (i := 0) (q := 8) hB rfl (by decide) rfl fx_4_68 e_X4_beginSheet_84 rfl rfl rfl rfl rfl ?_
    refine V_ret (pc := 87) (v := none) ⟨e_X4_beginSheet_87, rfl⟩ ?_
    have z0 : up2 (up2 c 5 3 (jf r p 0)) 0 6 1 (π p) 0 = jf r p 0 := by rw [up2_o (by omega), up2_o (by omega)]; exact c0
    have zs : ∀ m : Int, up2 (up2 (up2 c 5 3 (jf r p 0)) 0 6 1) 0 7 (up2 (up2 c 5 3 (jf r p 0)) 0 6 1 (π p) 0) 22 m = c 22 m := fun m => by rw [up2_o (by omega), up2_o (by omega), up2_o (by omega)]
    have s0 : c 22 0 = r 10 := hM.2.2.1 0 (by decide) (by decide)
    have s1 : c 22 1 = r 11 := hM.2.2.1 1 (by decide) (by decide)
    refine k _ ?_
    rw [← bsh_c (R := r) (p := p) (s := sid r p) hp.1 rfl]
    have y := (MX_tik (MX_wrk x1 1 (jf r p 0)) (sid r p * r 10 + (if sid r p = 2 then r 11 else 0))).1
    first
      | (rw [if_pos (by omega)] at y ⊢
         rw [zs, zs, z0, s0, s1]
         exact y)
      | (rw [if_neg (by omega)] at y ⊢
         rw [zs, z0, s0]
         exact y)
  · refine V_aload_n (pc := 73) e_X4_beginSheet_73 rfl (Or.inl ⟨_, rfl⟩) ?_
    refine Vk_getR (pc := 74) (i := 0) (q := 3) hB rfl (by decide) rfl fx_4_32 e_X4_beginSheet_74 rfl rfl (by decide) rfl ?_
    refine V_iconst (pc := 77) e_X4_beginSheet_77 ?_
    refine Vk_ld (pc := 78) (n := 6) hB rfl (by decide) rfl (by decide) e_X4_beginSheet_78 (by decide) ?_
    refine V_goto (pc := 79) e_X4_beginSheet_79 (by decide) ?_
    refine V_iadd (pc := 83) e_X4_beginSheet_83 ?_
    refine Vk_put (pc := 84) (i := 0) (q := 8) hB rfl (by decide) rfl fx_4_68 e_X4_beginSheet_84 rfl rfl rfl rfl rfl ?_
    refine V_ret (pc := 87) (v := none) ⟨e_X4_beginSheet_87, rfl⟩ ?_
    have z0 : up2 (up2 c 5 3 (jf r p 0)) 0 6 1 (π p) 0 = jf r p 0 := by rw [up2_o (by omega), up2_o (by omega)]; exact c0
    have zs : ∀ m : Int, up2 (up2 (up2 c 5 3 (jf r p 0)) 0 6 1) 0 7 (up2 (up2 c 5 3 (jf r p 0)) 0 6 1 (π p) 0) 22 m = c 22 m := fun m => by rw [up2_o (by omega), up2_o (by omega), up2_o (by omega)]
    have s0 : c 22 0 = r 10 := hM.2.2.1 0 (by decide) (by decide)
    have s1 : c 22 1 = r 11 := hM.2.2.1 1 (by decide) (by decide)
    refine k _ ?_
    rw [← bsh_c (R := r) (p := p) (s := sid r p) hp.1 rfl]
    have y := (MX_tik (MX_wrk x1 1 (jf r p 0)) (sid r p * r 10 + (if sid r p = 2 then r 11 else 0))).1
    first
      | (rw [if_pos (by omega)] at y ⊢
         rw [zs, zs, z0, s0, s1]
         exact y)
      | (rw [if_neg (by omega)] at y ⊢
         rw [zs, z0, s0]
         exact y)
theorem bshF_e {r : Int → Int} {p : Int} : bshF r p = bshL (bsh1 (tkF r (jf r p 3) (jf r p 4)) p) (sid (tkF r (jf r p 3) (jf r p 4)) p) := rfl
theorem c_X4_beginSheet {σ : Sto} {b : Nat} {c : Nat → Int → Int} {π : Int → Nat} {r : Int → Int} {n0 n9 : Int} {Q : Option Value → Sto → Prop} (hB : MB b) (hX : MX c π r n0 n9) {p : Int} (hp : 0 ≤ p ∧ p < n0) (hJ : JB r p) (g7 : -3000000 ≤ r 7 ∧ r 7 ≤ 3000000) (hT : RT r) (h8 : jf r p 8 < als r p) (hO : tkO r (jf r p 3) (jf r p 4)) (k : ∀ c' : Nat → Int → Int, MR c' π (bshF r p) → Q none (kst b σ c' π)) : Con M_X4_beginSheet 144 144 (kst b σ c π) [.ref b, .ref (b + π p)] Q := by
  refine V_entry ok_X4_beginSheet (Nat.le_refl _) (Nat.le_of_ble_eq_true rfl) (V_ls [(0, .ref b), (1, .ref (b + π p))] ⟨rfl, rfl, trivial⟩ ?_)
  obtain ⟨hM, e0, e9, b0, b9⟩ := id hX
  obtain ⟨k1, k2, k3, k4, k5⟩ := hM.2.2.2.1
  obtain ⟨pp, hj⟩ := MX_j hX hp
  have jj := hJ
  unfold JB at jj
  have jr := hj
  unfold JR at jr
  obtain ⟨t1, t2, t3, t4⟩ := tkO_0 hO
  have tx := tkF_X hX hO
  have x1 := MX_tray hX (t := lwt r (jf r p 3) (jf r p 4)) (by omega)
  have e3 : up2 c 4 (lwt r (jf r p 3) (jf r p 4)) (c 4 (lwt r (jf r p 3) (jf r p 4)) - 1) (π p) 3 = jf r p 3 := by rw [up2_o (by omega)]; omega
  have e4 : up2 c 4 (lwt r (jf r p 3) (jf r p 4)) (c 4 (lwt r (jf r p 3) (jf r p 4)) - 1) (π p) 4 = jf r p 4 := by rw [up2_o (by omega)]; omega
  have jI : ∀ w, 0 ≤ w → w < 10 → jf (tkF r (jf r p 3) (jf r p 4)) p w = jf r p w := fun w a d => tkF_hi hO (by omega)
  have hK : JB (tkF r (jf r p 3) (jf r p 4)) p := JB_ext jI hJ
  have pq : ppl (tk0 r (jf r p 3) (jf r p 4)) (jf r p 3) (jf r p 4) = ppl (sbn r (25 + 3 * lwt r (jf r p 3) (jf r p 4) + 2) 1) (jf r p 3) (jf r p 4) := by
    refine ppl_ext (by rw [x1.2.2.1]; exact b9.1) (by unfold tk0 inc; exact up1_ne (by decide)) (fun q a d => ?_)
    have := x1.2.2.1
    unfold tk0 inc
    exact ⟨up1_ne (by omega), up1_ne (by omega)⟩
  have rb1 : RB (sbn r (25 + 3 * lwt r (jf r p 3) (jf r p 4) + 2) 1) := by
    have g := hO.1.1 (25 + 3 * lwt r (jf r p 3) (jf r p 4) + 2) (by omega) (by omega) (by omega)
    exact RB_up1 hO.1.1 (Or.inl (by have := hO.2.2.1; omega))
  have f9 := x1.2.2.1
  refine V_aload_n (pc := 0) e_X4_beginSheet_0 rfl (Or.inl ⟨_, rfl⟩) ?_
  refine Vk_getR (pc := 1) (i := 0) (q := 0) hB rfl (by decide) rfl fx_4_12 e_X4_beginSheet_1 rfl rfl (by decide) rfl ?_
  refine V_aload_n (pc := 4) e_X4_beginSheet_4 rfl (Or.inl ⟨_, rfl⟩) ?_
  refine Vk_get (pc := 5) (q := 3) hB rfl (by omega) (shM_j (by omega) (by omega)) fx_4_111 e_X4_beginSheet_5 rfl rfl ?_
  refine V_aload_n (pc := 8) e_X4_beginSheet_8 rfl (Or.inl ⟨_, rfl⟩) ?_
  refine Vk_get (pc := 9) (q := 4) hB rfl (by omega) (shM_j (by omega) (by omega)) fx_4_114 e_X4_beginSheet_9 rfl rfl ?_
  rw [show c (π p) 3 = jf r p 3 by omega, show c (π p) 4 = jf r p 4 by omega]
  refine V_cV2 (pc := 12) ca_4_121 e_X4_beginSheet_12 (by decide) (Nat.le_of_ble_eq_true rfl) (kb_lt hB (by decide)) ((shB hB (by decide)).trans rfl) (by decide) (c_X6_takeSheet (r := r) hB hM.1 hT (by omega) (by omega) (by omega) ?_)
  refine V_aload_n (pc := 15) e_X4_beginSheet_15 rfl (Or.inl ⟨_, rfl⟩) ?_
  refine Vk_getR (pc := 16) (i := 0) (q := 2) hB rfl (by decide) rfl fx_4_28 e_X4_beginSheet_16 rfl rfl (by decide) rfl ?_
  refine V_aload_n (pc := 19) e_X4_beginSheet_19 rfl (Or.inl ⟨_, rfl⟩) ?_
  refine Vk_get (pc := 20) (q := 3) hB rfl (by omega) (shM_j (by omega) (by omega)) fx_4_111 e_X4_beginSheet_20 rfl rfl ?_
  refine V_aload_n (pc := 23) e_X4_beginSheet_23 rfl (Or.inl ⟨_, rfl⟩) ?_
  refine Vk_get (pc := 24) (q := 4) hB rfl (by omega) (shM_j (by omega) (by omega)) fx_4_114 e_X4_beginSheet_24 rfl rfl ?_
  rw [e3, e4]
  refine V_cV2 (pc := 27) ca_4_124 e_X4_beginSheet_27 (by decide) (Nat.le_of_ble_eq_true rfl) (kb_lt hB (by decide)) ((shB hB (by decide)).trans rfl) (by decide) (c_X3_addTakenSheet (r := sbn r (25 + 3 * lwt r (jf r p 3) (jf r p 4) + 2) 1) hB x1.1.2.1 rb1 (by omega) (by omega) (by omega) (by omega) (fun a d => ?_) (fun a d => ?_))
  · first
      | (obtain ⟨nn, y⟩ := tx.1 a (by omega)
         exact V_lq [(0, .ref b), (1, .ref (b + π p))] ⟨⟨_, rfl, rfl⟩, ⟨_, rfl, rfl⟩, trivial⟩ (T_X4_beginSheet hB y hp hK (by rw [jI 8 (by decide) (by decide), (sst_ext jI).2]; exact h8) (fun c1 z => k _ z)))
      | (rw [f9] at a d ⊢
         obtain ⟨nn, y⟩ := tx.2 a d
         exact V_lq [(0, .ref b), (1, .ref (b + π p))] ⟨⟨_, rfl, rfl⟩, ⟨_, rfl, rfl⟩, trivial⟩ (T_X4_beginSheet hB y hp hK (by rw [jI 8 (by decide) (by decide), (sst_ext jI).2]; exact h8) (fun c1 z => k _ z)))
  · first
      | (obtain ⟨nn, y⟩ := tx.1 a (by omega)
         exact V_lq [(0, .ref b), (1, .ref (b + π p))] ⟨⟨_, rfl, rfl⟩, ⟨_, rfl, rfl⟩, trivial⟩ (T_X4_beginSheet hB y hp hK (by rw [jI 8 (by decide) (by decide), (sst_ext jI).2]; exact h8) (fun c1 z => k _ z)))
      | (rw [f9] at a d ⊢
         obtain ⟨nn, y⟩ := tx.2 a d
         exact V_lq [(0, .ref b), (1, .ref (b + π p))] ⟨⟨_, rfl, rfl⟩, ⟨_, rfl, rfl⟩, trivial⟩ (T_X4_beginSheet hB y hp hK (by rw [jI 8 (by decide) (by decide), (sst_ext jI).2]; exact h8) (fun c1 z => k _ z)))
