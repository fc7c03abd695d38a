/-! the class: a machine's work, sheets and staplings -/
/-- the relation, with the row's numbers of jobs and papers kept in sight -/
def MX (c : Nat → Int → Int) (π : Int → Nat) (r : Int → Int) (n0 n9 : Int) : Prop := MR c π r ∧ r 0 = n0 ∧ r 9 = n9 ∧ (0 ≤ n0 ∧ n0 ≤ 10) ∧ 0 ≤ n9 ∧ n9 ≤ 16
section MXS
variable {c : Nat → Int → Int} {π : Int → Nat} {r : Int → Int} {n0 n9 : Int}
theorem MX_acc (h : MX c π r n0 n9) (w a : Int) (hw : 0 ≤ w ∧ w < 9) : MX (up2 c 18 w (c 18 w + a)) π (adn r (16 + w) a) n0 n9 := by
  obtain ⟨m, e0, e9, b0, b9⟩ := h
  have y := MR_acc (x := c 18 w + a) (by omega) (by omega) m hw
  refine ⟨?_, (up1_ne (by omega)).trans e0, (up1_ne (by omega)).trans e9, b0, b9⟩
  unfold adn
  rw [← m.2.1.1 w hw.1 hw.2]
  exact y
theorem MX_bin (h : MX c π r n0 n9) (a : Int) : MX (up2 c 0 5 (c 0 5 + a)) π (adn r 2 a) n0 n9 := by
  obtain ⟨m, e0, e9, b0, b9⟩ := h
  have y := MR_bin (x := c 0 5 + a) (by omega) (by omega) m
  refine ⟨?_, (up1_ne (by omega)).trans e0, (up1_ne (by omega)).trans e9, b0, b9⟩
  unfold adn
  rw [← m.2.2.2.1.2.1]
  exact y
theorem MX_sta (h : MX c π r n0 n9) (a : Int) : MX (up2 c 0 4 (c 0 4 - a)) π (sbn r 3 a) n0 n9 := by
  obtain ⟨m, e0, e9, b0, b9⟩ := h
  have y := MR_sta (x := c 0 4 - a) (by omega) (by omega) m
  refine ⟨?_, (up1_ne (by omega)).trans e0, (up1_ne (by omega)).trans e9, b0, b9⟩
  unfold sbn
  rw [← m.2.2.2.1.1]
  exact y
theorem MX_tik (h : MX c π r n0 n9) (x : Int) : MX (up2 c 0 8 x) π (up1 r 4 x) n0 n9 := by
  obtain ⟨m, e0, e9, b0, b9⟩ := h
  exact ⟨MR_tik (by omega) (by omega) m, (up1_ne (by omega)).trans e0, (up1_ne (by omega)).trans e9, b0, b9⟩
theorem MX_wrk (h : MX c π r n0 n9) (v j : Int) : MX (up2 (up2 c 0 6 v) 0 7 j) π (up1 (up1 r 5 v) 6 j) n0 n9 := by
  obtain ⟨m, e0, e9, b0, b9⟩ := h
  exact ⟨MR_wrk (by omega) (by omega) m, (up1_ne (by omega)).trans ((up1_ne (by omega)).trans e0), (up1_ne (by omega)).trans ((up1_ne (by omega)).trans e9), b0, b9⟩
theorem MX_fin (h : MX c π r n0 n9) (a : Int) : MX (up2 c 17 5 (c 17 5 + a)) π (adn r 8 a) n0 n9 := by
  obtain ⟨m, e0, e9, b0, b9⟩ := h
  have y := MR_fin (x := c 17 5 + a) (by omega) (by omega) m
  refine ⟨?_, (up1_ne (by omega)).trans e0, (up1_ne (by omega)).trans e9, b0, b9⟩
  unfold adn
  rw [← m.2.1.2.2.1]
  exact y
theorem MX_lat (h : MX c π r n0 n9) (x y : Int) (hx : (x = -4 ∧ y = -1) ∨ (0 ≤ x ∧ y = x)) : MX (up2 c 5 3 y) π (up1 r 7 x) n0 n9 := by
  obtain ⟨m, e0, e9, b0, b9⟩ := h
  exact ⟨MR_lat (by omega) (by omega) m hx, (up1_ne (by omega)).trans e0, (up1_ne (by omega)).trans e9, b0, b9⟩
theorem MX_j (h : MX c π r n0 n9) {p : Int} (hp : 0 ≤ p ∧ p < n0) : (7 ≤ π p ∧ π p ≤ 16) ∧ JR c (π p) r p := by
  obtain ⟨m, e0, e9, b0, b9⟩ := h
  exact ⟨m.2.2.2.2.2.2.2.1.1 p hp.1 (by omega), m.2.2.2.2.2.2.2.2 p hp.1 (by omega)⟩
theorem MX_prn (h : MX c π r n0 n9) {p : Int} (hp : 0 ≤ p ∧ p < n0) : MX (up2 c (π p) 13 (c (π p) 13 + 1)) π (inc r (85 + 10 * p + 8)) n0 n9 := by
  have j := (MX_j h hp).2
  obtain ⟨m, e0, e9, b0, b9⟩ := h
  have y := MR_job (x := c (π p) 13 + 1) (by omega) (by omega) m (p := p) (w := 8) (by decide) (by omega)
  refine ⟨?_, (up1_ne (by omega)).trans e0, (up1_ne (by omega)).trans e9, b0, b9⟩
  unfold inc
  unfold JR at j
  rw [show r (85 + 10 * p + 8) = c (π p) 13 from j.2.2.2.2.2.2.2.2.2.2.2.2.2.1.symm]
  exact y
theorem MX_stp (h : MX c π r n0 n9) {p : Int} (hp : 0 ≤ p ∧ p < n0) : MX (up2 c (π p) 14 (c (π p) 14 + 1)) π (inc r (85 + 10 * p + 9)) n0 n9 := by
  have j := (MX_j h hp).2
  obtain ⟨m, e0, e9, b0, b9⟩ := h
  have y := MR_job (x := c (π p) 14 + 1) (by omega) (by omega) m (p := p) (w := 9) (by decide) (by omega)
  refine ⟨?_, (up1_ne (by omega)).trans e0, (up1_ne (by omega)).trans e9, b0, b9⟩
  unfold inc
  unfold JR at j
  rw [show r (85 + 10 * p + 9) = c (π p) 14 from j.2.2.2.2.2.2.2.2.2.2.2.2.2.2.symm]
  exact y
theorem MX_tray (h : MX c π r n0 n9) {t : Int} (ht : 0 ≤ t ∧ t < 4) : MX (up2 c 4 t (c 4 t - 1)) π (sbn r (25 + 3 * t + 2) 1) n0 n9 := by
  obtain ⟨m, e0, e9, b0, b9⟩ := h
  have y := MR_tray (x := c 4 t - 1) (by omega) (by omega) m ht
  refine ⟨?_, (up1_ne (by omega)).trans e0, (up1_ne (by omega)).trans e9, b0, b9⟩
  unfold sbn
  rw [← (m.1 t ht.1 ht.2).2.2]
  exact y
theorem MX_pap1 (h : MX c π r n0 n9) {k : Int} (hk : 0 ≤ k ∧ k < n9) : MX (up2 c 21 k (c 21 k + 1)) π (inc r (37 + 3 * k + 2)) n0 n9 := by
  obtain ⟨m, e0, e9, b0, b9⟩ := h
  have y := MR_pap1 (x := c 21 k + 1) (by omega) (by omega) m (k := k) (by omega)
  refine ⟨?_, (up1_ne (by omega)).trans e0, (up1_ne (by omega)).trans e9, b0, b9⟩
  unfold inc
  rw [← (m.2.1.2.2.2 k hk.1 (by omega)).2.2]
  exact y
theorem MX_pap2 (h : MX c π r n0 n9) (hk : n9 < 16) (s q : Int) : MX (up2 (up2 (up2 (up2 c 19 n9 s) 20 n9 q) 21 n9 1) 17 4 (n9 + 1)) π (inc (inc (up1 (up1 (up1 r (37 + 3 * n9) s) (37 + 3 * n9 + 1) q) (37 + 3 * n9 + 2) 0) 9) (37 + 3 * n9 + 2)) n0 (n9 + 1) := by
  obtain ⟨m, e0, e9, b0, b9⟩ := h
  refine ⟨MR_pap2 (by omega) m ⟨b9.1, hk⟩ e9, ?_, ?_, b0, by omega⟩
  · unfold inc
    simp (disch := omega) only [up1_ne]
    exact e0
  · unfold inc
    simp (disch := omega) only [up1_ne, up1_at]
    omega
end MXS
theorem sid_ext {r r' : Int → Int} {p : Int} (h : ∀ w, 0 ≤ w → w < 10 → jf r' p w = jf r p w) : sid r' p = sid r p ∧ nsh r' p = nsh r p := by
  have e := sst_ext h
  have n : nsh r' p = nsh r p := by
    unfold nsh
    rw [h 5 (by decide) (by decide), h 8 (by decide) (by decide), h 2 (by decide) (by decide), e.1]
  unfold sid
  rw [n, e.1, h 5 (by decide) (by decide), h 1 (by decide) (by decide)]
  exact ⟨rfl, rfl⟩
theorem ppl_ext {r r' : Int → Int} {s q : Int} (h9 : 0 ≤ r 9) (e9 : r' 9 = r 9) (h : ∀ k, 0 ≤ k → k < r 9 → r' (37 + 3 * k) = r (37 + 3 * k) ∧ r' (37 + 3 * k + 1) = r (37 + 3 * k + 1)) : ppl r' s q = ppl r s q := by
  have m : ∀ k, 0 ≤ k → k < r 9 → (ppm r' s q k ↔ ppm r s q k) := fun k a d => by
    unfold ppm
    rw [(h k a d).1, (h k a d).2]
  rcases ppl_sp r s q h9 with ⟨z, y⟩ | ⟨z0, z1, z2, z3⟩
  · rw [z, ppl_no (fun i a d => fun w => y i a (by omega) ((m i a (by omega)).mp w)), e9]
  · exact ppl_at z0 (by omega) ((m _ z0 z1).mpr z2) (fun i a d w => z3 i a d ((m i a (by omega)).mp w))
theorem tkF_X {c : Nat → Int → Int} {π : Int → Nat} {r : Int → Int} {n0 n9 s q : Int} (h : MX c π r n0 n9) (hO : tkO r s q) :
    (0 ≤ ppl (sbn r (25 + 3 * lwt r s q + 2) 1) s q → ppl (sbn r (25 + 3 * lwt r s q + 2) 1) s q < n9 → ∃ n, MX (up2 (up2 (up2 c 4 (lwt r s q) (c 4 (lwt r s q) - 1)) 18 0 (up2 c 4 (lwt r s q) (c 4 (lwt r s q) - 1) 18 0 + 1)) 21 (ppl (sbn r (25 + 3 * lwt r s q + 2) 1) s q) (up2 (up2 c 4 (lwt r s q) (c 4 (lwt r s q) - 1)) 18 0 (up2 c 4 (lwt r s q) (c 4 (lwt r s q) - 1) 18 0 + 1) 21 (ppl (sbn r (25 + 3 * lwt r s q + 2) 1) s q) + 1)) π (tkF r s q) n0 n) ∧
    (ppl (sbn r (25 + 3 * lwt r s q + 2) 1) s q = n9 → n9 < 16 → ∃ n, MX (up2 (up2 (up2 (up2 (up2 (up2 c 4 (lwt r s q) (c 4 (lwt r s q) - 1)) 18 0 (up2 c 4 (lwt r s q) (c 4 (lwt r s q) - 1) 18 0 + 1)) 19 n9 s) 20 n9 q) 21 n9 1) 17 4 (n9 + 1)) π (tkF r s q) n0 n) := by
  obtain ⟨z1, z2, z3, z4⟩ := tkO_0 hO
  have m1 := MX_tray h (t := lwt r s q) (by omega)
  have m2 := MX_acc m1 0 1 (by decide)
  have t0 : adn (sbn r (25 + 3 * lwt r s q + 2) 1) (16 + 0) 1 = tk0 r s q := rfl
  rw [t0] at m2
  have pe : ppl (tk0 r s q) s q = ppl (sbn r (25 + 3 * lwt r s q + 2) 1) s q := by
    refine ppl_ext ?_ ?_ (fun k a d => ?_)
    · rw [m1.2.2.1]; exact m1.2.2.2.2.1
    · rw [m1.2.2.1, m2.2.2.1]
    · unfold tk0 inc
      rw [up1_ne (by omega), up1_ne (by omega)]
      exact ⟨rfl, rfl⟩
  constructor
  · intro a d
    refine ⟨n9, ?_⟩
    have y := MX_pap1 m2 (k := ppl (tk0 r s q) s q) (by omega)
    have e : tkF r s q = inc (tk0 r s q) (37 + 3 * ppl (tk0 r s q) s q + 2) := by
      unfold tkF tk1
      rw [if_neg (by rw [m2.2.2.1]; omega)]
    rw [e]
    rw [pe] at y ⊢
    exact y
  · intro a d
    refine ⟨n9 + 1, ?_⟩
    have y := MX_pap2 m2 d s q
    have e : tkF r s q = inc (inc (up1 (up1 (up1 (tk0 r s q) (37 + 3 * n9) s) (37 + 3 * n9 + 1) q) (37 + 3 * n9 + 2) 0) 9) (37 + 3 * n9 + 2) := by
      unfold tkF tk1
      rw [if_pos (by rw [m2.2.2.1]; omega), pe, a]
    rw [e]
    exact y
theorem stap_x {r : Int → Int} {p : Int} (hp : 0 ≤ p) {w : Int} (h0 : 0 ≤ w) (h1 : w < 10) : jf (stapF0 r p) p w = if w = 9 then jf r p 9 + 1 else jf r p w := by
  unfold stapF0 inc
  unfold jf
  by_cases y : w = 9
  · subst y
    rw [if_pos rfl, up1_at]
    unfold adn sbn
    rw [up1_ne (by omega), up1_ne (by omega)]
  · rw [if_neg y, up1_ne (by omega)]
    unfold adn sbn
    rw [up1_ne (by omega), up1_ne (by omega)]
theorem als_e {r r' : Int → Int} {p : Int} (h1 : jf r' p 1 = jf r p 1) (h2 : jf r' p 2 = jf r p 2) (h5 : jf r' p 5 = jf r p 5) : als r' p = als r p := by
  unfold als sst
  rw [h1, h2, h5]
theorem stap_f {r : Int → Int} {p : Int} (hp : 0 ≤ p) : als (stapF0 r p) p = als r p ∧ jf (stapF0 r p) p 8 = jf r p 8 ∧ jf (stapF0 r p) p 9 = jf r p 9 + 1 ∧ jf (stapF0 r p) p 2 = jf r p 2 := by
  refine ⟨als_e ?_ ?_ ?_, ?_, ?_, ?_⟩ <;> rw [stap_x hp (by decide) (by decide)] <;> first | rw [if_neg (by decide)] | rw [if_pos rfl]
theorem c_X4_finishStapling {σ : Sto} {b : Nat} {c : Nat → Int → Int} {π : Int → Nat} {r : Int → Int} {n0 n9 : Int} {Q : Option Value → Sto → Prop} (hB : MB b) (hX : MX c π r n0 n9) {p : Int} (hp : 0 ≤ p ∧ p < n0) (hJ : JB r p) (g7 : -3000000 ≤ r 7 ∧ r 7 ≤ 3000000) (h8 : jf r p 8 ≤ als r p) (hs9 : jf r p 9 < jf r p 2) (g3 : -3000000 ≤ r 3 ∧ r 3 ≤ 3000000) (k : ∀ (c' : Nat → Int → Int) (π' : Int → Nat), MR c' π' (stapF r p) → Q none (kst b σ c' π')) : Con M_X4_finishStapling 144 144 (kst b σ c π) [.ref b, .ref (b + π p)] Q := by
  refine V_entry ok_X4_finishStapling (Nat.le_refl _) (Nat.le_of_ble_eq_true rfl) (V_ls [(0, .ref b), (1, .ref (b + π p))] ⟨rfl, rfl, trivial⟩ ?_)
  obtain ⟨hM, e0, e9, b0, b9⟩ := id hX
  obtain ⟨k1, k2, k3, k4, k5⟩ := hM.2.2.2.1
  obtain ⟨pp, hj⟩ := MX_j hX hp
  have jj := hJ
  unfold JB at jj
  have jr := hj
  unfold JR at jr
  refine V_aload_n (pc := 0) e_X4_finishStapling_0 rfl (Or.inl ⟨_, rfl⟩) ?_
  refine Vk_get (pc := 1) (i := 0) (q := 4) hB rfl (by decide) rfl fx_4_36 e_X4_finishStapling_1 rfl rfl ?_
  refine V_aload_n (pc := 4) e_X4_finishStapling_4 rfl (Or.inl ⟨_, rfl⟩) ?_
  refine Vk_get (pc := 5) (q := 8) hB rfl (by omega) (shM_j (by omega) (by omega)) fx_4_108 e_X4_finishStapling_5 rfl rfl ?_
  refine V_min (pc := 8) rfl (by decide) (Nat.le_of_ble_eq_true rfl) e_X4_finishStapling_8 (by omega) (by omega) ?_
  rw [show (if c (π p) 8 < c 0 4 then c (π p) 8 else c 0 4) = useF r p by unfold useF; split <;> split <;> omega]
  refine V_istore_n (pc := 11) e_X4_finishStapling_11 (by decide) ?_
  refine V_aload_n (pc := 12) e_X4_finishStapling_12 rfl (Or.inl ⟨_, rfl⟩) ?_
  refine V_dup (pc := 13) e_X4_finishStapling_13 rfl ?_
  refine Vk_get (pc := 14) (i := 0) (q := 4) hB rfl (by decide) rfl fx_4_36 e_X4_finishStapling_14 rfl rfl ?_
  refine V_iload_n (pc := 17) e_X4_finishStapling_17 rfl ?_
  refine V_isub (pc := 18) e_X4_finishStapling_18 ?_
  refine Vk_put (pc := 19) (i := 0) (q := 4) hB rfl (by decide) rfl fx_4_36 e_X4_finishStapling_19 rfl rfl rfl rfl rfl ?_
  refine V_aload_n (pc := 22) e_X4_finishStapling_22 rfl (Or.inl ⟨_, rfl⟩) ?_
  refine Vk_getR (pc := 23) (i := 0) (q := 2) hB rfl (by decide) rfl fx_4_28 e_X4_finishStapling_23 rfl rfl (by decide) rfl ?_
  refine V_iconst (pc := 26) e_X4_finishStapling_26 ?_
  refine V_iload_n (pc := 27) e_X4_finishStapling_27 rfl ?_
  refine V_cV2 (pc := 28) ca_4_79 e_X4_finishStapling_28 (by decide) (Nat.le_of_ble_eq_true rfl) (kb_lt hB (by decide)) ((shB hB (by decide)).trans rfl) (by decide) (c_X3_add hB (by decide) ?_)
  refine V_aload_n (pc := 31) e_X4_finishStapling_31 rfl (Or.inl ⟨_, rfl⟩) ?_
  refine V_dup (pc := 32) e_X4_finishStapling_32 rfl ?_
  refine Vk_get (pc := 33) (q := 14) hB rfl (by omega) (shM_j (by omega) (by omega)) fx_4_159 e_X4_finishStapling_33 rfl rfl ?_
  refine V_iconst (pc := 36) e_X4_finishStapling_36 ?_
  refine V_iadd (pc := 37) e_X4_finishStapling_37 ?_
  refine Vk_put (pc := 38) (q := 14) hB rfl (by omega) (shM_j (by omega) (by omega)) fx_4_159 e_X4_finishStapling_38 rfl rfl rfl rfl rfl ?_
  have x3 : MX _ π (stapF0 r p) n0 n9 := MX_stp (MX_acc (MX_sta hX (useF r p)) 4 (useF r p) (by decide)) hp
  have sf := stap_f (r := r) hp.1
  refine V_aload_n (pc := 41) e_X4_finishStapling_41 rfl (Or.inl ⟨_, rfl⟩) ?_
  refine V_aload_n (pc := 42) e_X4_finishStapling_42 rfl (Or.inl ⟨_, rfl⟩) ?_
  refine V_cV1 (pc := 43) ca_4_156 e_X4_finishStapling_43 (by decide) (Nat.le_of_ble_eq_true rfl) (kb_lt (i := 0) hB (by decide)) ((shB (i := 0) hB (by decide)).trans rfl) (by decide) (c_X4_removeIfFinished (r := stapF0 r p) (p := p) hB x3.1 (by rw [x3.2.1]; exact b0) (by rw [x3.2.2.1]; exact b9) (by rw [x3.2.1]; exact hp) (stap0_J (by omega) hJ) (by rw [stap0_at hp.1 (by decide) (by decide) (by decide)]; exact g7) (by omega) (by omega) (fun c1 π1 y => ?_))
  refine V_ret (pc := 46) (v := none) ⟨e_X4_finishStapling_46, rfl⟩ ?_
  exact k _ _ y
theorem fin2_c {r : Int → Int} {p s : Int} (hp : 0 ≤ p) (hs : s = sid (inc (inc r 2) 17) p) : inc (adn (adn (adn r (16 + 1) 1) (16 + 3) s) 2 1) (85 + 10 * p + 8) = fin2 r p := by
  unfold fin2
  rw [← hs]
  have e : adn (adn (adn r (16 + 1) 1) (16 + 3) s) 2 1 = adn (inc (inc r 2) 17) 19 s := by
    funext q
    unfold adn inc up1
    (repeat' split) <;> first | rfl | omega
  rw [e]
theorem fin2_x {r : Int → Int} {p : Int} (hp : 0 ≤ p) {w : Int} (h0 : 0 ≤ w) (h1 : w < 10) : jf (fin2 r p) p w = if w = 8 then jf r p 8 + 1 else jf r p w := by
  unfold fin2 inc
  unfold jf
  by_cases y : w = 8
  · subst y
    rw [if_pos rfl, up1_at]
    unfold adn
    rw [up1_ne (by omega), up1_ne (by omega), up1_ne (by omega)]
  · rw [if_neg y, up1_ne (by omega)]
    unfold adn
    rw [up1_ne (by omega), up1_ne (by omega), up1_ne (by omega)]
theorem fin2_f {r : Int → Int} {p : Int} (hp : 0 ≤ p) : als (fin2 r p) p = als r p ∧ jf (fin2 r p) p 8 = jf r p 8 + 1 ∧ jf (fin2 r p) p 9 = jf r p 9 ∧ jf (fin2 r p) p 2 = jf r p 2 := by
  refine ⟨als_e ?_ ?_ ?_, ?_, ?_, ?_⟩ <;> rw [fin2_x hp (by decide) (by decide)] <;> first | rw [if_neg (by decide)] | rw [if_pos rfl]
theorem c_X4_finishSheet {σ : Sto} {b : Nat} {c : Nat → Int → Int} {π : Int → Nat} {r : Int → Int} {n0 n9 : Int} {Q : Option Value → Sto → Prop} (hB : MB b) (hX : MX c π r n0 n9) {p : Int} (hp : 0 ≤ p ∧ p < n0) (hJ : JB r p) (g7 : -3000000 ≤ r 7 ∧ r 7 ≤ 3000000) (h8 : jf r p 8 < als r p) (hs9 : jf r p 9 ≤ jf r p 2) (hn : nsh r p < sst r p) (g8 : 0 ≤ r 8 ∧ r 8 ≤ 2999999) (g14 : 0 ≤ r 14 ∧ r 14 ≤ 3000000) (k : ∀ (c' : Nat → Int → Int) (π' : Int → Nat), MR c' π' (fin1 (inc r 8) p) → Q none (kst b σ c' π')) : Con M_X4_finishSheet 144 144 (kst b σ c π) [.ref b, .ref (b + π p)] Q := by
  refine V_entry ok_X4_finishSheet (Nat.le_refl _) (Nat.le_of_ble_eq_true rfl) (V_ls [(0, .ref b), (1, .ref (b + π p))] ⟨rfl, rfl, trivial⟩ ?_)
  obtain ⟨hM, e0, e9, b0, b9⟩ := id hX
  obtain ⟨k1, k2, k3, k4, k5⟩ := hM.2.2.2.1
  obtain ⟨pp, hj⟩ := MX_j hX hp
  have jj := hJ
  unfold JB at jj
  have jr := hj
  unfold JR at jr
  have s4 : c 22 4 = r 14 := hM.2.2.1 4 (by decide) (by decide)
  have f5 : c 17 5 = r 8 := hM.2.1.2.2.1
  have x1 : MX (up2 c 17 5 (c 17 5 + 1)) π (inc r 8) n0 n9 := MX_fin hX 1
  have s4x : up2 c 17 5 (c 17 5 + 1) 22 4 = r 14 := by rw [up2_o (by omega)]; exact s4
  have f5x : up2 c 17 5 (c 17 5 + 1) 17 5 = r 8 + 1 := by rw [up2_e, f5]
  have i8 : inc r 8 8 = r 8 + 1 := up1_at
  have i14 : inc r 8 14 = r 14 := up1_ne (by decide)
  have jI : ∀ w, 0 ≤ w → w < 10 → jf (adn (inc r 8) (16 + 1) 1) p w = jf r p w := fun w a d => by
    unfold adn inc jf
    rw [up1_ne (by omega), up1_ne (by omega)]
  refine V_aload_n (pc := 0) e_X4_finishSheet_0 rfl (Or.inl ⟨_, rfl⟩) ?_
  refine Vk_getR (pc := 1) (i := 0) (q := 2) hB rfl (by decide) rfl fx_4_28 e_X4_finishSheet_1 rfl rfl (by decide) rfl ?_
  refine V_dup (pc := 4) e_X4_finishSheet_4 rfl ?_
  refine Vk_get (pc := 5) (q := 5) hB rfl (by decide) rfl fx_4_150 e_X4_finishSheet_5 rfl rfl ?_
  refine V_iconst (pc := 8) e_X4_finishSheet_8 ?_
  refine V_iadd (pc := 9) e_X4_finishSheet_9 ?_
  refine Vk_put (pc := 10) (q := 5) hB rfl (by decide) rfl fx_4_150 e_X4_finishSheet_10 rfl rfl rfl rfl rfl ?_
  refine V_aload_n (pc := 13) e_X4_finishSheet_13 rfl (Or.inl ⟨_, rfl⟩) ?_
  refine Vk_getR (pc := 14) (i := 0) (q := 3) hB rfl (by decide) rfl fx_4_32 e_X4_finishSheet_14 rfl rfl (by decide) rfl ?_
  refine V_iconst (pc := 17) e_X4_finishSheet_17 ?_
  refine Vk_ld (pc := 18) (n := 6) hB rfl (by decide) rfl (by decide) e_X4_finishSheet_18 (by decide) ?_
  refine V_istore_n (pc := 19) e_X4_finishSheet_19 (by decide) ?_
  refine V_iload_n (pc := 20) e_X4_finishSheet_20 rfl ?_
  refine V_if_le (pc := 21) e_X4_finishSheet_21 (by decide) (by omega) (fun h21 => ?_) (fun h21 => ?_)
  · have x2 := MX_acc x1 1 1 (by decide)
    refine V_aload_n (pc := 46) e_X4_finishSheet_46 rfl (Or.inl ⟨_, rfl⟩) ?_
    refine Vk_getR (pc := 47) (i := 0) (q := 2) hB rfl (by decide) rfl fx_4_28 e_X4_finishSheet_47 rfl rfl (by decide) rfl ?_
    refine V_iconst (pc := 50) e_X4_finishSheet_50 ?_
    refine V_iconst (pc := 51) e_X4_finishSheet_51 ?_
    refine V_cV2 (pc := 52) ca_4_79 e_X4_finishSheet_52 (by decide) (Nat.le_of_ble_eq_true rfl) (kb_lt hB (by decide)) ((shB hB (by decide)).trans rfl) (by decide) (c_X3_add hB (by decide) ?_)
    refine V_aload_n (pc := 55) e_X4_finishSheet_55 rfl (Or.inl ⟨_, rfl⟩) ?_
    refine Vk_getR (pc := 56) (i := 0) (q := 2) hB rfl (by decide) rfl fx_4_28 e_X4_finishSheet_56 rfl rfl (by decide) rfl ?_
    refine V_iconst (pc := 59) e_X4_finishSheet_59 ?_
    refine V_aload_n (pc := 60) e_X4_finishSheet_60 rfl (Or.inl ⟨_, rfl⟩) ?_
    have jx := (MX_j x2 hp).2
    have hK : JB (adn (inc r 8) (16 + 1) 1) p := JB_ext jI hJ
    have sx := sid_ext jI
    have ax := (sst_ext jI)
    refine V_cV0 (pc := 61) ca_4_133 e_X4_finishSheet_61 (by decide) (Nat.le_of_ble_eq_true rfl) (kb_lt hB (by omega)) ((shB hB (by omega)).trans (shM_j (by omega) (by omega))) (by decide) (c_X1_sidesOfNextSheet (r := adn (inc r 8) (16 + 1) 1) (p := p) hB pp jx hK (by rw [jI 8 (by decide) (by decide), ax.2]; exact h8) (by rw [sx.2, ax.1]; exact hn) ?_)
    refine V_cV2 (pc := 64) ca_4_79 e_X4_finishSheet_64 (by decide) (Nat.le_of_ble_eq_true rfl) (kb_lt hB (by decide)) ((shB hB (by decide)).trans rfl) (by decide) (c_X3_add hB (by decide) ?_)
    refine V_aload_n (pc := 67) e_X4_finishSheet_67 rfl (Or.inl ⟨_, rfl⟩) ?_
    refine V_dup (pc := 68) e_X4_finishSheet_68 rfl ?_
    refine Vk_get (pc := 69) (i := 0) (q := 5) hB rfl (by decide) rfl fx_4_62 e_X4_finishSheet_69 rfl rfl ?_
    refine V_iconst (pc := 72) e_X4_finishSheet_72 ?_
    refine V_iadd (pc := 73) e_X4_finishSheet_73 ?_
    refine Vk_put (pc := 74) (i := 0) (q := 5) hB rfl (by decide) rfl fx_4_62 e_X4_finishSheet_74 rfl rfl rfl rfl rfl ?_
    refine V_aload_n (pc := 77) e_X4_finishSheet_77 rfl (Or.inl ⟨_, rfl⟩) ?_
    refine V_dup (pc := 78) e_X4_finishSheet_78 rfl ?_
    refine Vk_get (pc := 79) (q := 13) hB rfl (by omega) (shM_j (by omega) (by omega)) fx_4_153 e_X4_finishSheet_79 rfl rfl ?_
    refine V_iconst (pc := 82) e_X4_finishSheet_82 ?_
    refine V_iadd (pc := 83) e_X4_finishSheet_83 ?_
    refine Vk_put (pc := 84) (q := 13) hB rfl (by omega) (shM_j (by omega) (by omega)) fx_4_153 e_X4_finishSheet_84 rfl rfl rfl rfl rfl ?_
    have j8 : ∀ w, 0 ≤ w → w < 10 → jf (inc r 8) p w = jf r p w := fun w a d => up1_ne (by omega)
    have sj : sid (inc (inc (inc r 8) 2) 17) p = sid r p := (sid_ext (fun w a d => by unfold inc jf; rw [up1_ne (by omega), up1_ne (by omega), up1_ne (by omega)])).1
    have x5 := MX_prn (MX_bin (MX_acc x2 3 (sid (adn (inc r 8) (16 + 1) 1) p) (by decide)) 1) hp
    rw [fin2_c (r := inc r 8) (p := p) (s := sid (adn (inc r 8) (16 + 1) 1) p) hp.1 (by rw [sj, sx.1])] at x5
    have ff := fin2_f (r := inc r 8) hp.1
    have a8 := (sst_ext (r := r) (r' := inc r 8) (p := p) (p' := p) j8).2
    have q8 := j8 8 (by decide) (by decide)
    have q9 := j8 9 (by decide) (by decide)
    have q2 := j8 2 (by decide) (by decide)
    have hJ8 : JB (fin2 (inc r 8) p) p := fin2_J (by rw [q8]; have := als_rg hJ; omega) (JB_ext j8 hJ)
    refine V_aload_n (pc := 87) e_X4_finishSheet_87 rfl (Or.inl ⟨_, rfl⟩) ?_
    refine V_aload_n (pc := 88) e_X4_finishSheet_88 rfl (Or.inl ⟨_, rfl⟩) ?_
    refine V_cV1 (pc := 89) ca_4_156 e_X4_finishSheet_89 (by decide) (Nat.le_of_ble_eq_true rfl) (kb_lt (i := 0) hB (by decide)) ((shB (i := 0) hB (by decide)).trans rfl) (by decide) (c_X4_removeIfFinished (r := fin2 (inc r 8) p) (p := p) hB x5.1 (by rw [x5.2.1]; exact b0) (by rw [x5.2.2.1]; exact b9) (by rw [x5.2.1]; exact hp) hJ8 (by rw [fin2_at hp.1 (by decide) (by decide) (by decide) (by decide)]; unfold inc; rw [up1_ne (by decide)]; exact g7) (by omega) (by omega) (fun c1 π1 y => ?_))
    refine V_ret (pc := 92) (v := none) ⟨e_X4_finishSheet_92, rfl⟩ ?_
    exact k _ _ (by unfold fin1; rw [if_neg (by rw [i14, i8]; first | omega | (rw [f5x, s4x] at h33; exact fun z => h33 z.2))]; exact y)
  · refine V_aload_n (pc := 24) e_X4_finishSheet_24 rfl (Or.inl ⟨_, rfl⟩) ?_
    refine Vk_getR (pc := 25) (i := 0) (q := 2) hB rfl (by decide) rfl fx_4_28 e_X4_finishSheet_25 rfl rfl (by decide) rfl ?_
    refine Vk_get (pc := 28) (q := 5) hB rfl (by decide) rfl fx_4_150 e_X4_finishSheet_28 rfl rfl ?_
    refine V_iload_n (pc := 31) e_X4_finishSheet_31 rfl ?_
    have dv := dv_rg (x := up2 c 17 5 (c 17 5 + 1) 17 5) (y := up2 c 17 5 (c 17 5 + 1) 22 4) (by omega) (by omega)
    refine V_irem (pc := 32) e_X4_finishSheet_32 (by omega) (by omega) ?_
    refine V_if_ne (pc := 33) e_X4_finishSheet_33 (by decide) (by omega) (fun h33 => ?_) (fun h33 => ?_)
    · have x2 := MX_acc x1 1 1 (by decide)
      refine V_aload_n (pc := 46) e_X4_finishSheet_46 rfl (Or.inl ⟨_, rfl⟩) ?_
      refine Vk_getR (pc := 47) (i := 0) (q := 2) hB rfl (by decide) rfl fx_4_28 e_X4_finishSheet_47 rfl rfl (by decide) rfl ?_
      refine V_iconst (pc := 50) e_X4_finishSheet_50 ?_
      refine V_iconst (pc := 51) e_X4_finishSheet_51 ?_
      refine V_cV2 (pc := 52) ca_4_79 e_X4_finishSheet_52 (by decide) (Nat.le_of_ble_eq_true rfl) (kb_lt hB (by decide)) ((shB hB (by decide)).trans rfl) (by decide) (c_X3_add hB (by decide) ?_)
      refine V_aload_n (pc := 55) e_X4_finishSheet_55 rfl (Or.inl ⟨_, rfl⟩) ?_
      refine Vk_getR (pc := 56) (i := 0) (q := 2) hB rfl (by decide) rfl fx_4_28 e_X4_finishSheet_56 rfl rfl (by decide) rfl ?_
      refine V_iconst (pc := 59) e_X4_finishSheet_59 ?_
      refine V_aload_n (pc := 60) e_X4_finishSheet_60 rfl (Or.inl ⟨_, rfl⟩) ?_
      have jx := (MX_j x2 hp).2
      have hK : JB (adn (inc r 8) (16 + 1) 1) p := JB_ext jI hJ
      have sx := sid_ext jI
      have ax := (sst_ext jI)
      refine V_cV0 (pc := 61) ca_4_133 e_X4_finishSheet_61 (by decide) (Nat.le_of_ble_eq_true rfl) (kb_lt hB (by omega)) ((shB hB (by omega)).trans (shM_j (by omega) (by omega))) (by decide) (c_X1_sidesOfNextSheet (r := adn (inc r 8) (16 + 1) 1) (p := p) hB pp jx hK (by rw [jI 8 (by decide) (by decide), ax.2]; exact h8) (by rw [sx.2, ax.1]; exact hn) ?_)
      refine V_cV2 (pc := 64) ca_4_79 e_X4_finishSheet_64 (by decide) (Nat.le_of_ble_eq_true rfl) (kb_lt hB (by decide)) ((shB hB (by decide)).trans rfl) (by decide) (c_X3_add hB (by decide) ?_)
      refine V_aload_n (pc := 67) e_X4_finishSheet_67 rfl (Or.inl ⟨_, rfl⟩) ?_
      refine V_dup (pc := 68) e_X4_finishSheet_68 rfl ?_
      refine Vk_get (pc := 69) (i := 0) (q := 5) hB rfl (by decide) rfl fx_4_62 e_X4_finishSheet_69 rfl rfl ?_
      refine V_iconst (pc := 72) e_X4_finishSheet_72 ?_
      refine V_iadd (pc := 73) e_X4_finishSheet_73 ?_
      refine Vk_put (pc := 74) (i := 0) (q := 5) hB rfl (by decide) rfl fx_4_62 e_X4_finishSheet_74 rfl rfl rfl rfl rfl ?_
      refine V_aload_n (pc := 77) e_X4_finishSheet_77 rfl (Or.inl ⟨_, rfl⟩) ?_
      refine V_dup (pc := 78) e_X4_finishSheet_78 rfl ?_
      refine Vk_get (pc := 79) (q := 13) hB rfl (by omega) (shM_j (by omega) (by omega)) fx_4_153 e_X4_finishSheet_79 rfl rfl ?_
      refine V_iconst (pc := 82) e_X4_finishSheet_82 ?_
      refine V_iadd (pc := 83) e_X4_finishSheet_83 ?_
      refine Vk_put (pc := 84) (q := 13) hB rfl (by omega) (shM_j (by omega) (by omega)) fx_4_153 e_X4_finishSheet_84 rfl rfl rfl rfl rfl ?_
      have j8 : ∀ w, 0 ≤ w → w < 10 → jf (inc r 8) p w = jf r p w := fun w a d => up1_ne (by omega)
      have sj : sid (inc (inc (inc r 8) 2) 17) p = sid r p := (sid_ext (fun w a d => by unfold inc jf; rw [up1_ne (by omega), up1_ne (by omega), up1_ne (by omega)])).1
      have x5 := MX_prn (MX_bin (MX_acc x2 3 (sid (adn (inc r 8) (16 + 1) 1) p) (by decide)) 1) hp
      rw [fin2_c (r := inc r 8) (p := p) (s := sid (adn (inc r 8) (16 + 1) 1) p) hp.1 (by rw [sj, sx.1])] at x5
      have ff := fin2_f (r := inc r 8) hp.1
      have a8 := (sst_ext (r := r) (r' := inc r 8) (p := p) (p' := p) j8).2
      have q8 := j8 8 (by decide) (by decide)
      have q9 := j8 9 (by decide) (by decide)
      have q2 := j8 2 (by decide) (by decide)
      have hJ8 : JB (fin2 (inc r 8) p) p := fin2_J (by rw [q8]; have := als_rg hJ; omega) (JB_ext j8 hJ)
      refine V_aload_n (pc := 87) e_X4_finishSheet_87 rfl (Or.inl ⟨_, rfl⟩) ?_
      refine V_aload_n (pc := 88) e_X4_finishSheet_88 rfl (Or.inl ⟨_, rfl⟩) ?_
      refine V_cV1 (pc := 89) ca_4_156 e_X4_finishSheet_89 (by decide) (Nat.le_of_ble_eq_true rfl) (kb_lt (i := 0) hB (by decide)) ((shB (i := 0) hB (by decide)).trans rfl) (by decide) (c_X4_removeIfFinished (r := fin2 (inc r 8) p) (p := p) hB x5.1 (by rw [x5.2.1]; exact b0) (by rw [x5.2.2.1]; exact b9) (by rw [x5.2.1]; exact hp) hJ8 (by rw [fin2_at hp.1 (by decide) (by decide) (by decide) (by decide)]; unfold inc; rw [up1_ne (by decide)]; exact g7) (by omega) (by omega) (fun c1 π1 y => ?_))
      refine V_ret (pc := 92) (v := none) ⟨e_X4_finishSheet_92, rfl⟩ ?_
      exact k _ _ (by unfold fin1; rw [if_neg (by rw [i14, i8]; first | omega | (rw [f5x, s4x] at h33; exact fun z => h33 z.2))]; exact y)
    · refine V_aload_n (pc := 36) e_X4_finishSheet_36 rfl (Or.inl ⟨_, rfl⟩) ?_
      refine Vk_getR (pc := 37) (i := 0) (q := 2) hB rfl (by decide) rfl fx_4_28 e_X4_finishSheet_37 rfl rfl (by decide) rfl ?_
      refine V_iconst (pc := 40) e_X4_finishSheet_40 ?_
      refine V_iconst (pc := 41) e_X4_finishSheet_41 ?_
      refine V_cV2 (pc := 42) ca_4_79 e_X4_finishSheet_42 (by decide) (Nat.le_of_ble_eq_true rfl) (kb_lt hB (by decide)) ((shB hB (by decide)).trans rfl) (by decide) (c_X3_add hB (by decide) ?_)
      refine V_ret (pc := 45) (v := none) ⟨e_X4_finishSheet_45, rfl⟩ ?_
      exact k _ _ (by unfold fin1; rw [if_pos (by rw [i14, i8]; rw [f5x, s4x] at h33; exact ⟨by omega, h33⟩)]; exact (MX_acc x1 2 1 (by decide)).1)
