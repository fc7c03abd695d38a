/-! the loops go on, all their ticks; a job comes -/
theorem leavF_24 {r : Int → Int} {p : Int} (hp : 0 ≤ p) : leavF r p 24 = r 24 := by
  unfold leavF
  split
  · unfold inc
    rw [up1_ne (by decide), goesF_at hp (by decide) (by decide)]
    unfold stayF
    exact up1_ne (by decide)
  · rfl
theorem stapF_24 {r : Int → Int} {p : Int} (hp : 0 ≤ p) : stapF r p 24 = r 24 := (leavF_24 hp).trans (stap0_at hp (by decide) (by decide) (by decide))
theorem finF_24 {r : Int → Int} (hp : 0 ≤ plc r (r 6)) : finF r 24 = r 24 := by
  unfold finF
  split
  · exact (stapF_24 hp).trans (endsF_at (by decide))
  · unfold fin1
    split
    · unfold inc
      rw [up1_ne (by decide), up1_ne (by decide)]
      exact endsF_at (by decide)
    · rw [leavF_24 hp, fin2_at hp (by decide) (by decide) (by decide) (by decide)]
      unfold inc
      rw [up1_ne (by decide)]
      exact endsF_at (by decide)
theorem gbF_24 {r : Int → Int} {w m : Int} (h : RI r) (hw : 0 ≤ w) (h5 : w = 0 → ¬ r 5 = 0) : gbF r w m 24 = r 24 + gbT r w m := by
  by_cases z : 0 < w
  · have t : gbT r w m = m := by unfold gbT; rw [if_pos (Or.inl z)]
    rw [t]
    unfold gbF
    rw [if_pos z, t]
    unfold adn
    rw [up1_ne (by decide), up1_at]
  · have wi := h.2.2.2.2.2.2
    unfold WI at wi
    have h5 := h5 (by omega)
    have e : ∀ t, sbn (adn r 24 t) 4 t 24 = r 24 + t := fun t => by
      unfold sbn adn
      rw [up1_ne (by decide), up1_at]
    unfold gbF
    rw [if_neg z]
    split
    · rw [finF_24, e]
      have b : ∀ k, ¬ k = 4 → ¬ k = 24 → sbn (adn r 24 (gbT r w m)) 4 (gbT r w m) k = r k := fun k x y => tick_x x y
      rw [plc_ext (b 0 (by decide) (by decide)) (fun p a d => b _ (by omega) (by omega)), b 6 (by decide) (by decide)]
      omega
    · exact e _
theorem bst_24 {r : Int → Int} (h : RI r) (h5 : r 5 = 0) (w : wst r (nxj r) = 0) : bstF r (nxj r) 24 = r 24 := by
  have b := nx_ok h w
  have jp := h.2.2.2.2.2.1 _ b.1 b.2
  unfold bstF
  by_cases hs : hset r (nxj r)
  · rw [if_pos hs]
    split
    · rw [stapF_24 b.1]
      exact up1_ne (by decide)
    · rw [← sta2_c b.1, up1_ne (by decide), up1_ne (by decide), up1_ne (by decide)]
  · rw [if_neg hs]
    exact (RI_bsh h b (RI_nO h w hs) (not_done jp hs)).2.2
theorem begF_24 : ∀ (n : Nat) (r : Int → Int), cOK n r → (begF n r).2 24 = r 24 := by
  intro n
  induction n with
  | zero => exact fun r h => rfl
  | succ n ih =>
    intro r h
    unfold begF
    by_cases a : r 5 = 0
    · rw [if_pos a]
      by_cases w : wst r (nxj r) = 0
      · rw [if_pos w, ih _ (h.2 a w).2]
        exact bst_24 h.1 a w
      · rw [if_neg w]
    · rw [if_neg a]
theorem RI_bg {r : Int → Int} (h : RI r) : RI (bgF r).2 ∧ (0 ≤ (bgF r).1 ∧ (bgF r).1 ≤ 4) ∧ ((bgF r).1 = 0 → ¬ (bgF r).2 5 = 0) ∧ (bgF r).2 24 = r 24 := by
  have c := RI_c501 h
  have p := begF_post 501 r c
  have q := begF_24 501 r c
  rw [← bgF_c c] at p q
  exact ⟨p.1, p.2.1, p.2.2, q⟩
theorem RI_step {r : Int → Int} {m : Int} (h : RI r) (hm : 1 ≤ m) (h24 : r 24 + m ≤ 1900000) : RI (stpF r m) ∧ 1 ≤ stpT r m ∧ stpT r m ≤ m ∧ stpF r m 24 = r 24 + stpT r m := by
  obtain ⟨a, b, c, d⟩ := RI_bg h
  unfold stpF stpT
  have g := gbF_24 (m := m) a b.1 c
  rw [d] at g
  by_cases w : (bgF r).1 = 0
  · rw [w] at g ⊢
    have y := RI_gb0 (m := m) a (c w) hm (by omega)
    exact ⟨y.1, y.2.1, y.2.2, g⟩
  · have y := RI_gb1 (w := (bgF r).1) (m := m) a (by omega) (by omega) (by omega)
    refine ⟨y.1, ?_, ?_, g⟩
    · rw [y.2]; exact hm
    · rw [y.2]; exact Int.le_refl _
theorem RI_cr : ∀ (n : Nat) (r : Int → Int) (m : Int), RI r → 0 ≤ m → m ≤ (n : Int) → m ≤ 20000 → r 24 + m ≤ 1900000 → crO n r m := by
  intro n
  induction n with
  | zero => exact fun r m h a b _ _ => ⟨h, by omega⟩
  | succ n ih =>
    intro r m h a b c d
    refine ⟨h, ⟨a, c⟩, fun hm => ?_⟩
    have s := RI_step (m := m) h (by omega) d
    have g := (RI_bg h).2.2.2
    exact ⟨RI_c501 h, by omega, ih _ _ s.1 (by omega) (by omega) (by omega) (by omega)⟩
theorem RI_ct : ∀ (n : Nat) (r : Int → Int) (j t : Int), RI r → 20000 - t ≤ (n : Int) → (0 ≤ t ∧ t ≤ 20000) → r 24 + (20000 - t) ≤ 1900000 → ctO n r j t := by
  intro n
  induction n with
  | zero => exact fun r j t h a b _ => ⟨h, by omega, by omega⟩
  | succ n ih =>
    intro r j t h a b c
    refine ⟨h, b, fun ht => ?_⟩
    have s := RI_step (m := 20000 - t) h (by omega) (by omega)
    have g := (RI_bg h).2.2.2
    exact ⟨RI_c501 h, by omega, fun _ _ => ⟨s.1, fun _ => ih _ j _ s.1 (by omega) (by omega) (by omega)⟩⟩
theorem RI_gO {r : Int → Int} {w m : Int} (h : RI r) (hw : 0 ≤ w ∧ w ≤ 4) (h5 : w = 0 → ¬ r 5 = 0) (hm : 1 ≤ m ∧ m ≤ 20000) (h24 : r 24 + m ≤ 1900000) : gO r w m := by
  refine ⟨h.2.1, by omega, hw, fun z y => ?_⟩
  have h5 := h5 (by omega)
  have w0 : w = 0 := by omega
  subst w0
  have n := h.1
  unfold NI at n
  have wi := h.2.2.2.2.2.2
  unfold WI at wi
  have tb : 1 ≤ gbT r 0 m ∧ gbT r 0 m ≤ r 4 := by unfold gbT; split <;> omega
  have b : ∀ k, ¬ k = 4 → ¬ k = 24 → sbn (adn r 24 (gbT r 0 m)) 4 (gbT r 0 m) k = r k := fun k x y => tick_x x y
  have pe : ∀ j, plc (sbn (adn r 24 (gbT r 0 m)) 4 (gbT r 0 m)) j = plc r j := plc_ext (b 0 (by decide) (by decide)) (fun p a d => b _ (by omega) (by omega))
  have pl : 0 ≤ plc r (r 6) ∧ plc r (r 6) < r 0 := by
    rcases plc_sp r (r 6) with a | a <;> omega
  have jp := h.2.2.2.2.2.1 _ pl.1 pl.2
  have al := als_rg jp.1
  have jb := jp.1
  unfold JB at jb
  have f : ∀ w, 0 ≤ w → w < 10 → jf (sbn (adn r 24 (gbT r 0 m)) 4 (gbT r 0 m)) (plc r (r 6)) w = jf r (plc r (r 6)) w := fun w a d => b _ (by omega) (by omega)
  have e0 := b 0 (by decide) (by decide)
  have e24 : adn r 24 (gbT r 0 m) 4 = r 4 := up1_ne (by decide)
  refine ⟨⟨RB_up1 (RB_up1 h.2.1 (Or.inl (by omega))) (Or.inl (by omega)), by rw [e0]; omega, by rw [b 9 (by decide) (by decide)]; omega, fun p a d => ?_⟩, ?_, ⟨?_, fun q => ?_⟩, ?_, ?_, ?_⟩
  · rw [e0] at d
    exact JB_ext (fun w x y => b _ (by omega) (by omega)) (h.2.2.2.2.2.1 p a d).1
  · rw [b 6 (by decide) (by decide), pe, e0]; exact pl
  · rw [b 6 (by decide) (by decide), pe, f 9 (by decide) (by decide)]
    have := jp.2.2.1
    omega
  · rw [b 5 (by decide) (by decide)] at q
    rw [b 6 (by decide) (by decide), pe, f 8 (by decide) (by decide)]
    omega
  · rw [b 8 (by decide) (by decide)]; omega
  · rw [b 14 (by decide) (by decide)]; omega
  · rw [b 2 (by decide) (by decide)]; omega
theorem RI_r : ∀ (n : Nat) (r : Int → Int) (m : Int), RI r → 0 ≤ m → m ≤ (n : Int) → m ≤ 20000 → r 24 + m ≤ 1900000 → rOK n r m := by
  intro n
  induction n with
  | zero => exact fun r m h a b _ _ => ⟨h.2.1, by omega, by omega⟩
  | succ n ih =>
    intro r m h a b c d
    refine ⟨h.2.1, by omega, fun hm => ?_⟩
    have s := RI_step (m := m) h (by omega) d
    obtain ⟨g1, g2, g3, g4⟩ := RI_bg h
    exact ⟨fun _ => RI_b600 h, RI_gO g1 g2 g3 (by omega) (by omega), ih _ _ s.1 (by omega) (by omega) (by omega) (by omega)⟩
theorem RI_t : ∀ (n : Nat) (r : Int → Int) (j t : Int), RI r → 20000 - t ≤ (n : Int) → (0 ≤ t ∧ t ≤ 20000) → r 24 + (20000 - t) ≤ 1900000 → tOK n r j t := by
  intro n
  induction n with
  | zero => exact fun r j t h a b _ => ⟨h.rr, by omega, by omega⟩
  | succ n ih =>
    intro r j t h a b c
    refine ⟨h.rr, by omega, fun ht => ?_⟩
    have s := RI_step (m := 20000 - t) h (by omega) (by omega)
    obtain ⟨g1, g2, g3, g4⟩ := RI_bg h
    refine ⟨fun _ => RI_b600 h, g1.rr, ?_⟩
    split
    · next z =>
      cases n with
      | zero => exact ⟨g1.rr, by omega, by omega⟩
      | succ n => exact ⟨g1.rr, by omega, fun q => absurd q.2 (by omega)⟩
    · exact ⟨RI_gO g1 g2 g3 (by omega) (by omega), ih _ j _ s.1 (by omega) (by omega) (by omega)⟩
theorem RI_comes {r : Int → Int} {pg cp sz kd hw : Int} (h : RI r) (h0 : r 0 < 10) (h1 : r 1 < 2000000) (hp : 1 ≤ pg ∧ pg ≤ 200) (hc : 1 ≤ cp ∧ cp ≤ 50) (hs : 0 ≤ sz ∧ sz ≤ 3) (hk : 0 ≤ kd ∧ kd ≤ 3) (hh : 0 ≤ hw ∧ hw ≤ 11) (hn : wny r pg kd hw = 0) : RI (comesF r pg cp sz kd hw) := by
  obtain ⟨n, rb, rt, pi, so, js, wi⟩ := h
  unfold NI at n
  have g : ∀ k, k < 85 + 10 * r 0 → ¬ k = 0 → ¬ k = 1 → comesF r pg cp sz kd hw k = r k := fun k a b d => comesF_lo (by omega) a b d
  have z0 := comesF_0 (r := r) (pg := pg) (cp := cp) (sz := sz) (kd := kd) (hw := hw) (by omega)
  have z1 := comesF_1 (r := r) (pg := pg) (cp := cp) (sz := sz) (kd := kd) (hw := hw) (by omega)
  obtain ⟨b0, b1, b2, b3, b4, b5, b6, b7, b8, b9⟩ := comesF_j (r := r) (pg := pg) (cp := cp) (sz := sz) (kd := kd) (hw := hw) (by omega)
  have f : ∀ q, 0 ≤ q → q < r 0 → ∀ w, 0 ≤ w → w < 10 → jf (comesF r pg cp sz kd hw) q w = jf r q w := fun q a d w b c => g _ (by omega) (by omega) (by omega)
  have sr := sof_rg (how := hw) hp.1 hp.2
  have s1 : sst (comesF r pg cp sz kd hw) (r 0) = sof pg hw := by unfold sst; rw [b1, b5]
  have s2 : als (comesF r pg cp sz kd hw) (r 0) = sof pg hw * cp := by unfold als; rw [s1, b2]
  have al : 1 ≤ sof pg hw * cp := by
    have : 1 * 1 ≤ sof pg hw * cp := Int.mul_le_mul sr.1 hc.1 (by decide) (by omega)
    omega
  unfold wny at hn
  refine ⟨?_, fun k a d e => ?_, fun t a d => ?_, ⟨fun k a d => ?_, fun i k a d e => ?_⟩, fun p q a d e => ?_, fun q a d => ?_, WI_ext (g 4 (by omega) (by decide) (by decide)) (g 5 (by omega) (by decide) (by decide)) (g 6 (by omega) (by decide) (by decide)) (Or.inr fun z => ?_) wi⟩
  · unfold NI
    rw [z0, z1, g 2 (by omega) (by decide) (by decide), g 3 (by omega) (by decide) (by decide), g 7 (by omega) (by decide) (by decide), g 8 (by omega) (by decide) (by decide), g 9 (by omega) (by decide) (by decide), g 10 (by omega) (by decide) (by decide), g 11 (by omega) (by decide) (by decide), g 12 (by omega) (by decide) (by decide), g 13 (by omega) (by decide) (by decide), g 14 (by omega) (by decide) (by decide), g 15 (by omega) (by decide) (by decide), g 24 (by omega) (by decide) (by decide)]
    omega
  · have y := rb k a d e
    unfold comesF inc
    unfold up1
    (repeat' split) <;> first | omega | exact y
  · rw [g _ (by omega) (by omega) (by omega), g _ (by omega) (by omega) (by omega), g _ (by omega) (by omega) (by omega)]
    exact rt t a d
  · rw [g 9 (by omega) (by decide) (by decide)] at d
    rw [g _ (by omega) (by omega) (by omega), g _ (by omega) (by omega) (by omega)]
    exact pi.1 k a d
  · rw [g 9 (by omega) (by decide) (by decide)] at e
    rw [g _ (by omega) (by omega) (by omega), g _ (by omega) (by omega) (by omega), g _ (by omega) (by omega) (by omega), g _ (by omega) (by omega) (by omega)]
    exact pi.2 i k a d e
  · rw [z0] at e
    rw [f p a (by omega) 0 (by decide) (by decide)]
    by_cases y : q = r 0
    · rw [y, b0]
      exact (js p a (by omega)).2.2.2.2
    · rw [f q (by omega) (by omega) 0 (by decide) (by decide)]
      exact so p q a d (by omega)
  · rw [z0] at d
    by_cases y : q = r 0
    · subst y
      refine ⟨?_, ⟨?_, fun z => ?_, fun z => ?_⟩, ⟨?_, ?_⟩, fun z => ?_, ?_⟩
      · unfold JB
        rw [b0, b1, b2, b3, b4, b5, b6, b7, b8, b9]
        omega
      · rw [b5]; omega
      · rw [b5] at z ⊢
        rw [b4, b8, b9, s1, Int.zero_ediv]
        rw [if_neg (by omega)] at hn
        (repeat' split at hn) <;> omega
      · exact b9
      · rw [b8, s2]; omega
      · rw [b9, b2]; omega
      · have := z.1
        rw [b8, s2] at this
        omega
      · rw [b0, z1]; omega
    · exact JI_ext (by omega) (by rw [z1]; omega) (f q a (by omega)) (js q a (by omega))
  · rcases plc_sp r (r 6) with w | ⟨w0, w1, w2, w3⟩
    · omega
    · have e : plc (comesF r pg cp sz kd hw) (r 6) = plc r (r 6) := plc_at w0 (by omega) (by rw [f _ w0 w1 0 (by decide) (by decide)]; exact w2) (fun i a d => by rw [f i a (by omega) 0 (by decide) (by decide)]; exact w3 i a d)
      rw [e]
      exact ⟨w0, f _ w0 w1⟩
