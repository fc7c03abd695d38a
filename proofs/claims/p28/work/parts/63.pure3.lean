/-! the next number stays while the machine works -/
theorem leavF_1 {r : Int → Int} {p : Int} (hp : 0 ≤ p) : leavF r p 1 = r 1 := by
  unfold leavF
  split
  · unfold inc
    rw [up1_ne (by decide), goesF_at hp (by decide) (by decide)]
    unfold stayF
    exact up1_ne (by decide)
  · rfl
theorem stapF_1 {r : Int → Int} {p : Int} (hp : 0 ≤ p) : stapF r p 1 = r 1 := (leavF_1 hp).trans (stap0_at hp (by decide) (by decide) (by decide))
theorem finF_1 {r : Int → Int} (hp : 0 ≤ plc r (r 6)) : finF r 1 = r 1 := by
  unfold finF
  split
  · exact (stapF_1 hp).trans (endsF_at (by decide))
  · unfold fin1
    split
    · unfold inc
      rw [up1_ne (by decide), up1_ne (by decide)]
      exact endsF_at (by decide)
    · rw [leavF_1 hp, fin2_at hp (by decide) (by decide) (by decide) (by decide)]
      unfold inc
      rw [up1_ne (by decide)]
      exact endsF_at (by decide)
theorem gbF_1 {r : Int → Int} {w m : Int} (h : RI r) (hw : 0 ≤ w) (h5 : w = 0 → ¬ r 5 = 0) : gbF r w m 1 = r 1 := by
  by_cases z : 0 < w
  · unfold gbF
    rw [if_pos z]
    unfold adn
    rw [up1_ne (by decide), up1_ne (by decide)]
  · have wi := h.2.2.2.2.2.2
    unfold WI at wi
    have h5 := h5 (by omega)
    have e : ∀ t, sbn (adn r 24 t) 4 t 1 = r 1 := fun t => tick_x (by decide) (by decide)
    unfold gbF
    rw [if_neg z]
    split
    · rw [finF_1, e]
      have b : ∀ k, ¬ k = 4 → ¬ k = 24 → sbn (adn r 24 (gbT r w m)) 4 (gbT r w m) k = r k := fun k x y => tick_x x y
      rw [plc_ext (b 0 (by decide) (by decide)) (fun p a d => b _ (by omega) (by omega)), b 6 (by decide) (by decide)]
      omega
    · exact e _
theorem tkF_1 {r : Int → Int} {s q : Int} (hO : tkO r s q) : tkF r s q 1 = r 1 := by
  obtain ⟨z1, z2, z3, z4⟩ := tkO_0 hO
  have e : tk1 (tk0 r s q) s q 1 = tk0 r s q 1 := by
    unfold tk1
    split
    · unfold inc
      rw [up1_ne (by omega), up1_ne (by omega), up1_ne (by omega), up1_ne (by omega)]
    · rfl
  unfold tkF inc
  rw [up1_ne (by omega), e, tk0_at z1 (by omega)]
theorem bst_1 {r : Int → Int} (h : RI r) (h5 : r 5 = 0) (w : wst r (nxj r) = 0) : bstF r (nxj r) 1 = r 1 := by
  have b := nx_ok h w
  have jp := h.2.2.2.2.2.1 _ b.1 b.2
  unfold bstF
  by_cases hs : hset r (nxj r)
  · rw [if_pos hs]
    split
    · rw [stapF_1 b.1]
      exact up1_ne (by decide)
    · rw [← sta2_c b.1, up1_ne (by decide), up1_ne (by decide), up1_ne (by decide)]
  · rw [if_neg hs]
    unfold bshF bshL bsh1 bsh2
    rw [up1_ne (by decide), up1_ne (by decide), up1_ne (by decide), up1_ne (by decide)]
    exact tkF_1 (RI_nO h w hs)
theorem begF_1 : ∀ (n : Nat) (r : Int → Int), cOK n r → (begF n r).2 1 = r 1 := by
  intro n
  induction n with
  | zero => exact fun r h => rfl
  | succ n ih =>
    intro r h
    unfold begF
    by_cases a : r 5 = 0
    · rw [if_pos a]
      by_cases w : wst r (nxj r) = 0
      · rw [if_pos w, ih _ (h.2 a w).2]
        exact bst_1 h.1 a w
      · rw [if_neg w]
    · rw [if_neg a]
theorem stpF_1 {r : Int → Int} {m : Int} (h : RI r) : stpF r m 1 = r 1 := by
  obtain ⟨a, b, c, d⟩ := RI_bg h
  unfold stpF
  rw [gbF_1 a b.1 c]
  have cc := RI_c501 h
  rw [bgF_c cc]
  exact begF_1 501 r cc
theorem RI_run : ∀ (n : Nat) (r : Int → Int) (m : Int), RI r → 0 ≤ m → m ≤ (n : Int) → r 24 + m ≤ 1900000 → RI (runF n r m) ∧ runF n r m 24 = r 24 + m ∧ runF n r m 1 = r 1 := by
  intro n
  induction n with
  | zero =>
    intro r m h a b c
    obtain rfl : m = 0 := by omega
    exact ⟨h, (Int.add_zero _).symm, rfl⟩
  | succ n ih =>
    intro r m h a b c
    unfold runF
    by_cases z : 0 < m
    · rw [if_pos z]
      have s := RI_step (m := m) h (by omega) (by omega)
      have g := ih (stpF r m) (m - stpT r m) s.1 (by omega) (by omega) (by omega)
      exact ⟨g.1, by rw [g.2.1]; omega, g.2.2.trans (stpF_1 h)⟩
    · rw [if_neg z]
      obtain rfl : m = 0 := by omega
      exact ⟨h, (Int.add_zero _).symm, rfl⟩
/-! what the acts keep -/
theorem givF_lo {r : Int → Int} {j k : Int} (hk : ¬ k = 4) (h5 : ¬ k = 5) (h6 : ¬ k = 6) (h7 : ¬ k = 7) (h18 : ¬ k = 18) : givF r j k = r k := by
  unfold givF stayF
  rw [up1_ne h7]
  split
  · unfold endsF
    rw [up1_ne h6, up1_ne h5, up1_ne hk]
    unfold adn
    rw [up1_ne h18]
  · rfl
theorem RI_can {r : Int → Int} {j : Int} (h : RI r) (hp : 0 ≤ plc r j) : RI (inc (goesF (givF r j) (plc r j)) 22) ∧ inc (goesF (givF r j) (plc r j)) 22 1 = r 1 ∧ inc (goesF (givF r j) (plc r j)) 22 24 = r 24 := by
  have g := RI_giv (j := j) h
  have pl := plc_lt hp
  have ni := h.1
  unfold NI at ni
  have e0 : givF r j 0 = r 0 := givF_lo (by decide) (by decide) (by decide) (by decide) (by decide)
  have ej : ∀ p, 0 ≤ p → p < r 0 → jf (givF r j) p 0 = jf r p 0 := fun p a d => givF_lo (by omega) (by omega) (by omega) (by omega) (by omega)
  have ep := plc_ext e0 ej
  have hw : givF r j 5 = 0 ∨ ¬ plc (givF r j) (givF r j 6) = plc r j := by
    by_cases q : r 6 = j
    · left
      unfold givF stayF
      rw [if_pos q, up1_ne (by decide)]
      unfold endsF
      rw [up1_ne (by decide), up1_at]
    · right
      intro z
      have e6 : givF r j 6 = r 6 := by
        unfold givF stayF
        rw [if_neg q, up1_ne (by decide)]
      rw [ep, e6] at z
      have a := plc_sp r (r 6)
      have b := plc_sp r j
      rcases a with a | a
      · omega
      · rcases b with b | b
        · omega
        · have a2 := a.2.2
          have b2 := b.2.2
          rw [z] at a2
          exact q (a2.1.symm.trans b2.1)
  have x := RX_goes (g.rx (p := plc r j)) (by rw [e0]; exact ⟨hp, pl⟩) hw
  have n2 := x.1
  have l : ∀ k : Int, k < 85 → ¬ k = 0 → ¬ k = 22 → ¬ k = 4 → ¬ k = 5 → ¬ k = 6 → ¬ k = 7 → ¬ k = 18 → inc (goesF (givF r j) (plc r j)) 22 k = r k := fun k a b d e f g1 g2 g3 => by
    unfold inc
    rw [up1_ne d, goesF_at hp a b, givF_lo e f g1 g2 g3]
  refine ⟨?_, l 1 (by decide) (by decide) (by decide) (by decide) (by decide) (by decide) (by decide) (by decide), l 24 (by decide) (by decide) (by decide) (by decide) (by decide) (by decide) (by decide) (by decide)⟩
  unfold inc
  refine RI_lo x (by decide) (Or.inr (by decide)) ?_
  unfold NI at n2 ⊢
  simp (disch := decide) only [up1_ne]
  exact n2
theorem RI_ent {tx : Int → Int} {ln : Int} {r1 : Int → Int} : ∀ (n f : Nat) (r : Int → Int) (s m : Int), (0 ≤ s ∧ s ≤ ln) → 0 ≤ m → m ≤ 10 → RI r → r 13 = r1 13 → r 0 = r1 0 + m → r1 0 ≤ 10 ∧ 0 ≤ r1 0 → r 1 ≤ 1999000 + m → (hfF tx ln r1 n s m).1 = 0 → (f : Int) = (hfF tx ln r1 n s m).2.2 - m → RI (entF tx ln f r s) ∧ entF tx ln f r s 1 = r 1 + f ∧ entF tx ln f r s 24 = r 24 := by
  intro n
  induction n with
  | zero =>
    intro f r s m hs h0 h10 h e13 e0 er b1 hz hf
    have : f = 0 := by
      have z : (hfF tx ln r1 0 s m).2.2 = m := rfl
      omega
    subst this
    exact ⟨h, (Int.add_zero _).symm, rfl⟩
  | succ n ih =>
    intro f r s m hs h0 h10 h e13 e0 er b1 hz hf
    by_cases y : s < ln
    · by_cases z : whyJ tx ln r1 s m = 0
      · have w := whyJ_0 z
        have t := tj_rg hs.1 w.1
        rw [hfF_s y z] at hz hf
        have k := hfF_ok n (tjE tx ln s) (m + 1) (by omega) (by omega) (by omega) (by omega) hz
        obtain ⟨g, rfl⟩ : ∃ g : Nat, f = g + 1 := ⟨f - 1, by omega⟩
        have ew : wny r (tjP tx ln s) (tjK tx ln s) (tjH tx ln s) = 0 := by
          have e : wny r (tjP tx ln s) (tjK tx ln s) (tjH tx ln s) = wny r1 (tjP tx ln s) (tjK tx ln s) (tjH tx ln s) := by
            unfold wny
            rw [e13]
          have p : 0 ≤ wny r1 (tjP tx ln s) (tjK tx ln s) (tjH tx ln s) := by
            unfold wny
            (repeat' split) <;> omega
          omega
        have c := RI_comes (sz := tjS tx ln s) h (by omega) (by omega) w.2.1.1 w.2.1.2 t.2.2.1 t.2.2.2.1 t.2.2.2.2.1 ew
        have n0 := h.1
        unfold NI at n0
        have l : ∀ k : Int, k < 85 → ¬ k = 0 → ¬ k = 1 → comesF r (tjP tx ln s) (tjC tx ln s) (tjS tx ln s) (tjK tx ln s) (tjH tx ln s) k = r k := fun k a b d => comesF_lo n0.1.1 (by omega) b d
        have c1 : comesF r (tjP tx ln s) (tjC tx ln s) (tjS tx ln s) (tjK tx ln s) (tjH tx ln s) 1 = r 1 + 1 := by
          unfold comesF inc
          rw [up1_at, up1_ne (by decide)]
          (repeat rw [up1_ne (by omega)])
        have q := ih g (comesF r (tjP tx ln s) (tjC tx ln s) (tjS tx ln s) (tjK tx ln s) (tjH tx ln s)) (tjE tx ln s) (m + 1) (by omega) (by omega) (by omega) c (by rw [l 13 (by decide) (by decide) (by decide)]; exact e13) (by rw [comesF_0 n0.1.1]; omega) er (by omega) hz (by omega)
        refine ⟨q.1, ?_, q.2.2.trans (l 24 (by decide) (by decide) (by decide))⟩
        show entF tx ln g _ _ 1 = _
        rw [q.2.1, c1]
        omega
      · rw [hfF_f y z] at hz
        exact absurd hz z
    · rw [hfF_e y] at hf
      have : f = 0 := by
        have z : ((0 : Int), s, m).2.2 = m := rfl
        omega
      subst this
      exact ⟨h, (Int.add_zero _).symm, rfl⟩
