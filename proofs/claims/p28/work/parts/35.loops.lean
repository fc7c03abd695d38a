/-! the loops go on -/
theorem up1_id {r : Int → Int} {k x : Int} (h : x = r k) : up1 r k x = r := by
  funext q
  unfold up1
  split
  · next z => rw [z, h]
  · rfl
theorem nx_ok {r : Int → Int} (h : RI r) (w : wst r (nxj r) = 0) : 0 ≤ nxj r ∧ nxj r < r 0 := by
  have n := h.1
  unfold NI at n
  have a := wst_0 w
  have b := nxj_lt (r := r) (by omega)
  omega
theorem RI_nO {r : Int → Int} (h : RI r) (w : wst r (nxj r) = 0) (hn : ¬ hset r (nxj r)) : tkO r (jf r (nxj r) 3) (jf r (nxj r) 4) := by
  have b := nx_ok h w
  have jb := (h.2.2.2.2.2.1 _ b.1 b.2).1
  unfold JB at jb
  refine RI_tkO h (by omega) (by omega) (fun z => ?_)
  have sw := (shA_lwt h.2.2.1 (s := jf r (nxj r) 3) (q := jf r (nxj r) 4)).mpr z
  unfold wst at w
  rw [if_neg (by omega), if_neg hn, if_pos sw] at w
  exact absurd w (by decide)
theorem RI_bsh {r : Int → Int} {p : Int} (h : RI r) (hp : 0 ≤ p ∧ p < r 0) (hO : tkO r (jf r p 3) (jf r p 4)) (h8 : jf r p 8 < als r p) : RI (bshF r p) ∧ bshF r p 5 = 1 ∧ bshF r p 24 = r 24 := by
  have jb := (h.2.2.2.2.2.1 p hp.1 hp.2).1
  unfold JB at jb
  have t := RI_tk h hO (by omega) (by omega)
  have f : ∀ w, 0 ≤ w → w < 10 → jf (tkF r (jf r p 3) (jf r p 4)) p w = jf r p w := fun w a d => tkF_hi hO (by omega)
  obtain ⟨z1, z2, z3, z4⟩ := tkO_0 hO
  have lo : ∀ i : Int, (i < 9 ∨ (9 < i ∧ i < 16) ∨ (16 < i ∧ i < 25)) → tkF r (jf r p 3) (jf r p 4) i = r i := fun i a => by
    have e : tk1 (tk0 r (jf r p 3) (jf r p 4)) (jf r p 3) (jf r p 4) i = tk0 r (jf r p 3) (jf r p 4) i := by
      unfold tk1
      split
      · unfold inc
        rw [up1_ne (by omega), up1_ne (by omega), up1_ne (by omega), up1_ne (by omega)]
      · rfl
    unfold tkF inc
    rw [up1_ne (by omega), e, tk0_at z1 (by omega)]
  rw [bshF_e]
  generalize tkF r (jf r p 3) (jf r p 4) = R at t f lo ⊢
  have n := t.1
  unfold NI at n
  have l0 := lo 0 (by decide)
  have l1 := lo 1 (by decide)
  have s12 := sid_12 R p
  have jp := (t.2.2.2.2.2.1 p hp.1 (by omega))
  have jq := jp.1
  unfold JB at jq
  have a : RI (up1 R 7 (jf R p 0)) := RI_num t (by have := jp.2.2.2.2; omega)
  have g : ∀ w, 0 ≤ w → w < 10 → jf (up1 R 7 (jf R p 0)) p w = jf R p w := fun w x y => up1_ne (by omega)
  have a8 : jf (up1 R 7 (jf R p 0)) p 8 < als (up1 R 7 (jf R p 0)) p := by
    rw [g 8 (by decide) (by decide), (sst_ext g).2, f 8 (by decide) (by decide), (sst_ext f).2]
    exact h8
  have c := RI_work (p := p) (v := 1) (x := sid R p * R 10 + (if sid R p = 2 then R 11 else 0)) a (by rw [up1_ne (by decide)]; omega) (Or.inl ⟨rfl, a8, by
    rcases s12 with s | s <;> rw [s] <;> (first | rw [if_pos rfl] | rw [if_neg (by decide)]) <;> omega⟩)
  rw [g 0 (by decide) (by decide), bsh_c (R := R) (p := p) (s := sid R p) hp.1 rfl] at c
  refine ⟨c, ?_, ?_⟩
  · unfold bshL bsh1 bsh2
    rw [up1_ne (by decide), up1_ne (by decide), up1_at]
  · unfold bshL bsh1 bsh2
    rw [up1_ne (by decide), up1_ne (by decide), up1_ne (by decide), up1_ne (by decide), lo 24 (by decide)]
/-- sets that are still to be stapled -/
def muN (r : Int → Int) : Nat → Int
  | 0 => 0
  | n + 1 => muN r n + (jf r (n : Int) 2 - jf r (n : Int) 9)
theorem muN_ext {r r' : Int → Int} : ∀ n : Nat, (∀ i : Int, 0 ≤ i → i < (n : Int) → jf r' i 2 = jf r i 2 ∧ jf r' i 9 = jf r i 9) → muN r' n = muN r n
  | 0, _ => rfl
  | n + 1, h => by
    unfold muN
    rw [muN_ext n (fun i a d => h i a (by omega)), (h (n : Int) (by omega) (by omega)).1, (h (n : Int) (by omega) (by omega)).2]
theorem muN_rg {r : Int → Int} (h : ∀ i : Int, 0 ≤ i → i < r 0 → 0 ≤ jf r i 2 - jf r i 9 ∧ jf r i 2 - jf r i 9 ≤ 50) : ∀ n : Nat, (n : Int) ≤ r 0 → 0 ≤ muN r n ∧ muN r n ≤ 50 * (n : Int)
  | 0, _ => by unfold muN; omega
  | n + 1, a => by
    have i := muN_rg h n (by omega)
    have j := h (n : Int) (by omega) (by omega)
    unfold muN
    omega
theorem muN_one {r r' : Int → Int} {p : Int} (h2 : ∀ i : Int, 0 ≤ i → jf r' i 2 = jf r i 2) (h9 : ∀ i : Int, 0 ≤ i → jf r' i 9 = if i = p then jf r i 9 + 1 else jf r i 9) : ∀ n : Nat, muN r' n = muN r n - (if 0 ≤ p ∧ p < (n : Int) then 1 else 0)
  | 0 => by
    rw [if_neg (by omega)]
    rfl
  | n + 1 => by
    unfold muN
    rw [muN_one h2 h9 n, h2 (n : Int) (by omega), h9 (n : Int) (by omega)]
    (repeat' split) <;> omega
theorem muN_goes {r : Int → Int} {p : Int} (hp : 0 ≤ p ∧ p < r 0) : ∀ n : Nat, (n : Int) ≤ r 0 - 1 → muN (goesF r p) n = if (n : Int) ≤ p then muN r n else muN r (n + 1) - (jf r p 2 - jf r p 9)
  | 0, _ => by
    rw [if_pos (by omega)]
    rfl
  | n + 1, h => by
    have i := muN_goes hp n (by omega)
    show muN (goesF r p) n + (jf (goesF r p) (n : Int) 2 - jf (goesF r p) (n : Int) 9) = _
    rw [i]
    by_cases y : (n : Int) < p
    · rw [if_pos (by omega), if_pos (by omega), goesF_lo hp.1 y (by omega) (by decide) (by decide), goesF_lo hp.1 y (by omega) (by decide) (by decide)]
      rfl
    · rw [goesF_hi hp.1 (by omega) (by omega) (by decide) (by decide), goesF_hi hp.1 (by omega) (by omega) (by decide) (by decide), if_neg (show ¬ ((n + 1 : Nat) : Int) ≤ p by omega)]
      have e : muN r (n + 1 + 1) = muN r (n + 1) + (jf r ((n : Int) + 1) 2 - jf r ((n : Int) + 1) 9) := rfl
      rw [e]
      by_cases z : (n : Int) = p
      · rw [if_pos (by omega)]
        have e2 : muN r (n + 1) = muN r n + (jf r (n : Int) 2 - jf r (n : Int) 9) := rfl
        rw [e2, z]
        omega
      · rw [if_neg (by omega)]
        omega
def mu (r : Int → Int) : Int := muN r (r 0).toNat
theorem RI_mu {r : Int → Int} (h : RI r) : 0 ≤ mu r ∧ mu r ≤ 500 := by
  have n := h.1
  unfold NI at n
  have y := muN_rg (r := r) (fun i a d => by
    have j := h.2.2.2.2.2.1 i a d
    have jb := j.1
    unfold JB at jb
    have := j.2.2.1
    omega) (r 0).toNat (by omega)
  unfold mu
  omega
theorem mu_stap {r : Int → Int} {p : Int} (h : RI r) (h5 : r 5 = 0) (hp : 0 ≤ p ∧ p < r 0) (hs : hset r p) : mu (stapF r p) ≤ mu r - 1 ∧ stapF r p 5 = 0 := by
  have n := h.1
  unfold NI at n
  have e0 : stapF0 r p 0 = r 0 := stap0_at hp.1 (by decide) (by decide) (by decide)
  have e5 : stapF0 r p 5 = r 5 := stap0_at hp.1 (by decide) (by decide) (by decide)
  have g : ∀ k, ¬ k = 3 → ¬ k = 20 → ¬ k = 85 + 10 * p + 9 → stapF0 r p k = r k := fun k a b c => by
    unfold stapF0 inc adn sbn
    rw [up1_ne c, up1_ne b, up1_ne a]
  have one : muN (stapF0 r p) (r 0).toNat = muN r (r 0).toNat - 1 := by
    have y := muN_one (r := r) (r' := stapF0 r p) (p := p) (fun i a => g _ (by omega) (by omega) (by omega)) (fun i a => by
      by_cases z : i = p
      · rw [if_pos z, z, stap_x hp.1 (by decide) (by decide), if_pos rfl]
      · rw [if_neg z]
        exact g _ (by omega) (by omega) (by omega)) (r 0).toNat
    rw [y, if_pos (by omega)]
  have jp := h.2.2.2.2.2.1 p hp.1 hp.2
  have lt := hset_lt jp.1 jp.2.2.1.1 hs
  have sf := stap_f (r := r) hp.1
  unfold stapF leavF
  split
  · have f0 : stayF (stapF0 r p) (jf (stapF0 r p) p 0) 0 = r 0 := by unfold stayF; rw [up1_ne (by decide)]; exact e0
    have ej : ∀ i w : Int, 0 ≤ i → 0 ≤ w → jf (stayF (stapF0 r p) (jf (stapF0 r p) p 0)) i w = jf (stapF0 r p) i w := fun i w a b => by
      unfold stayF
      exact up1_ne (by omega)
    have ei : ∀ i w : Int, 0 ≤ i → 0 ≤ w → jf (inc (goesF (stayF (stapF0 r p) (jf (stapF0 r p) p 0)) p) 21) i w = jf (goesF (stayF (stapF0 r p) (jf (stapF0 r p) p 0)) p) i w := fun i w a b => up1_ne (by omega)
    refine ⟨?_, ?_⟩
    · unfold mu
      have z0 : inc (goesF (stayF (stapF0 r p) (jf (stapF0 r p) p 0)) p) 21 0 = r 0 - 1 := by
        unfold inc
        rw [up1_ne (by decide), goesF_0 hp.1, f0]
      rw [z0, muN_ext _ (fun i a d => ⟨ei i 2 a (by decide), ei i 9 a (by decide)⟩), muN_goes (r := stayF (stapF0 r p) (jf (stapF0 r p) p 0)) (by omega) _ (by omega), ej p 2 hp.1 (by decide), ej p 9 hp.1 (by decide), sf.2.2.1, sf.2.2.2]
      have m1 : ∀ k : Nat, muN (stayF (stapF0 r p) (jf (stapF0 r p) p 0)) k = muN (stapF0 r p) k := fun k => muN_ext k (fun i a d => ⟨ej i 2 a (by decide), ej i 9 a (by decide)⟩)
      rw [m1, m1]
      by_cases y : (((r 0 - 1).toNat : Nat) : Int) ≤ p
      · rw [if_pos y]
        have e : (r 0).toNat = (r 0 - 1).toNat + 1 := by omega
        have e2 : muN (stapF0 r p) ((r 0 - 1).toNat + 1) = muN (stapF0 r p) (r 0 - 1).toNat + (jf (stapF0 r p) (((r 0 - 1).toNat : Nat) : Int) 2 - jf (stapF0 r p) (((r 0 - 1).toNat : Nat) : Int) 9) := rfl
        have ep : (((r 0 - 1).toNat : Nat) : Int) = p := by omega
        rw [ep, sf.2.2.1, sf.2.2.2] at e2
        rw [e] at one ⊢
        omega
      · rw [if_neg y, show (r 0 - 1).toNat + 1 = (r 0).toNat by omega]
        omega
    · unfold inc
      rw [up1_ne (by decide), goesF_at hp.1 (by decide) (by decide)]
      unfold stayF
      rw [up1_ne (by decide), e5]
      exact h5
  · refine ⟨?_, by rw [e5]; exact h5⟩
    unfold mu
    rw [e0, one]
    exact Int.le_refl _
theorem cOK_w {r : Int → Int} (h : RI r) (h5 : ¬ r 5 = 0) : ∀ n, cOK n r
  | 0 => ⟨h, h5⟩
  | n + 1 => ⟨h, fun a => absurd a h5⟩
theorem RI_bst {r : Int → Int} (h : RI r) (h5 : r 5 = 0) (w : wst r (nxj r) = 0) : RI (bstF r (nxj r)) ∧ (¬ bstF r (nxj r) 5 = 0 ∨ (bstF r (nxj r) 5 = 0 ∧ mu (bstF r (nxj r)) ≤ mu r - 1)) := by
  have n := h.1
  unfold NI at n
  have b := nx_ok h w
  have wi := h.2.2.2.2.2.2
  unfold WI at wi
  have jp := h.2.2.2.2.2.1 _ b.1 b.2
  unfold bstF
  by_cases hs : hset r (nxj r)
  · rw [if_pos hs]
    by_cases z : r 12 = 0
    · rw [if_pos z, up1_id (by omega)]
      have m := mu_stap h h5 b hs
      exact ⟨RI_stap h h5 b hs, Or.inr ⟨m.2, m.1⟩⟩
    · rw [if_neg z, ← sta2_c b.1]
      refine ⟨RI_work h b (Or.inr ⟨rfl, hs, by omega⟩), Or.inl ?_⟩
      rw [up1_ne (by decide), up1_ne (by decide), up1_at]
      decide
  · rw [if_neg hs]
    have y := RI_bsh h b (RI_nO h w hs) (not_done jp hs)
    exact ⟨y.1, Or.inl (by rw [y.2.1]; decide)⟩
theorem RI_cOK : ∀ (n : Nat) (r : Int → Int), RI r → mu r < (n : Int) → cOK n r := by
  intro n
  induction n with
  | zero =>
    intro r h m
    have := RI_mu h
    omega
  | succ n ih =>
    intro r h m
    refine ⟨h, fun h5 w => ⟨fun hn => RI_nO h w hn, ?_⟩⟩
    have y := RI_bst h h5 w
    rcases y.2 with z | ⟨z1, z2⟩
    · exact cOK_w y.1 z n
    · exact ih _ y.1 (by omega)
theorem RI_c501 {r : Int → Int} (h : RI r) : cOK 501 r := RI_cOK 501 r h (by have := RI_mu h; omega)
theorem cOK_b : ∀ (n : Nat) (r : Int → Int), cOK n r → bOK n r := by
  intro n
  induction n with
  | zero => exact fun r h => ⟨h.1.rr, h.2⟩
  | succ n ih =>
    intro r h
    refine ⟨h.1.rr, fun a w => ?_⟩
    have y := h.2 a w
    have b := nx_ok h.1 w
    have jp := h.1.2.2.2.2.2.1 _ b.1 b.2
    refine ⟨?_, ih _ y.2⟩
    unfold stO
    split
    · have jb := jp.1
      unfold JB at jb
      have := jp.2.2.1
      omega
    · next hn => exact y.1 hn
theorem RI_b600 {r : Int → Int} (h : RI r) : bOK 600 r := cOK_b 600 r (RI_cOK 600 r h (by have := RI_mu h; omega))
