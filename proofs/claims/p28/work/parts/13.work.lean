/-! the model's work -/
theorem up1_lt {f : Int → Int} {k j x : Int} (h : j < k ∨ k < j) : up1 f k x j = f j := up1_ne (by omega)
theorem jf_up1 {r : Int → Int} {k x p w : Int} (h : k < 85 + 10 * p ∨ 85 + 10 * p + 10 ≤ k) (h0 : 0 ≤ w) (h1 : w < 10) : jf (up1 r k x) p w = jf r p w := up1_lt (by omega)
theorem JB_ext {r r' : Int → Int} {p : Int} (h : ∀ w, 0 ≤ w → w < 10 → jf r' p w = jf r p w) (hJ : JB r p) : JB r' p := by
  unfold JB at hJ ⊢
  rw [h 0 (by decide) (by decide), h 1 (by decide) (by decide), h 2 (by decide) (by decide), h 3 (by decide) (by decide), h 4 (by decide) (by decide), h 5 (by decide) (by decide), h 6 (by decide) (by decide), h 7 (by decide) (by decide), h 8 (by decide) (by decide), h 9 (by decide) (by decide)]
  exact hJ
theorem JB_up1 {r : Int → Int} {k x p : Int} (h : k < 85 + 10 * p ∨ 85 + 10 * p + 10 ≤ k) (hJ : JB r p) : JB (up1 r k x) p := JB_ext (fun w h0 h1 => jf_up1 h h0 h1) hJ
theorem JB_inc {r : Int → Int} {p w : Int} (hw : w = 8 ∨ w = 9) (h8 : jf r p 8 ≤ 9999) (h9 : jf r p 9 ≤ 999) (hJ : JB r p) : JB (inc r (85 + 10 * p + w)) p := by
  have e : ∀ v, jf (inc r (85 + 10 * p + w)) p v = if v = w then jf r p w + 1 else jf r p v := fun v => by
    by_cases h : v = w
    · rw [if_pos h, h]; exact up1_at
    · rw [if_neg h]; exact up1_ne (by omega)
  have hK := hJ
  unfold JB at hK ⊢
  simp only [e]
  rcases hw with rfl | rfl
  · simp only [Int.reduceEq, if_true, if_false]; omega
  · simp only [Int.reduceEq, if_true, if_false]; omega
theorem als_ext {r r' : Int → Int} {p : Int} (h : ∀ w, 0 ≤ w → w < 10 → jf r' p w = jf r p w) : als r' p = als r p := by
  unfold als sst
  rw [h 1 (by decide) (by decide), h 2 (by decide) (by decide), h 5 (by decide) (by decide)]
/-- a tray with a sheet of this paper; the lowest one -/
abbrev twk (r : Int → Int) (s q t : Int) : Prop := r (25 + 3 * t) = s ∧ r (25 + 3 * t + 1) = q ∧ ¬ r (25 + 3 * t + 2) = 0
noncomputable def lwt (r : Int → Int) (s q : Int) : Int := by
  classical exact if h : ∃ t, 0 ≤ t ∧ t ≤ 3 ∧ twk r s q t ∧ ∀ i, 0 ≤ i → i < t → ¬ twk r s q i then h.choose else -1
theorem lwt_at {r : Int → Int} {s q t : Int} (h0 : 0 ≤ t) (h1 : t ≤ 3) (h2 : twk r s q t) (h3 : ∀ i, 0 ≤ i → i < t → ¬ twk r s q i) : lwt r s q = t := by
  have h : ∃ t, 0 ≤ t ∧ t ≤ 3 ∧ twk r s q t ∧ ∀ i, 0 ≤ i → i < t → ¬ twk r s q i := ⟨t, h0, h1, h2, h3⟩
  unfold lwt
  rw [dif_pos h]
  obtain ⟨a, c, d, f⟩ := h.choose_spec
  generalize h.choose = u at a c d f
  rcases Int.lt_trichotomy t u with z | z | z
  · exact absurd h2 (f t h0 z)
  · exact z.symm
  · exact absurd d (h3 u a z)
abbrev ppm (r : Int → Int) (s q k : Int) : Prop := r (37 + 3 * k) = s ∧ r (37 + 3 * k + 1) = q
/-- where a paper is told; behind all if nowhere -/
noncomputable def ppl (r : Int → Int) (s q : Int) : Int := by
  classical exact if h : ∃ k, 0 ≤ k ∧ k < r 9 ∧ ppm r s q k ∧ ∀ i, 0 ≤ i → i < k → ¬ ppm r s q i then h.choose else r 9
theorem ppl_at {r : Int → Int} {s q k : Int} (h0 : 0 ≤ k) (h1 : k < r 9) (h2 : ppm r s q k) (h3 : ∀ i, 0 ≤ i → i < k → ¬ ppm r s q i) : ppl r s q = k := by
  have h : ∃ k, 0 ≤ k ∧ k < r 9 ∧ ppm r s q k ∧ ∀ i, 0 ≤ i → i < k → ¬ ppm r s q i := ⟨k, h0, h1, h2, h3⟩
  unfold ppl
  rw [dif_pos h]
  obtain ⟨a, c, d, f⟩ := h.choose_spec
  generalize h.choose = u at a c d f
  rcases Int.lt_trichotomy k u with z | z | z
  · exact absurd h2 (f k h0 z)
  · exact z.symm
  · exact absurd d (h3 u a z)
theorem ppl_no {r : Int → Int} {s q : Int} (h3 : ∀ i, 0 ≤ i → i < r 9 → ¬ ppm r s q i) : ppl r s q = r 9 := by
  unfold ppl
  rw [dif_neg (fun ⟨p, a, c, d, f⟩ => h3 p a c d)]
theorem ppl_sp (r : Int → Int) (s q : Int) (h9 : 0 ≤ r 9) : (ppl r s q = r 9 ∧ ∀ i, 0 ≤ i → i < r 9 → ¬ ppm r s q i) ∨ (0 ≤ ppl r s q ∧ ppl r s q < r 9 ∧ ppm r s q (ppl r s q) ∧ ∀ i, 0 ≤ i → i < ppl r s q → ¬ ppm r s q i) := by
  classical
  by_cases h : ∃ p, 0 ≤ p ∧ p < r 9 ∧ ppm r s q p ∧ ∀ i, 0 ≤ i → i < p → ¬ ppm r s q i
  · obtain ⟨p, a, c, d, f⟩ := h
    rw [ppl_at a c d f]
    exact Or.inr ⟨a, c, d, f⟩
  · refine Or.inl ?_
    have h3 : ∀ n : Nat, ∀ i : Int, 0 ≤ i → i < r 9 → i < n → ¬ ppm r s q i := by
      intro n
      induction n with
      | zero => exact fun i a _ c => absurd c (by omega)
      | succ n ih => exact fun i a c _ d => h ⟨i, a, c, d, fun k e f => ih k e (by omega) (by omega)⟩
    have h4 : ∀ i, 0 ≤ i → i < r 9 → ¬ ppm r s q i := fun i a c => h3 (i + 1).toNat i a c (by omega)
    exact ⟨ppl_no h4, h4⟩
noncomputable def tk0 (r : Int → Int) (s q : Int) : Int → Int := inc (sbn r (25 + 3 * lwt r s q + 2) 1) 16
noncomputable def tk1 (r : Int → Int) (s q : Int) : Int → Int := if ppl r s q = r 9 then inc (up1 (up1 (up1 r (37 + 3 * ppl r s q) s) (37 + 3 * ppl r s q + 1) q) (37 + 3 * ppl r s q + 2) 0) 9 else r
noncomputable def tkF (r : Int → Int) (s q : Int) : Int → Int := inc (tk1 (tk0 r s q) s q) (37 + 3 * ppl (tk0 r s q) s q + 2)
noncomputable def bsh0 (r : Int → Int) (p : Int) : Int → Int := tkF r (jf r p 3) (jf r p 4)
def bsh2 (r : Int → Int) (p : Int) : Int → Int := up1 (up1 r 7 (jf r p 0)) 5 1
def bsh1 (r : Int → Int) (p : Int) : Int → Int := up1 (bsh2 r p) 6 (jf (bsh2 r p) p 0)
def bshL (r : Int → Int) (s : Int) : Int → Int := up1 r 4 (s * r 10 + (if s = 2 then r 11 else 0))
noncomputable def bshF (r : Int → Int) (p : Int) : Int → Int := bshL (bsh1 (bsh0 r p) p) (sid (bsh0 r p) p)
def sta2 (r : Int → Int) (p : Int) : Int → Int := up1 (up1 (up1 r 4 (r 12)) 5 2) 6 (jf (up1 (up1 r 4 (r 12)) 5 2) p 0)
noncomputable def bstF (r : Int → Int) (p : Int) : Int → Int := if hset r p then (if r 12 = 0 then stapF (up1 r 4 (r 12)) p else sta2 r p) else bshF r p
noncomputable def begF : Nat → (Int → Int) → Int × (Int → Int)
  | 0, r => (0, r)
  | n + 1, r => if r 5 = 0 then (if wst r (nxj r) = 0 then begF n (bstF r (nxj r)) else (wst r (nxj r), r)) else (0, r)
def fin2 (r : Int → Int) (p : Int) : Int → Int := inc (adn (inc (inc r 2) 17) 19 (sid (inc (inc r 2) 17) p)) (85 + 10 * p + 8)
def fin1 (r : Int → Int) (p : Int) : Int → Int := if 0 < r 14 ∧ r 8 % r 14 = 0 then inc r 18 else leavF (fin2 r p) p
noncomputable def finF (r : Int → Int) : Int → Int := if r 5 = 2 then stapF (endsF r) (plc r (r 6)) else fin1 (inc (endsF r) 8) (plc r (r 6))
def gbT (r : Int → Int) (w m : Int) : Int := if 0 < w ∨ m < r 4 then m else r 4
noncomputable def gbF (r : Int → Int) (w m : Int) : Int → Int := if 0 < w then adn (adn r 24 (gbT r w m)) 23 (gbT r w m) else if r 4 - gbT r w m = 0 then finF (sbn (adn r 24 (gbT r w m)) 4 (gbT r w m)) else sbn (adn r 24 (gbT r w m)) 4 (gbT r w m)
theorem JB_inc9 {r : Int → Int} {p : Int} (h9 : jf r p 9 ≤ 999) (hJ : JB r p) : JB (inc r (85 + 10 * p + 9)) p := by
  have e : ∀ v, jf (inc r (85 + 10 * p + 9)) p v = if v = 9 then jf r p 9 + 1 else jf r p v := fun v => by
    by_cases h : v = 9
    · rw [if_pos h, h]; exact up1_at
    · rw [if_neg h]; exact up1_ne (by omega)
  have hK := hJ
  unfold JB at hK ⊢
  simp only [e, Int.reduceEq, if_true, if_false]
  omega
theorem stap0_J {r : Int → Int} {p : Int} (h9 : jf r p 9 ≤ 999) (hJ : JB r p) : JB (stapF0 r p) p := by
  have jj := hJ
  unfold JB at jj
  refine JB_inc9 ?_ (JB_up1 (by omega) (JB_up1 (by omega) hJ))
  unfold adn sbn
  rw [jf_up1 (by omega) (by decide) (by decide), jf_up1 (by omega) (by decide) (by decide)]
  exact h9
theorem stap0_at {r : Int → Int} {p k : Int} (hp : 0 ≤ p) (h3 : ¬ k = 3) (h20 : ¬ k = 20) (hk : k < 85) : stapF0 r p k = r k := by
  unfold stapF0 inc adn sbn
  rw [up1_ne (by omega), up1_ne h20, up1_ne h3]
theorem tk0_at {r : Int → Int} {s q k : Int} (hl : 0 ≤ lwt r s q ∧ lwt r s q ≤ 3) (hk : k < 16 ∨ (16 < k ∧ k < 25) ∨ 37 ≤ k) : tk0 r s q k = r k := by
  unfold tk0 inc sbn
  rw [up1_ne (by omega), up1_ne (by omega)]
theorem RB_up1 {r : Int → Int} {k x : Int} (hR : RB r) (h : -3000000 ≤ x ∧ x ≤ 3000000 ∨ (16 ≤ k ∧ k < 24) ∨ (37 ≤ k ∧ k < 85 ∧ (k - 37) % 3 = 2)) : RB (up1 r k x) := fun j a c d => by
  by_cases e : j = k
  · rw [e, up1_at]; omega
  · rw [up1_ne e]; exact hR j a c d
theorem lwt_sp {r : Int → Int} {s q : Int} (he : ∃ t, 0 ≤ t ∧ t ≤ 3 ∧ twk r s q t) : 0 ≤ lwt r s q ∧ lwt r s q ≤ 3 ∧ twk r s q (lwt r s q) ∧ ∀ i, 0 ≤ i → i < lwt r s q → ¬ twk r s q i := by
  classical
  have h3 : ∃ t, 0 ≤ t ∧ t ≤ 3 ∧ twk r s q t ∧ ∀ i, 0 ≤ i → i < t → ¬ twk r s q i := by
    apply Classical.byContradiction
    intro h
    have h3 : ∀ n : Nat, ∀ i : Int, 0 ≤ i → i ≤ 3 → i < n → ¬ twk r s q i := by
      intro n
      induction n with
      | zero => exact fun i a _ c => absurd c (by omega)
      | succ n ih => exact fun i a c _ d => h ⟨i, a, c, d, fun k e f => ih k e (by omega) (by omega)⟩
    obtain ⟨t, a, c, d⟩ := he
    exact h3 (t + 1).toNat t a c (by omega) d
  obtain ⟨t, a, c, d, f⟩ := h3
  rw [lwt_at a c d f]
  exact ⟨a, c, d, f⟩
/-- what a sheet needs to be taken -/
def tkO (r : Int → Int) (s q : Int) : Prop := RR r ∧ (∃ t, 0 ≤ t ∧ t ≤ 3 ∧ twk r s q t) ∧ (-2999999 ≤ r (25 + 3 * lwt r s q + 2)) ∧ ppl (tk0 r s q) s q < 16
theorem tkO_0 {r : Int → Int} {s q : Int} (h : tkO r s q) : (0 ≤ lwt r s q ∧ lwt r s q ≤ 3) ∧ RB (tk0 r s q) ∧ tk0 r s q 9 = r 9 ∧ (0 ≤ ppl (tk0 r s q) s q ∧ ppl (tk0 r s q) s q < 16) := by
  obtain ⟨hR, he, h2, h3⟩ := h
  obtain ⟨a, c, d, f⟩ := lwt_sp he
  have e := tk0_at (r := r) (s := s) (q := q) (k := 9) ⟨a, c⟩ (by decide)
  have h9 := hR.2.2.1
  have g := hR.1 (25 + 3 * lwt r s q + 2) (by omega) (by omega) (by omega)
  refine ⟨⟨a, c⟩, RB_up1 (RB_up1 hR.1 (by omega)) (Or.inr (by decide)), e, ?_, h3⟩
  rcases ppl_sp (tk0 r s q) s q (by omega) with z | z <;> omega
