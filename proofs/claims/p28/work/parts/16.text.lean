/-! the model's texts -/
def ltL (w : Int) : List Int := if w = 0 then [98, 111, 116, 104] else if w = 1 then [103, 97, 116, 104, 101, 114] else if w = 2 then [115, 116, 97, 112, 108, 101] else if w = 3 then [65] else if w = 4 then [108, 101, 116, 116, 101, 114] else if w = 5 then [112, 108, 97, 105, 110] else if w = 6 then [116, 104, 105, 99, 107] else if w = 7 then [99, 111, 108, 111, 114, 101, 100] else [102, 105, 108, 109]
theorem V_lshrK {M : MI} {N N1 pc : Nat} {ls : List (Nat × Value)} {st : List Value} {Q : Option Value → Sto → Prop} {σ : Sto} {x z : Int64} {y : Int} (hz : x >>> ((Int32.ofInt y).toInt64 &&& 63) = z) (hd : decode (miB M) pc = .ok (.lshr, 1)) (k : V M N1 (pc + 1) ls (.long z :: st) N σ Q) : V M N1 pc ls (zI y :: .long x :: st) N σ Q := V_lshr hd (by rw [hz]; exact k)
theorem V_lcmpK {M : MI} {N N1 pc : Nat} {ls : List (Nat × Value)} {st : List Value} {Q : Option Value → Sto → Prop} {σ : Sto} {x y : Int64} {c : Int} (hz : (lg_cmp x y).toInt = c) (hd : decode (miB M) pc = .ok (.lcmp, 1)) (k : V M N1 (pc + 1) ls (zI c :: st) N σ Q) : V M N1 pc ls (.long y :: .long x :: st) N σ Q := V_lcmp hd (by rw [hz]; exact k)
theorem V_iincK {M : MI} {N N1 pc : Nat} {ls : List (Nat × Value)} {st : List Value} {Q : Option Value → Sto → Prop} {σ : Sto} {i : Nat} {n e z : Int} (hd : decode (miB M) pc = .ok (.iinc i n, 3)) (hz : e + n = z) (hv : lk i ls = some (zI e)) (hn : i < miL M) (kk : V M N1 (pc + 3) (lset i (zI z) ls) st N σ Q) : V M N1 pc ls st N σ Q := V_iinc hd hv hn (by rw [hz]; exact kk)
def lt (w k : Int) : Int := (ltL w).getD k.toNat 0
def wle (w : Int) : Int := ((ltL w).length : Int)
/-- the word stands at s -/
def wm (tx : Int → Int) (ln s w : Int) : Prop := ∀ i : Int, 0 ≤ i → i < wle w → s + i < ln ∧ tx (s + i) = lt w i
abbrev dig (tx : Int → Int) (ln k : Int) : Prop := k < ln ∧ 48 ≤ tx k ∧ tx k ≤ 57
def dgc (tx : Int → Int) (ln s : Int) : Int := if dig tx ln s then (if dig tx ln (s + 1) then (if dig tx ln (s + 2) then 3 else 2) else 1) else 0
def dgv (tx : Int → Int) (s : Int) : Nat → Int
  | 0 => 0
  | n + 1 => 10 * dgv tx s n + tx (s + (n : Int)) - 48
theorem dgc_at {tx : Int → Int} {ln s : Int} {n : Nat} (h3 : n ≤ 3) (h : ∀ i : Int, 0 ≤ i → i < (n : Int) → dig tx ln (s + i)) (he : n = 3 ∨ ¬ dig tx ln (s + (n : Int))) : dgc tx ln s = (n : Int) := by
  unfold dgc
  rcases (show n = 0 ∨ n = 1 ∨ n = 2 ∨ n = 3 by omega) with rfl | rfl | rfl | rfl
  · rw [if_neg (by rcases he with q | q; exact absurd q (by decide); simpa using q)]; rfl
  · have h0 := h 0 (by decide) (by decide)
    rw [Int.add_zero] at h0
    rw [if_pos h0, if_neg (by rcases he with q | q; exact absurd q (by decide); exact q)]; rfl
  · have h0 := h 0 (by decide) (by decide)
    rw [Int.add_zero] at h0
    rw [if_pos h0, if_pos (h 1 (by decide) (by decide)), if_neg (by rcases he with q | q; exact absurd q (by decide); exact q)]; rfl
  · have h0 := h 0 (by decide) (by decide)
    rw [Int.add_zero] at h0
    rw [if_pos h0, if_pos (h 1 (by decide) (by decide)), if_pos (h 2 (by decide) (by decide))]; rfl
theorem dgc_rg (tx : Int → Int) (ln s : Int) : 0 ≤ dgc tx ln s ∧ dgc tx ln s ≤ 3 ∧ (0 ≤ s → s ≤ ln → s + dgc tx ln s ≤ ln) := by
  unfold dgc
  (repeat' split) <;> omega
theorem lt_in : ∀ w k : Int, 0 ≤ w → w < 9 → 0 ≤ k → k < 9 → (k < wle w → 32 < lt w k ∧ lt w k < 127) ∧ (wle w ≤ k → lt w k = 0) ∧ 1 ≤ wle w ∧ wle w ≤ 7 := by
  intro w k h0 h1 h2 h3
  obtain ⟨a, rfl⟩ := Int.eq_ofNat_of_zero_le h0
  obtain ⟨b, rfl⟩ := Int.eq_ofNat_of_zero_le h2
  have key : ∀ a : Nat, a < 9 → ∀ b : Nat, b < 9 → ((b : Int) < wle a → 32 < lt a b ∧ lt a b < 127) ∧ (wle a ≤ (b : Int) → lt a b = 0) ∧ 1 ≤ wle a ∧ wle a ≤ 7 := by decide +kernel
  exact key a (by omega) b (by omega)
