/-! the model's texts -/
def ltL (w : Int) : List Int := if w = 0 then [98, 111, 116, 104] else if w = 1 then [103, 97, 116, 104, 101, 114] else if w = 2 then [115, 116, 97, 112, 108, 101] else if w = 3 then [65] else if w = 4 then [108, 101, 116, 116, 101, 114] else if w = 5 then [112, 108, 97, 105, 110] else if w = 6 then [116, 104, 105, 99, 107] else if w = 7 then [99, 111, 108, 111, 114, 101, 100] else [102, 105, 108, 109]
theorem V_lshrK {M : MI} {N N1 pc : Nat} {ls : List (Nat × Value)} {st : List Value} {Q : Option Value → Sto → Prop} {σ : Sto} {x z : Int64} {y : Int} (hz : x >>> ((Int32.ofInt y).toInt64 &&& 63) = z) (hd : decode (miB M) pc = .ok (.lshr, 1)) (k : V M N1 (pc + 1) ls (.long z :: st) N σ Q) : V M N1 pc ls (zI y :: .long x :: st) N σ Q := V_lshr hd (by rw [hz]; exact k)
theorem V_lcmpK {M : MI} {N N1 pc : Nat} {ls : List (Nat × Value)} {st : List Value} {Q : Option Value → Sto → Prop} {σ : Sto} {x y : Int64} {c : Int} (hz : (lg_cmp x y).toInt = c) (hd : decode (miB M) pc = .ok (.lcmp, 1)) (k : V M N1 (pc + 1) ls (zI c :: st) N σ Q) : V M N1 pc ls (.long y :: .long x :: st) N σ Q := V_lcmp hd (by rw [hz]; exact k)
theorem V_iincK {M : MI} {N N1 pc : Nat} {ls : List (Nat × Value)} {st : List Value} {Q : Option Value → Sto → Prop} {σ : Sto} {i : Nat} {n e z : Int} (hd : decode (miB M) pc = .ok (.iinc i n, 3)) (hz : e + n = z) (hv : lk i ls = some (zI e)) (hn : i < miL M) (kk : V M N1 (pc + 3) (lset i (zI z) ls) st N σ Q) : V M N1 pc ls st N σ Q := V_iinc hd hv hn (by rw [hz]; exact kk)
def lt (w k : Int) : Int := (ltL w).getD k.toNat 0
def wle (w : Int) : Int := ((ltL w).length : Int)
/-- the word stands at s -/
def wm (tx : Int → Int) (ln s w : Int) : Prop := ∀ i : Int, 0 ≤ i → i < wle w → s + i < ln ∧ tx (s + i) = lt w i
abbrev dig (tx : Int → Int) (ln k : Int) : Prop := k < ln ∧ 48 ≤ tx k ∧ tx k ≤ 57
def dgc (tx : Int → Int) (ln s : Int) : Int := if dig tx ln s then (if dig tx ln (s + 1) then (if dig tx ln (s + 2) then 3 else 2) else 1) else 0
def dgv (tx : Int → Int) (s : Int) : Nat → Int
  | 0 => 0
  | n + 1 => 10 * dgv tx s n + tx (s + (n : Int)) - 48
theorem dgc_at {tx : Int → Int} {ln s : Int} {n : Nat} (h3 : n ≤ 3) (h : ∀ i : Int, 0 ≤ i → i < (n : Int) → dig tx ln (s + i)) (he : n = 3 ∨ ¬ dig tx ln (s + (n : Int))) : dgc tx ln s = (n : Int) := by
  unfold dgc
  rcases (show n = 0 ∨ n = 1 ∨ n = 2 ∨ n = 3 by omega) with rfl | rfl | rfl | rfl
  · rw [if_neg (by rcases he with q | q; exact absurd q (by decide); simpa using q)]; rfl
  · have h0 := h 0 (by decide) (by decide)
    rw [Int.add_zero] at h0
    rw [if_pos h0, if_neg (by rcases he with q | q; exact absurd q (by decide); exact q)]; rfl
  · have h0 := h 0 (by decide) (by decide)
    rw [Int.add_zero] at h0
    rw [if_pos h0, if_pos (h 1 (by decide) (by decide)), if_neg (by rcases he with q | q; exact absurd q (by decide); exact q)]; rfl
  · have h0 := h 0 (by decide) (by decide)
    rw [Int.add_zero] at h0
    rw [if_pos h0, if_pos (h 1 (by decide) (by decide)), if_pos (h 2 (by decide) (by decide))]; rfl
theorem dgc_rg (tx : Int → Int) (ln s : Int) : 0 ≤ dgc tx ln s ∧ dgc tx ln s ≤ 3 ∧ (0 ≤ s → s ≤ ln → s + dgc tx ln s ≤ ln) := by
  unfold dgc
  (repeat' split) <;> omega
theorem lt_in : ∀ w k : Int, 0 ≤ w → w < 9 → 0 ≤ k → k < 9 → (k < wle w → 32 < lt w k ∧ lt w k < 127) ∧ (wle w ≤ k → lt w k = 0) ∧ 1 ≤ wle w ∧ wle w ≤ 7 := by
  intro w k h0 h1 h2 h3
  obtain ⟨a, rfl⟩ := Int.eq_ofNat_of_zero_le h0
  obtain ⟨b, rfl⟩ := Int.eq_ofNat_of_zero_le h2
  have key : ∀ a : Nat, a < 9 → ∀ b : Nat, b < 9 → ((b : Int) < wle a → 32 < lt a b ∧ lt a b < 127) ∧ (wle a ≤ (b : Int) → lt a b = 0) ∧ 1 ≤ wle a ∧ wle a ≤ 7 := by decide +kernel
  exact key a (by omega) b (by omega)
set_option maxHeartbeats 60000 in
theorem c_letter0 {σ : Sto} {Q : Option Value → Sto → Prop} {k : Int} (hk : 0 ≤ k ∧ k < 9) (q : Q (some (zI (lt 0 k))) σ) : Con M_X8_letterAt 150 150 σ [zI 0, zI k] Q := by
  refine V_entry ok_X8_letterAt (Nat.le_refl _) (Nat.le_of_ble_eq_true rfl) (V_ls [(0, zI 0), (1, zI k)] ⟨rfl, rfl, trivial⟩ ?_)
  refine V_iload_n (pc := 0) e_X8_letterAt_0 rfl ?_
  refine V_table (pc := 1) e_X8_letterAt_1 (by decide) (by decide) (by decide) (by decide) (fun h => absurd h (by decide)) (fun j o h ho => ?_)
  obtain rfl : j = 0 := by omega
  obtain rfl := Option.some.inj ho
  refine V_ldc2 (pc := 48) (v := 1651471464) (by decide) e_X8_letterAt_48 ?_
  refine V_lstore_n (pc := 51) e_X8_letterAt_51 (by decide) ?_
  refine V_goto (pc := 52) e_X8_letterAt_52 (by decide) ?_
  refine V_iconst (pc := 108) e_X8_letterAt_108 ?_
  refine V_istore (pc := 109) e_X8_letterAt_109 (by decide) ?_
  refine V_lload_n (pc := 111) e_X8_letterAt_111 rfl ?_
  refine V_lstore (pc := 112) e_X8_letterAt_112 (by decide) ?_
  refine V_ls [(0, zI 0), (1, zI k), (2, .long 1651471464), (4, zI 0), (5, .long 1651471464)] ⟨rfl, rfl, rfl, rfl, rfl, trivial⟩ ?_
  refine V_lload (pc := 114) e_X8_letterAt_114 rfl ?_
  refine V_lconst (pc := 116) e_X8_letterAt_116 ?_
  refine V_lcmpK (pc := 117) (c := 1) (by decide +kernel) e_X8_letterAt_117 ?_
  refine V_if_le (pc := 118) e_X8_letterAt_118 (by decide) (by decide) (fun h => absurd h (by decide)) (fun _ => ?_)
  refine V_iincK (pc := 121) (z := 1) e_X8_letterAt_121 rfl rfl (by decide) ?_
  refine V_lload (pc := 124) e_X8_letterAt_124 rfl ?_
  refine V_bipush (pc := 126) (by decide) e_X8_letterAt_126 ?_
  refine V_lshrK (pc := 128) (z := 6451060) (by decide +kernel) e_X8_letterAt_128 ?_
  refine V_lstore (pc := 129) e_X8_letterAt_129 (by decide) ?_
  refine V_goto (pc := 131) e_X8_letterAt_131 (by decide) ?_
  refine V_ls [(0, zI 0), (1, zI k), (2, .long 1651471464), (4, zI 1), (5, .long 6451060)] ⟨rfl, rfl, rfl, rfl, rfl, trivial⟩ ?_
  refine V_lload (pc := 114) e_X8_letterAt_114 rfl ?_
  refine V_lconst (pc := 116) e_X8_letterAt_116 ?_
  refine V_lcmpK (pc := 117) (c := 1) (by decide +kernel) e_X8_letterAt_117 ?_
  refine V_if_le (pc := 118) e_X8_letterAt_118 (by decide) (by decide) (fun h => absurd h (by decide)) (fun _ => ?_)
  refine V_iincK (pc := 121) (z := 2) e_X8_letterAt_121 rfl rfl (by decide) ?_
  refine V_lload (pc := 124) e_X8_letterAt_124 rfl ?_
  refine V_bipush (pc := 126) (by decide) e_X8_letterAt_126 ?_
  refine V_lshrK (pc := 128) (z := 25199) (by decide +kernel) e_X8_letterAt_128 ?_
  refine V_lstore (pc := 129) e_X8_letterAt_129 (by decide) ?_
  refine V_goto (pc := 131) e_X8_letterAt_131 (by decide) ?_
  refine V_ls [(0, zI 0), (1, zI k), (2, .long 1651471464), (4, zI 2), (5, .long 25199)] ⟨rfl, rfl, rfl, rfl, rfl, trivial⟩ ?_
  refine V_lload (pc := 114) e_X8_letterAt_114 rfl ?_
  refine V_lconst (pc := 116) e_X8_letterAt_116 ?_
  refine V_lcmpK (pc := 117) (c := 1) (by decide +kernel) e_X8_letterAt_117 ?_
  refine V_if_le (pc := 118) e_X8_letterAt_118 (by decide) (by decide) (fun h => absurd h (by decide)) (fun _ => ?_)
  refine V_iincK (pc := 121) (z := 3) e_X8_letterAt_121 rfl rfl (by decide) ?_
  refine V_lload (pc := 124) e_X8_letterAt_124 rfl ?_
  refine V_bipush (pc := 126) (by decide) e_X8_letterAt_126 ?_
  refine V_lshrK (pc := 128) (z := 98) (by decide +kernel) e_X8_letterAt_128 ?_
  refine V_lstore (pc := 129) e_X8_letterAt_129 (by decide) ?_
  refine V_goto (pc := 131) e_X8_letterAt_131 (by decide) ?_
  refine V_ls [(0, zI 0), (1, zI k), (2, .long 1651471464), (4, zI 3), (5, .long 98)] ⟨rfl, rfl, rfl, rfl, rfl, trivial⟩ ?_
  refine V_lload (pc := 114) e_X8_letterAt_114 rfl ?_
  refine V_lconst (pc := 116) e_X8_letterAt_116 ?_
  refine V_lcmpK (pc := 117) (c := 1) (by decide +kernel) e_X8_letterAt_117 ?_
  refine V_if_le (pc := 118) e_X8_letterAt_118 (by decide) (by decide) (fun h => absurd h (by decide)) (fun _ => ?_)
  refine V_iincK (pc := 121) (z := 4) e_X8_letterAt_121 rfl rfl (by decide) ?_
  refine V_lload (pc := 124) e_X8_letterAt_124 rfl ?_
  refine V_bipush (pc := 126) (by decide) e_X8_letterAt_126 ?_
  refine V_lshrK (pc := 128) (z := 0) (by decide +kernel) e_X8_letterAt_128 ?_
  refine V_lstore (pc := 129) e_X8_letterAt_129 (by decide) ?_
  refine V_goto (pc := 131) e_X8_letterAt_131 (by decide) ?_
  refine V_ls [(0, zI 0), (1, zI k), (2, .long 1651471464), (4, zI 4), (5, .long 0)] ⟨rfl, rfl, rfl, rfl, rfl, trivial⟩ ?_
  refine V_lload (pc := 114) e_X8_letterAt_114 rfl ?_
  refine V_lconst (pc := 116) e_X8_letterAt_116 ?_
  refine V_lcmpK (pc := 117) (c := 0) (by decide +kernel) e_X8_letterAt_117 ?_
  refine V_if_le (pc := 118) e_X8_letterAt_118 (by decide) (by decide) (fun _ => ?_) (fun h => absurd (by decide) h)
  refine V_iload_n (pc := 134) e_X8_letterAt_134 rfl ?_
  refine V_iload (pc := 135) e_X8_letterAt_135 rfl ?_
  refine V_icmp_lt (pc := 137) e_X8_letterAt_137 (by decide) (by omega) (by decide) (fun h137 => ?_) (fun h137 => ?_)
  · refine V_lload_n (pc := 144) e_X8_letterAt_144 rfl ?_
    refine V_bipush (pc := 145) (by decide) e_X8_letterAt_145 ?_
    refine V_iload (pc := 147) e_X8_letterAt_147 rfl ?_
    refine V_iconst (pc := 149) e_X8_letterAt_149 ?_
    refine V_isub (pc := 150) e_X8_letterAt_150 ?_
    refine V_iload_n (pc := 151) e_X8_letterAt_151 rfl ?_
    refine V_isub (pc := 152) e_X8_letterAt_152 ?_
    refine V_imul (pc := 153) e_X8_letterAt_153 ?_
    refine V_lshr (pc := 154) e_X8_letterAt_154 ?_
    refine V_ldc2 (pc := 155) (v := 255) (by decide) e_X8_letterAt_155 ?_
    refine V_land (pc := 158) e_X8_letterAt_158 ?_
    refine V_l2i (pc := 159) e_X8_letterAt_159 ?_
    refine V_ret (pc := 160) (v := some (zI _)) ⟨e_X8_letterAt_160, _, rfl, rfl⟩ ?_
    exact Qv q (by rcases (show k = 0 ∨ k = 1 ∨ k = 2 ∨ k = 3 by omega) with rfl | rfl | rfl | rfl <;> decide +kernel) rfl
  · refine V_iconst (pc := 140) e_X8_letterAt_140 ?_
    refine V_goto (pc := 141) e_X8_letterAt_141 (by decide) ?_
    refine V_ret (pc := 160) (v := some (zI _)) ⟨e_X8_letterAt_160, _, rfl, rfl⟩ ?_
    exact Qv q (by rw [(lt_in 0 k (by decide) (by decide) (by omega) (by omega)).2.1 (by rw [show wle 0 = 4 by decide +kernel]; omega)]) rfl
set_option maxHeartbeats 60000 in
theorem c_letter1 {σ : Sto} {Q : Option Value → Sto → Prop} {k : Int} (hk : 0 ≤ k ∧ k < 9) (q : Q (some (zI (lt 1 k))) σ) : Con M_X8_letterAt 150 150 σ [zI 1, zI k] Q := by
  refine V_entry ok_X8_letterAt (Nat.le_refl _) (Nat.le_of_ble_eq_true rfl) (V_ls [(0, zI 1), (1, zI k)] ⟨rfl, rfl, trivial⟩ ?_)
  refine V_iload_n (pc := 0) e_X8_letterAt_0 rfl ?_
  refine V_table (pc := 1) e_X8_letterAt_1 (by decide) (by decide) (by decide) (by decide) (fun h => absurd h (by decide)) (fun j o h ho => ?_)
  obtain rfl : j = 1 := by omega
  obtain rfl := Option.some.inj ho
  refine V_ldc2 (pc := 55) (v := 113668262487410) (by decide) e_X8_letterAt_55 ?_
  refine V_lstore_n (pc := 58) e_X8_letterAt_58 (by decide) ?_
  refine V_goto (pc := 59) e_X8_letterAt_59 (by decide) ?_
  refine V_iconst (pc := 108) e_X8_letterAt_108 ?_
  refine V_istore (pc := 109) e_X8_letterAt_109 (by decide) ?_
  refine V_lload_n (pc := 111) e_X8_letterAt_111 rfl ?_
  refine V_lstore (pc := 112) e_X8_letterAt_112 (by decide) ?_
  refine V_ls [(0, zI 1), (1, zI k), (2, .long 113668262487410), (4, zI 0), (5, .long 113668262487410)] ⟨rfl, rfl, rfl, rfl, rfl, trivial⟩ ?_
  refine V_lload (pc := 114) e_X8_letterAt_114 rfl ?_
  refine V_lconst (pc := 116) e_X8_letterAt_116 ?_
  refine V_lcmpK (pc := 117) (c := 1) (by decide +kernel) e_X8_letterAt_117 ?_
  refine V_if_le (pc := 118) e_X8_letterAt_118 (by decide) (by decide) (fun h => absurd h (by decide)) (fun _ => ?_)
  refine V_iincK (pc := 121) (z := 1) e_X8_letterAt_121 rfl rfl (by decide) ?_
  refine V_lload (pc := 124) e_X8_letterAt_124 rfl ?_
  refine V_bipush (pc := 126) (by decide) e_X8_letterAt_126 ?_
  refine V_lshrK (pc := 128) (z := 444016650341) (by decide +kernel) e_X8_letterAt_128 ?_
  refine V_lstore (pc := 129) e_X8_letterAt_129 (by decide) ?_
  refine V_goto (pc := 131) e_X8_letterAt_131 (by decide) ?_
  refine V_ls [(0, zI 1), (1, zI k), (2, .long 113668262487410), (4, zI 1), (5, .long 444016650341)] ⟨rfl, rfl, rfl, rfl, rfl, trivial⟩ ?_
  refine V_lload (pc := 114) e_X8_letterAt_114 rfl ?_
  refine V_lconst (pc := 116) e_X8_letterAt_116 ?_
  refine V_lcmpK (pc := 117) (c := 1) (by decide +kernel) e_X8_letterAt_117 ?_
  refine V_if_le (pc := 118) e_X8_letterAt_118 (by decide) (by decide) (fun h => absurd h (by decide)) (fun _ => ?_)
  refine V_iincK (pc := 121) (z := 2) e_X8_letterAt_121 rfl rfl (by decide) ?_
  refine V_lload (pc := 124) e_X8_letterAt_124 rfl ?_
  refine V_bipush (pc := 126) (by decide) e_X8_letterAt_126 ?_
  refine V_lshrK (pc := 128) (z := 1734440040) (by decide +kernel) e_X8_letterAt_128 ?_
  refine V_lstore (pc := 129) e_X8_letterAt_129 (by decide) ?_
  refine V_goto (pc := 131) e_X8_letterAt_131 (by decide) ?_
  refine V_ls [(0, zI 1), (1, zI k), (2, .long 113668262487410), (4, zI 2), (5, .long 1734440040)] ⟨rfl, rfl, rfl, rfl, rfl, trivial⟩ ?_
  refine V_lload (pc := 114) e_X8_letterAt_114 rfl ?_
  refine V_lconst (pc := 116) e_X8_letterAt_116 ?_
  refine V_lcmpK (pc := 117) (c := 1) (by decide +kernel) e_X8_letterAt_117 ?_
  refine V_if_le (pc := 118) e_X8_letterAt_118 (by decide) (by decide) (fun h => absurd h (by decide)) (fun _ => ?_)
  refine V_iincK (pc := 121) (z := 3) e_X8_letterAt_121 rfl rfl (by decide) ?_
  refine V_lload (pc := 124) e_X8_letterAt_124 rfl ?_
  refine V_bipush (pc := 126) (by decide) e_X8_letterAt_126 ?_
  refine V_lshrK (pc := 128) (z := 6775156) (by decide +kernel) e_X8_letterAt_128 ?_
  refine V_lstore (pc := 129) e_X8_letterAt_129 (by decide) ?_
  refine V_goto (pc := 131) e_X8_letterAt_131 (by decide) ?_
  refine V_ls [(0, zI 1), (1, zI k), (2, .long 113668262487410), (4, zI 3), (5, .long 6775156)] ⟨rfl, rfl, rfl, rfl, rfl, trivial⟩ ?_
  refine V_lload (pc := 114) e_X8_letterAt_114 rfl ?_
  refine V_lconst (pc := 116) e_X8_letterAt_116 ?_
  refine V_lcmpK (pc := 117) (c := 1) (by decide +kernel) e_X8_letterAt_117 ?_
  refine V_if_le (pc := 118) e_X8_letterAt_118 (by decide) (by decide) (fun h => absurd h (by decide)) (fun _ => ?_)
  refine V_iincK (pc := 121) (z := 4) e_X8_letterAt_121 rfl rfl (by decide) ?_
  refine V_lload (pc := 124) e_X8_letterAt_124 rfl ?_
  refine V_bipush (pc := 126) (by decide) e_X8_letterAt_126 ?_
  refine V_lshrK (pc := 128) (z := 26465) (by decide +kernel) e_X8_letterAt_128 ?_
  refine V_lstore (pc := 129) e_X8_letterAt_129 (by decide) ?_
  refine V_goto (pc := 131) e_X8_letterAt_131 (by decide) ?_
  refine V_ls [(0, zI 1), (1, zI k), (2, .long 113668262487410), (4, zI 4), (5, .long 26465)] ⟨rfl, rfl, rfl, rfl, rfl, trivial⟩ ?_
  refine V_lload (pc := 114) e_X8_letterAt_114 rfl ?_
  refine V_lconst (pc := 116) e_X8_letterAt_116 ?_
  refine V_lcmpK (pc := 117) (c := 1) (by decide +kernel) e_X8_letterAt_117 ?_
  refine V_if_le (pc := 118) e_X8_letterAt_118 (by decide) (by decide) (fun h => absurd h (by decide)) (fun _ => ?_)
  refine V_iincK (pc := 121) (z := 5) e_X8_letterAt_121 rfl rfl (by decide) ?_
  refine V_lload (pc := 124) e_X8_letterAt_124 rfl ?_
  refine V_bipush (pc := 126) (by decide) e_X8_letterAt_126 ?_
  refine V_lshrK (pc := 128) (z := 103) (by decide +kernel) e_X8_letterAt_128 ?_
  refine V_lstore (pc := 129) e_X8_letterAt_129 (by decide) ?_
  refine V_goto (pc := 131) e_X8_letterAt_131 (by decide) ?_
  refine V_ls [(0, zI 1), (1, zI k), (2, .long 113668262487410), (4, zI 5), (5, .long 103)] ⟨rfl, rfl, rfl, rfl, rfl, trivial⟩ ?_
  refine V_lload (pc := 114) e_X8_letterAt_114 rfl ?_
  refine V_lconst (pc := 116) e_X8_letterAt_116 ?_
  refine V_lcmpK (pc := 117) (c := 1) (by decide +kernel) e_X8_letterAt_117 ?_
  refine V_if_le (pc := 118) e_X8_letterAt_118 (by decide) (by decide) (fun h => absurd h (by decide)) (fun _ => ?_)
  refine V_iincK (pc := 121) (z := 6) e_X8_letterAt_121 rfl rfl (by decide) ?_
  refine V_lload (pc := 124) e_X8_letterAt_124 rfl ?_
  refine V_bipush (pc := 126) (by decide) e_X8_letterAt_126 ?_
  refine V_lshrK (pc := 128) (z := 0) (by decide +kernel) e_X8_letterAt_128 ?_
  refine V_lstore (pc := 129) e_X8_letterAt_129 (by decide) ?_
  refine V_goto (pc := 131) e_X8_letterAt_131 (by decide) ?_
  refine V_ls [(0, zI 1), (1, zI k), (2, .long 113668262487410), (4, zI 6), (5, .long 0)] ⟨rfl, rfl, rfl, rfl, rfl, trivial⟩ ?_
  refine V_lload (pc := 114) e_X8_letterAt_114 rfl ?_
  refine V_lconst (pc := 116) e_X8_letterAt_116 ?_
  refine V_lcmpK (pc := 117) (c := 0) (by decide +kernel) e_X8_letterAt_117 ?_
  refine V_if_le (pc := 118) e_X8_letterAt_118 (by decide) (by decide) (fun _ => ?_) (fun h => absurd (by decide) h)
  refine V_iload_n (pc := 134) e_X8_letterAt_134 rfl ?_
  refine V_iload (pc := 135) e_X8_letterAt_135 rfl ?_
  refine V_icmp_lt (pc := 137) e_X8_letterAt_137 (by decide) (by omega) (by decide) (fun h137 => ?_) (fun h137 => ?_)
  · refine V_lload_n (pc := 144) e_X8_letterAt_144 rfl ?_
    refine V_bipush (pc := 145) (by decide) e_X8_letterAt_145 ?_
    refine V_iload (pc := 147) e_X8_letterAt_147 rfl ?_
    refine V_iconst (pc := 149) e_X8_letterAt_149 ?_
    refine V_isub (pc := 150) e_X8_letterAt_150 ?_
    refine V_iload_n (pc := 151) e_X8_letterAt_151 rfl ?_
    refine V_isub (pc := 152) e_X8_letterAt_152 ?_
    refine V_imul (pc := 153) e_X8_letterAt_153 ?_
    refine V_lshr (pc := 154) e_X8_letterAt_154 ?_
    refine V_ldc2 (pc := 155) (v := 255) (by decide) e_X8_letterAt_155 ?_
    refine V_land (pc := 158) e_X8_letterAt_158 ?_
    refine V_l2i (pc := 159) e_X8_letterAt_159 ?_
    refine V_ret (pc := 160) (v := some (zI _)) ⟨e_X8_letterAt_160, _, rfl, rfl⟩ ?_
    exact Qv q (by rcases (show k = 0 ∨ k = 1 ∨ k = 2 ∨ k = 3 ∨ k = 4 ∨ k = 5 by omega) with rfl | rfl | rfl | rfl | rfl | rfl <;> decide +kernel) rfl
  · refine V_iconst (pc := 140) e_X8_letterAt_140 ?_
    refine V_goto (pc := 141) e_X8_letterAt_141 (by decide) ?_
    refine V_ret (pc := 160) (v := some (zI _)) ⟨e_X8_letterAt_160, _, rfl, rfl⟩ ?_
    exact Qv q (by rw [(lt_in 1 k (by decide) (by decide) (by omega) (by omega)).2.1 (by rw [show wle 1 = 6 by decide +kernel]; omega)]) rfl
set_option maxHeartbeats 60000 in
theorem c_letter2 {σ : Sto} {Q : Option Value → Sto → Prop} {k : Int} (hk : 0 ≤ k ∧ k < 9) (q : Q (some (zI (lt 2 k))) σ) : Con M_X8_letterAt 150 150 σ [zI 2, zI k] Q := by
  refine V_entry ok_X8_letterAt (Nat.le_refl _) (Nat.le_of_ble_eq_true rfl) (V_ls [(0, zI 2), (1, zI k)] ⟨rfl, rfl, trivial⟩ ?_)
  refine V_iload_n (pc := 0) e_X8_letterAt_0 rfl ?_
  refine V_table (pc := 1) e_X8_letterAt_1 (by decide) (by decide) (by decide) (by decide) (fun h => absurd h (by decide)) (fun j o h ho => ?_)
  obtain rfl : j = 2 := by omega
  obtain rfl := Option.some.inj ho
  refine V_ldc2 (pc := 62) (v := 126943688158309) (by decide) e_X8_letterAt_62 ?_
  refine V_lstore_n (pc := 65) e_X8_letterAt_65 (by decide) ?_
  refine V_goto (pc := 66) e_X8_letterAt_66 (by decide) ?_
  refine V_iconst (pc := 108) e_X8_letterAt_108 ?_
  refine V_istore (pc := 109) e_X8_letterAt_109 (by decide) ?_
  refine V_lload_n (pc := 111) e_X8_letterAt_111 rfl ?_
  refine V_lstore (pc := 112) e_X8_letterAt_112 (by decide) ?_
  refine V_ls [(0, zI 2), (1, zI k), (2, .long 126943688158309), (4, zI 0), (5, .long 126943688158309)] ⟨rfl, rfl, rfl, rfl, rfl, trivial⟩ ?_
  refine V_lload (pc := 114) e_X8_letterAt_114 rfl ?_
  refine V_lconst (pc := 116) e_X8_letterAt_116 ?_
  refine V_lcmpK (pc := 117) (c := 1) (by decide +kernel) e_X8_letterAt_117 ?_
  refine V_if_le (pc := 118) e_X8_letterAt_118 (by decide) (by decide) (fun h => absurd h (by decide)) (fun _ => ?_)
  refine V_iincK (pc := 121) (z := 1) e_X8_letterAt_121 rfl rfl (by decide) ?_
  refine V_lload (pc := 124) e_X8_letterAt_124 rfl ?_
  refine V_bipush (pc := 126) (by decide) e_X8_letterAt_126 ?_
  refine V_lshrK (pc := 128) (z := 495873781868) (by decide +kernel) e_X8_letterAt_128 ?_
  refine V_lstore (pc := 129) e_X8_letterAt_129 (by decide) ?_
  refine V_goto (pc := 131) e_X8_letterAt_131 (by decide) ?_
  refine V_ls [(0, zI 2), (1, zI k), (2, .long 126943688158309), (4, zI 1), (5, .long 495873781868)] ⟨rfl, rfl, rfl, rfl, rfl, trivial⟩ ?_
  refine V_lload (pc := 114) e_X8_letterAt_114 rfl ?_
  refine V_lconst (pc := 116) e_X8_letterAt_116 ?_
  refine V_lcmpK (pc := 117) (c := 1) (by decide +kernel) e_X8_letterAt_117 ?_
  refine V_if_le (pc := 118) e_X8_letterAt_118 (by decide) (by decide) (fun h => absurd h (by decide)) (fun _ => ?_)
  refine V_iincK (pc := 121) (z := 2) e_X8_letterAt_121 rfl rfl (by decide) ?_
  refine V_lload (pc := 124) e_X8_letterAt_124 rfl ?_
  refine V_bipush (pc := 126) (by decide) e_X8_letterAt_126 ?_
  refine V_lshrK (pc := 128) (z := 1937006960) (by decide +kernel) e_X8_letterAt_128 ?_
  refine V_lstore (pc := 129) e_X8_letterAt_129 (by decide) ?_
  refine V_goto (pc := 131) e_X8_letterAt_131 (by decide) ?_
  refine V_ls [(0, zI 2), (1, zI k), (2, .long 126943688158309), (4, zI 2), (5, .long 1937006960)] ⟨rfl, rfl, rfl, rfl, rfl, trivial⟩ ?_
  refine V_lload (pc := 114) e_X8_letterAt_114 rfl ?_
  refine V_lconst (pc := 116) e_X8_letterAt_116 ?_
  refine V_lcmpK (pc := 117) (c := 1) (by decide +kernel) e_X8_letterAt_117 ?_
  refine V_if_le (pc := 118) e_X8_letterAt_118 (by decide) (by decide) (fun h => absurd h (by decide)) (fun _ => ?_)
  refine V_iincK (pc := 121) (z := 3) e_X8_letterAt_121 rfl rfl (by decide) ?_
  refine V_lload (pc := 124) e_X8_letterAt_124 rfl ?_
  refine V_bipush (pc := 126) (by decide) e_X8_letterAt_126 ?_
  refine V_lshrK (pc := 128) (z := 7566433) (by decide +kernel) e_X8_letterAt_128 ?_
  refine V_lstore (pc := 129) e_X8_letterAt_129 (by decide) ?_
  refine V_goto (pc := 131) e_X8_letterAt_131 (by decide) ?_
  refine V_ls [(0, zI 2), (1, zI k), (2, .long 126943688158309), (4, zI 3), (5, .long 7566433)] ⟨rfl, rfl, rfl, rfl, rfl, trivial⟩ ?_
  refine V_lload (pc := 114) e_X8_letterAt_114 rfl ?_
  refine V_lconst (pc := 116) e_X8_letterAt_116 ?_
  refine V_lcmpK (pc := 117) (c := 1) (by decide +kernel) e_X8_letterAt_117 ?_
  refine V_if_le (pc := 118) e_X8_letterAt_118 (by decide) (by decide) (fun h => absurd h (by decide)) (fun _ => ?_)
  refine V_iincK (pc := 121) (z := 4) e_X8_letterAt_121 rfl rfl (by decide) ?_
  refine V_lload (pc := 124) e_X8_letterAt_124 rfl ?_
  refine V_bipush (pc := 126) (by decide) e_X8_letterAt_126 ?_
  refine V_lshrK (pc := 128) (z := 29556) (by decide +kernel) e_X8_letterAt_128 ?_
  refine V_lstore (pc := 129) e_X8_letterAt_129 (by decide) ?_
  refine V_goto (pc := 131) e_X8_letterAt_131 (by decide) ?_
  refine V_ls [(0, zI 2), (1, zI k), (2, .long 126943688158309), (4, zI 4), (5, .long 29556)] ⟨rfl, rfl, rfl, rfl, rfl, trivial⟩ ?_
  refine V_lload (pc := 114) e_X8_letterAt_114 rfl ?_
  refine V_lconst (pc := 116) e_X8_letterAt_116 ?_
  refine V_lcmpK (pc := 117) (c := 1) (by decide +kernel) e_X8_letterAt_117 ?_
  refine V_if_le (pc := 118) e_X8_letterAt_118 (by decide) (by decide) (fun h => absurd h (by decide)) (fun _ => ?_)
  refine V_iincK (pc := 121) (z := 5) e_X8_letterAt_121 rfl rfl (by decide) ?_
  refine V_lload (pc := 124) e_X8_letterAt_124 rfl ?_
  refine V_bipush (pc := 126) (by decide) e_X8_letterAt_126 ?_
  refine V_lshrK (pc := 128) (z := 115) (by decide +kernel) e_X8_letterAt_128 ?_
  refine V_lstore (pc := 129) e_X8_letterAt_129 (by decide) ?_
  refine V_goto (pc := 131) e_X8_letterAt_131 (by decide) ?_
  refine V_ls [(0, zI 2), (1, zI k), (2, .long 126943688158309), (4, zI 5), (5, .long 115)] ⟨rfl, rfl, rfl, rfl, rfl, trivial⟩ ?_
  refine V_lload (pc := 114) e_X8_letterAt_114 rfl ?_
  refine V_lconst (pc := 116) e_X8_letterAt_116 ?_
  refine V_lcmpK (pc := 117) (c := 1) (by decide +kernel) e_X8_letterAt_117 ?_
  refine V_if_le (pc := 118) e_X8_letterAt_118 (by decide) (by decide) (fun h => absurd h (by decide)) (fun _ => ?_)
  refine V_iincK (pc := 121) (z := 6) e_X8_letterAt_121 rfl rfl (by decide) ?_
  refine V_lload (pc := 124) e_X8_letterAt_124 rfl ?_
  refine V_bipush (pc := 126) (by decide) e_X8_letterAt_126 ?_
  refine V_lshrK (pc := 128) (z := 0) (by decide +kernel) e_X8_letterAt_128 ?_
  refine V_lstore (pc := 129) e_X8_letterAt_129 (by decide) ?_
  refine V_goto (pc := 131) e_X8_letterAt_131 (by decide) ?_
  refine V_ls [(0, zI 2), (1, zI k), (2, .long 126943688158309), (4, zI 6), (5, .long 0)] ⟨rfl, rfl, rfl, rfl, rfl, trivial⟩ ?_
  refine V_lload (pc := 114) e_X8_letterAt_114 rfl ?_
  refine V_lconst (pc := 116) e_X8_letterAt_116 ?_
  refine V_lcmpK (pc := 117) (c := 0) (by decide +kernel) e_X8_letterAt_117 ?_
  refine V_if_le (pc := 118) e_X8_letterAt_118 (by decide) (by decide) (fun _ => ?_) (fun h => absurd (by decide) h)
  refine V_iload_n (pc := 134) e_X8_letterAt_134 rfl ?_
  refine V_iload (pc := 135) e_X8_letterAt_135 rfl ?_
  refine V_icmp_lt (pc := 137) e_X8_letterAt_137 (by decide) (by omega) (by decide) (fun h137 => ?_) (fun h137 => ?_)
  · refine V_lload_n (pc := 144) e_X8_letterAt_144 rfl ?_
    refine V_bipush (pc := 145) (by decide) e_X8_letterAt_145 ?_
    refine V_iload (pc := 147) e_X8_letterAt_147 rfl ?_
    refine V_iconst (pc := 149) e_X8_letterAt_149 ?_
    refine V_isub (pc := 150) e_X8_letterAt_150 ?_
    refine V_iload_n (pc := 151) e_X8_letterAt_151 rfl ?_
    refine V_isub (pc := 152) e_X8_letterAt_152 ?_
    refine V_imul (pc := 153) e_X8_letterAt_153 ?_
    refine V_lshr (pc := 154) e_X8_letterAt_154 ?_
    refine V_ldc2 (pc := 155) (v := 255) (by decide) e_X8_letterAt_155 ?_
    refine V_land (pc := 158) e_X8_letterAt_158 ?_
    refine V_l2i (pc := 159) e_X8_letterAt_159 ?_
    refine V_ret (pc := 160) (v := some (zI _)) ⟨e_X8_letterAt_160, _, rfl, rfl⟩ ?_
    exact Qv q (by rcases (show k = 0 ∨ k = 1 ∨ k = 2 ∨ k = 3 ∨ k = 4 ∨ k = 5 by omega) with rfl | rfl | rfl | rfl | rfl | rfl <;> decide +kernel) rfl
  · refine V_iconst (pc := 140) e_X8_letterAt_140 ?_
    refine V_goto (pc := 141) e_X8_letterAt_141 (by decide) ?_
    refine V_ret (pc := 160) (v := some (zI _)) ⟨e_X8_letterAt_160, _, rfl, rfl⟩ ?_
    exact Qv q (by rw [(lt_in 2 k (by decide) (by decide) (by omega) (by omega)).2.1 (by rw [show wle 2 = 6 by decide +kernel]; omega)]) rfl
set_option maxHeartbeats 60000 in
theorem c_letter3 {σ : Sto} {Q : Option Value → Sto → Prop} {k : Int} (hk : 0 ≤ k ∧ k < 9) (q : Q (some (zI (lt 3 k))) σ) : Con M_X8_letterAt 150 150 σ [zI 3, zI k] Q := by
  refine V_entry ok_X8_letterAt (Nat.le_refl _) (Nat.le_of_ble_eq_true rfl) (V_ls [(0, zI 3), (1, zI k)] ⟨rfl, rfl, trivial⟩ ?_)
  refine V_iload_n (pc := 0) e_X8_letterAt_0 rfl ?_
  refine V_table (pc := 1) e_X8_letterAt_1 (by decide) (by decide) (by decide) (by decide) (fun h => absurd h (by decide)) (fun j o h ho => ?_)
  obtain rfl : j = 3 := by omega
  obtain rfl := Option.some.inj ho
  refine V_ldc2 (pc := 69) (v := 65) (by decide) e_X8_letterAt_69 ?_
  refine V_lstore_n (pc := 72) e_X8_letterAt_72 (by decide) ?_
  refine V_goto (pc := 73) e_X8_letterAt_73 (by decide) ?_
  refine V_iconst (pc := 108) e_X8_letterAt_108 ?_
  refine V_istore (pc := 109) e_X8_letterAt_109 (by decide) ?_
  refine V_lload_n (pc := 111) e_X8_letterAt_111 rfl ?_
  refine V_lstore (pc := 112) e_X8_letterAt_112 (by decide) ?_
  refine V_ls [(0, zI 3), (1, zI k), (2, .long 65), (4, zI 0), (5, .long 65)] ⟨rfl, rfl, rfl, rfl, rfl, trivial⟩ ?_
  refine V_lload (pc := 114) e_X8_letterAt_114 rfl ?_
  refine V_lconst (pc := 116) e_X8_letterAt_116 ?_
  refine V_lcmpK (pc := 117) (c := 1) (by decide +kernel) e_X8_letterAt_117 ?_
  refine V_if_le (pc := 118) e_X8_letterAt_118 (by decide) (by decide) (fun h => absurd h (by decide)) (fun _ => ?_)
  refine V_iincK (pc := 121) (z := 1) e_X8_letterAt_121 rfl rfl (by decide) ?_
  refine V_lload (pc := 124) e_X8_letterAt_124 rfl ?_
  refine V_bipush (pc := 126) (by decide) e_X8_letterAt_126 ?_
  refine V_lshrK (pc := 128) (z := 0) (by decide +kernel) e_X8_letterAt_128 ?_
  refine V_lstore (pc := 129) e_X8_letterAt_129 (by decide) ?_
  refine V_goto (pc := 131) e_X8_letterAt_131 (by decide) ?_
  refine V_ls [(0, zI 3), (1, zI k), (2, .long 65), (4, zI 1), (5, .long 0)] ⟨rfl, rfl, rfl, rfl, rfl, trivial⟩ ?_
  refine V_lload (pc := 114) e_X8_letterAt_114 rfl ?_
  refine V_lconst (pc := 116) e_X8_letterAt_116 ?_
  refine V_lcmpK (pc := 117) (c := 0) (by decide +kernel) e_X8_letterAt_117 ?_
  refine V_if_le (pc := 118) e_X8_letterAt_118 (by decide) (by decide) (fun _ => ?_) (fun h => absurd (by decide) h)
  refine V_iload_n (pc := 134) e_X8_letterAt_134 rfl ?_
  refine V_iload (pc := 135) e_X8_letterAt_135 rfl ?_
  refine V_icmp_lt (pc := 137) e_X8_letterAt_137 (by decide) (by omega) (by decide) (fun h137 => ?_) (fun h137 => ?_)
  · refine V_lload_n (pc := 144) e_X8_letterAt_144 rfl ?_
    refine V_bipush (pc := 145) (by decide) e_X8_letterAt_145 ?_
    refine V_iload (pc := 147) e_X8_letterAt_147 rfl ?_
    refine V_iconst (pc := 149) e_X8_letterAt_149 ?_
    refine V_isub (pc := 150) e_X8_letterAt_150 ?_
    refine V_iload_n (pc := 151) e_X8_letterAt_151 rfl ?_
    refine V_isub (pc := 152) e_X8_letterAt_152 ?_
    refine V_imul (pc := 153) e_X8_letterAt_153 ?_
    refine V_lshr (pc := 154) e_X8_letterAt_154 ?_
    refine V_ldc2 (pc := 155) (v := 255) (by decide) e_X8_letterAt_155 ?_
    refine V_land (pc := 158) e_X8_letterAt_158 ?_
    refine V_l2i (pc := 159) e_X8_letterAt_159 ?_
    refine V_ret (pc := 160) (v := some (zI _)) ⟨e_X8_letterAt_160, _, rfl, rfl⟩ ?_
    exact Qv q (by rcases (show k = 0 by omega) with rfl <;> decide +kernel) rfl
  · refine V_iconst (pc := 140) e_X8_letterAt_140 ?_
    refine V_goto (pc := 141) e_X8_letterAt_141 (by decide) ?_
    refine V_ret (pc := 160) (v := some (zI _)) ⟨e_X8_letterAt_160, _, rfl, rfl⟩ ?_
    exact Qv q (by rw [(lt_in 3 k (by decide) (by decide) (by omega) (by omega)).2.1 (by rw [show wle 3 = 1 by decide +kernel]; omega)]) rfl
set_option maxHeartbeats 60000 in
theorem c_letter4 {σ : Sto} {Q : Option Value → Sto → Prop} {k : Int} (hk : 0 ≤ k ∧ k < 9) (q : Q (some (zI (lt 4 k))) σ) : Con M_X8_letterAt 150 150 σ [zI 4, zI k] Q := by
  refine V_entry ok_X8_letterAt (Nat.le_refl _) (Nat.le_of_ble_eq_true rfl) (V_ls [(0, zI 4), (1, zI k)] ⟨rfl, rfl, trivial⟩ ?_)
  refine V_iload_n (pc := 0) e_X8_letterAt_0 rfl ?_
  refine V_table (pc := 1) e_X8_letterAt_1 (by decide) (by decide) (by decide) (by decide) (fun h => absurd h (by decide)) (fun j o h ho => ?_)
  obtain rfl : j = 4 := by omega
  obtain rfl := Option.some.inj ho
  refine V_ldc2 (pc := 76) (v := 119183001281906) (by decide) e_X8_letterAt_76 ?_
  refine V_lstore_n (pc := 79) e_X8_letterAt_79 (by decide) ?_
  refine V_goto (pc := 80) e_X8_letterAt_80 (by decide) ?_
  refine V_iconst (pc := 108) e_X8_letterAt_108 ?_
  refine V_istore (pc := 109) e_X8_letterAt_109 (by decide) ?_
  refine V_lload_n (pc := 111) e_X8_letterAt_111 rfl ?_
  refine V_lstore (pc := 112) e_X8_letterAt_112 (by decide) ?_
  refine V_ls [(0, zI 4), (1, zI k), (2, .long 119183001281906), (4, zI 0), (5, .long 119183001281906)] ⟨rfl, rfl, rfl, rfl, rfl, trivial⟩ ?_
  refine V_lload (pc := 114) e_X8_letterAt_114 rfl ?_
  refine V_lconst (pc := 116) e_X8_letterAt_116 ?_
  refine V_lcmpK (pc := 117) (c := 1) (by decide +kernel) e_X8_letterAt_117 ?_
  refine V_if_le (pc := 118) e_X8_letterAt_118 (by decide) (by decide) (fun h => absurd h (by decide)) (fun _ => ?_)
  refine V_iincK (pc := 121) (z := 1) e_X8_letterAt_121 rfl rfl (by decide) ?_
  refine V_lload (pc := 124) e_X8_letterAt_124 rfl ?_
  refine V_bipush (pc := 126) (by decide) e_X8_letterAt_126 ?_
  refine V_lshrK (pc := 128) (z := 465558598757) (by decide +kernel) e_X8_letterAt_128 ?_
  refine V_lstore (pc := 129) e_X8_letterAt_129 (by decide) ?_
  refine V_goto (pc := 131) e_X8_letterAt_131 (by decide) ?_
  refine V_ls [(0, zI 4), (1, zI k), (2, .long 119183001281906), (4, zI 1), (5, .long 465558598757)] ⟨rfl, rfl, rfl, rfl, rfl, trivial⟩ ?_
  refine V_lload (pc := 114) e_X8_letterAt_114 rfl ?_
  refine V_lconst (pc := 116) e_X8_letterAt_116 ?_
  refine V_lcmpK (pc := 117) (c := 1) (by decide +kernel) e_X8_letterAt_117 ?_
  refine V_if_le (pc := 118) e_X8_letterAt_118 (by decide) (by decide) (fun h => absurd h (by decide)) (fun _ => ?_)
  refine V_iincK (pc := 121) (z := 2) e_X8_letterAt_121 rfl rfl (by decide) ?_
  refine V_lload (pc := 124) e_X8_letterAt_124 rfl ?_
  refine V_bipush (pc := 126) (by decide) e_X8_letterAt_126 ?_
  refine V_lshrK (pc := 128) (z := 1818588276) (by decide +kernel) e_X8_letterAt_128 ?_
  refine V_lstore (pc := 129) e_X8_letterAt_129 (by decide) ?_
  refine V_goto (pc := 131) e_X8_letterAt_131 (by decide) ?_
  refine V_ls [(0, zI 4), (1, zI k), (2, .long 119183001281906), (4, zI 2), (5, .long 1818588276)] ⟨rfl, rfl, rfl, rfl, rfl, trivial⟩ ?_
  refine V_lload (pc := 114) e_X8_letterAt_114 rfl ?_
  refine V_lconst (pc := 116) e_X8_letterAt_116 ?_
  refine V_lcmpK (pc := 117) (c := 1) (by decide +kernel) e_X8_letterAt_117 ?_
  refine V_if_le (pc := 118) e_X8_letterAt_118 (by decide) (by decide) (fun h => absurd h (by decide)) (fun _ => ?_)
  refine V_iincK (pc := 121) (z := 3) e_X8_letterAt_121 rfl rfl (by decide) ?_
  refine V_lload (pc := 124) e_X8_letterAt_124 rfl ?_
  refine V_bipush (pc := 126) (by decide) e_X8_letterAt_126 ?_
  refine V_lshrK (pc := 128) (z := 7103860) (by decide +kernel) e_X8_letterAt_128 ?_
  refine V_lstore (pc := 129) e_X8_letterAt_129 (by decide) ?_
  refine V_goto (pc := 131) e_X8_letterAt_131 (by decide) ?_
  refine V_ls [(0, zI 4), (1, zI k), (2, .long 119183001281906), (4, zI 3), (5, .long 7103860)] ⟨rfl, rfl, rfl, rfl, rfl, trivial⟩ ?_
  refine V_lload (pc := 114) e_X8_letterAt_114 rfl ?_
  refine V_lconst (pc := 116) e_X8_letterAt_116 ?_
  refine V_lcmpK (pc := 117) (c := 1) (by decide +kernel) e_X8_letterAt_117 ?_
  refine V_if_le (pc := 118) e_X8_letterAt_118 (by decide) (by decide) (fun h => absurd h (by decide)) (fun _ => ?_)
  refine V_iincK (pc := 121) (z := 4) e_X8_letterAt_121 rfl rfl (by decide) ?_
  refine V_lload (pc := 124) e_X8_letterAt_124 rfl ?_
  refine V_bipush (pc := 126) (by decide) e_X8_letterAt_126 ?_
  refine V_lshrK (pc := 128) (z := 27749) (by decide +kernel) e_X8_letterAt_128 ?_
  refine V_lstore (pc := 129) e_X8_letterAt_129 (by decide) ?_
  refine V_goto (pc := 131) e_X8_letterAt_131 (by decide) ?_
  refine V_ls [(0, zI 4), (1, zI k), (2, .long 119183001281906), (4, zI 4), (5, .long 27749)] ⟨rfl, rfl, rfl, rfl, rfl, trivial⟩ ?_
  refine V_lload (pc := 114) e_X8_letterAt_114 rfl ?_
  refine V_lconst (pc := 116) e_X8_letterAt_116 ?_
  refine V_lcmpK (pc := 117) (c := 1) (by decide +kernel) e_X8_letterAt_117 ?_
  refine V_if_le (pc := 118) e_X8_letterAt_118 (by decide) (by decide) (fun h => absurd h (by decide)) (fun _ => ?_)
  refine V_iincK (pc := 121) (z := 5) e_X8_letterAt_121 rfl rfl (by decide) ?_
  refine V_lload (pc := 124) e_X8_letterAt_124 rfl ?_
  refine V_bipush (pc := 126) (by decide) e_X8_letterAt_126 ?_
  refine V_lshrK (pc := 128) (z := 108) (by decide +kernel) e_X8_letterAt_128 ?_
  refine V_lstore (pc := 129) e_X8_letterAt_129 (by decide) ?_
  refine V_goto (pc := 131) e_X8_letterAt_131 (by decide) ?_
  refine V_ls [(0, zI 4), (1, zI k), (2, .long 119183001281906), (4, zI 5), (5, .long 108)] ⟨rfl, rfl, rfl, rfl, rfl, trivial⟩ ?_
  refine V_lload (pc := 114) e_X8_letterAt_114 rfl ?_
  refine V_lconst (pc := 116) e_X8_letterAt_116 ?_
  refine V_lcmpK (pc := 117) (c := 1) (by decide +kernel) e_X8_letterAt_117 ?_
  refine V_if_le (pc := 118) e_X8_letterAt_118 (by decide) (by decide) (fun h => absurd h (by decide)) (fun _ => ?_)
  refine V_iincK (pc := 121) (z := 6) e_X8_letterAt_121 rfl rfl (by decide) ?_
  refine V_lload (pc := 124) e_X8_letterAt_124 rfl ?_
  refine V_bipush (pc := 126) (by decide) e_X8_letterAt_126 ?_
  refine V_lshrK (pc := 128) (z := 0) (by decide +kernel) e_X8_letterAt_128 ?_
  refine V_lstore (pc := 129) e_X8_letterAt_129 (by decide) ?_
  refine V_goto (pc := 131) e_X8_letterAt_131 (by decide) ?_
  refine V_ls [(0, zI 4), (1, zI k), (2, .long 119183001281906), (4, zI 6), (5, .long 0)] ⟨rfl, rfl, rfl, rfl, rfl, trivial⟩ ?_
  refine V_lload (pc := 114) e_X8_letterAt_114 rfl ?_
  refine V_lconst (pc := 116) e_X8_letterAt_116 ?_
  refine V_lcmpK (pc := 117) (c := 0) (by decide +kernel) e_X8_letterAt_117 ?_
  refine V_if_le (pc := 118) e_X8_letterAt_118 (by decide) (by decide) (fun _ => ?_) (fun h => absurd (by decide) h)
  refine V_iload_n (pc := 134) e_X8_letterAt_134 rfl ?_
  refine V_iload (pc := 135) e_X8_letterAt_135 rfl ?_
  refine V_icmp_lt (pc := 137) e_X8_letterAt_137 (by decide) (by omega) (by decide) (fun h137 => ?_) (fun h137 => ?_)
  · refine V_lload_n (pc := 144) e_X8_letterAt_144 rfl ?_
    refine V_bipush (pc := 145) (by decide) e_X8_letterAt_145 ?_
    refine V_iload (pc := 147) e_X8_letterAt_147 rfl ?_
    refine V_iconst (pc := 149) e_X8_letterAt_149 ?_
    refine V_isub (pc := 150) e_X8_letterAt_150 ?_
    refine V_iload_n (pc := 151) e_X8_letterAt_151 rfl ?_
    refine V_isub (pc := 152) e_X8_letterAt_152 ?_
    refine V_imul (pc := 153) e_X8_letterAt_153 ?_
    refine V_lshr (pc := 154) e_X8_letterAt_154 ?_
    refine V_ldc2 (pc := 155) (v := 255) (by decide) e_X8_letterAt_155 ?_
    refine V_land (pc := 158) e_X8_letterAt_158 ?_
    refine V_l2i (pc := 159) e_X8_letterAt_159 ?_
    refine V_ret (pc := 160) (v := some (zI _)) ⟨e_X8_letterAt_160, _, rfl, rfl⟩ ?_
    exact Qv q (by rcases (show k = 0 ∨ k = 1 ∨ k = 2 ∨ k = 3 ∨ k = 4 ∨ k = 5 by omega) with rfl | rfl | rfl | rfl | rfl | rfl <;> decide +kernel) rfl
  · refine V_iconst (pc := 140) e_X8_letterAt_140 ?_
    refine V_goto (pc := 141) e_X8_letterAt_141 (by decide) ?_
    refine V_ret (pc := 160) (v := some (zI _)) ⟨e_X8_letterAt_160, _, rfl, rfl⟩ ?_
    exact Qv q (by rw [(lt_in 4 k (by decide) (by decide) (by omega) (by omega)).2.1 (by rw [show wle 4 = 6 by decide +kernel]; omega)]) rfl
set_option maxHeartbeats 60000 in
theorem c_letter5 {σ : Sto} {Q : Option Value → Sto → Prop} {k : Int} (hk : 0 ≤ k ∧ k < 9) (q : Q (some (zI (lt 5 k))) σ) : Con M_X8_letterAt 150 150 σ [zI 5, zI k] Q := by
  refine V_entry ok_X8_letterAt (Nat.le_refl _) (Nat.le_of_ble_eq_true rfl) (V_ls [(0, zI 5), (1, zI k)] ⟨rfl, rfl, trivial⟩ ?_)
  refine V_iload_n (pc := 0) e_X8_letterAt_0 rfl ?_
  refine V_table (pc := 1) e_X8_letterAt_1 (by decide) (by decide) (by decide) (by decide) (fun h => absurd h (by decide)) (fun j o h ho => ?_)
  obtain rfl : j = 5 := by omega
  obtain rfl := Option.some.inj ho
  refine V_ldc2 (pc := 83) (v := 482854660462) (by decide) e_X8_letterAt_83 ?_
  refine V_lstore_n (pc := 86) e_X8_letterAt_86 (by decide) ?_
  refine V_goto (pc := 87) e_X8_letterAt_87 (by decide) ?_
  refine V_iconst (pc := 108) e_X8_letterAt_108 ?_
  refine V_istore (pc := 109) e_X8_letterAt_109 (by decide) ?_
  refine V_lload_n (pc := 111) e_X8_letterAt_111 rfl ?_
  refine V_lstore (pc := 112) e_X8_letterAt_112 (by decide) ?_
  refine V_ls [(0, zI 5), (1, zI k), (2, .long 482854660462), (4, zI 0), (5, .long 482854660462)] ⟨rfl, rfl, rfl, rfl, rfl, trivial⟩ ?_
  refine V_lload (pc := 114) e_X8_letterAt_114 rfl ?_
  refine V_lconst (pc := 116) e_X8_letterAt_116 ?_
  refine V_lcmpK (pc := 117) (c := 1) (by decide +kernel) e_X8_letterAt_117 ?_
  refine V_if_le (pc := 118) e_X8_letterAt_118 (by decide) (by decide) (fun h => absurd h (by decide)) (fun _ => ?_)
  refine V_iincK (pc := 121) (z := 1) e_X8_letterAt_121 rfl rfl (by decide) ?_
  refine V_lload (pc := 124) e_X8_letterAt_124 rfl ?_
  refine V_bipush (pc := 126) (by decide) e_X8_letterAt_126 ?_
  refine V_lshrK (pc := 128) (z := 1886151017) (by decide +kernel) e_X8_letterAt_128 ?_
  refine V_lstore (pc := 129) e_X8_letterAt_129 (by decide) ?_
  refine V_goto (pc := 131) e_X8_letterAt_131 (by decide) ?_
  refine V_ls [(0, zI 5), (1, zI k), (2, .long 482854660462), (4, zI 1), (5, .long 1886151017)] ⟨rfl, rfl, rfl, rfl, rfl, trivial⟩ ?_
  refine V_lload (pc := 114) e_X8_letterAt_114 rfl ?_
  refine V_lconst (pc := 116) e_X8_letterAt_116 ?_
  refine V_lcmpK (pc := 117) (c := 1) (by decide +kernel) e_X8_letterAt_117 ?_
  refine V_if_le (pc := 118) e_X8_letterAt_118 (by decide) (by decide) (fun h => absurd h (by decide)) (fun _ => ?_)
  refine V_iincK (pc := 121) (z := 2) e_X8_letterAt_121 rfl rfl (by decide) ?_
  refine V_lload (pc := 124) e_X8_letterAt_124 rfl ?_
  refine V_bipush (pc := 126) (by decide) e_X8_letterAt_126 ?_
  refine V_lshrK (pc := 128) (z := 7367777) (by decide +kernel) e_X8_letterAt_128 ?_
  refine V_lstore (pc := 129) e_X8_letterAt_129 (by decide) ?_
  refine V_goto (pc := 131) e_X8_letterAt_131 (by decide) ?_
  refine V_ls [(0, zI 5), (1, zI k), (2, .long 482854660462), (4, zI 2), (5, .long 7367777)] ⟨rfl, rfl, rfl, rfl, rfl, trivial⟩ ?_
  refine V_lload (pc := 114) e_X8_letterAt_114 rfl ?_
  refine V_lconst (pc := 116) e_X8_letterAt_116 ?_
  refine V_lcmpK (pc := 117) (c := 1) (by decide +kernel) e_X8_letterAt_117 ?_
  refine V_if_le (pc := 118) e_X8_letterAt_118 (by decide) (by decide) (fun h => absurd h (by decide)) (fun _ => ?_)
  refine V_iincK (pc := 121) (z := 3) e_X8_letterAt_121 rfl rfl (by decide) ?_
  refine V_lload (pc := 124) e_X8_letterAt_124 rfl ?_
  refine V_bipush (pc := 126) (by decide) e_X8_letterAt_126 ?_
  refine V_lshrK (pc := 128) (z := 28780) (by decide +kernel) e_X8_letterAt_128 ?_
  refine V_lstore (pc := 129) e_X8_letterAt_129 (by decide) ?_
  refine V_goto (pc := 131) e_X8_letterAt_131 (by decide) ?_
  refine V_ls [(0, zI 5), (1, zI k), (2, .long 482854660462), (4, zI 3), (5, .long 28780)] ⟨rfl, rfl, rfl, rfl, rfl, trivial⟩ ?_
  refine V_lload (pc := 114) e_X8_letterAt_114 rfl ?_
  refine V_lconst (pc := 116) e_X8_letterAt_116 ?_
  refine V_lcmpK (pc := 117) (c := 1) (by decide +kernel) e_X8_letterAt_117 ?_
  refine V_if_le (pc := 118) e_X8_letterAt_118 (by decide) (by decide) (fun h => absurd h (by decide)) (fun _ => ?_)
  refine V_iincK (pc := 121) (z := 4) e_X8_letterAt_121 rfl rfl (by decide) ?_
  refine V_lload (pc := 124) e_X8_letterAt_124 rfl ?_
  refine V_bipush (pc := 126) (by decide) e_X8_letterAt_126 ?_
  refine V_lshrK (pc := 128) (z := 112) (by decide +kernel) e_X8_letterAt_128 ?_
  refine V_lstore (pc := 129) e_X8_letterAt_129 (by decide) ?_
  refine V_goto (pc := 131) e_X8_letterAt_131 (by decide) ?_
  refine V_ls [(0, zI 5), (1, zI k), (2, .long 482854660462), (4, zI 4), (5, .long 112)] ⟨rfl, rfl, rfl, rfl, rfl, trivial⟩ ?_
  refine V_lload (pc := 114) e_X8_letterAt_114 rfl ?_
  refine V_lconst (pc := 116) e_X8_letterAt_116 ?_
  refine V_lcmpK (pc := 117) (c := 1) (by decide +kernel) e_X8_letterAt_117 ?_
  refine V_if_le (pc := 118) e_X8_letterAt_118 (by decide) (by decide) (fun h => absurd h (by decide)) (fun _ => ?_)
  refine V_iincK (pc := 121) (z := 5) e_X8_letterAt_121 rfl rfl (by decide) ?_
  refine V_lload (pc := 124) e_X8_letterAt_124 rfl ?_
  refine V_bipush (pc := 126) (by decide) e_X8_letterAt_126 ?_
  refine V_lshrK (pc := 128) (z := 0) (by decide +kernel) e_X8_letterAt_128 ?_
  refine V_lstore (pc := 129) e_X8_letterAt_129 (by decide) ?_
  refine V_goto (pc := 131) e_X8_letterAt_131 (by decide) ?_
  refine V_ls [(0, zI 5), (1, zI k), (2, .long 482854660462), (4, zI 5), (5, .long 0)] ⟨rfl, rfl, rfl, rfl, rfl, trivial⟩ ?_
  refine V_lload (pc := 114) e_X8_letterAt_114 rfl ?_
  refine V_lconst (pc := 116) e_X8_letterAt_116 ?_
  refine V_lcmpK (pc := 117) (c := 0) (by decide +kernel) e_X8_letterAt_117 ?_
  refine V_if_le (pc := 118) e_X8_letterAt_118 (by decide) (by decide) (fun _ => ?_) (fun h => absurd (by decide) h)
  refine V_iload_n (pc := 134) e_X8_letterAt_134 rfl ?_
  refine V_iload (pc := 135) e_X8_letterAt_135 rfl ?_
  refine V_icmp_lt (pc := 137) e_X8_letterAt_137 (by decide) (by omega) (by decide) (fun h137 => ?_) (fun h137 => ?_)
  · refine V_lload_n (pc := 144) e_X8_letterAt_144 rfl ?_
    refine V_bipush (pc := 145) (by decide) e_X8_letterAt_145 ?_
    refine V_iload (pc := 147) e_X8_letterAt_147 rfl ?_
    refine V_iconst (pc := 149) e_X8_letterAt_149 ?_
    refine V_isub (pc := 150) e_X8_letterAt_150 ?_
    refine V_iload_n (pc := 151) e_X8_letterAt_151 rfl ?_
    refine V_isub (pc := 152) e_X8_letterAt_152 ?_
    refine V_imul (pc := 153) e_X8_letterAt_153 ?_
    refine V_lshr (pc := 154) e_X8_letterAt_154 ?_
    refine V_ldc2 (pc := 155) (v := 255) (by decide) e_X8_letterAt_155 ?_
    refine V_land (pc := 158) e_X8_letterAt_158 ?_
    refine V_l2i (pc := 159) e_X8_letterAt_159 ?_
    refine V_ret (pc := 160) (v := some (zI _)) ⟨e_X8_letterAt_160, _, rfl, rfl⟩ ?_
    exact Qv q (by rcases (show k = 0 ∨ k = 1 ∨ k = 2 ∨ k = 3 ∨ k = 4 by omega) with rfl | rfl | rfl | rfl | rfl <;> decide +kernel) rfl
  · refine V_iconst (pc := 140) e_X8_letterAt_140 ?_
    refine V_goto (pc := 141) e_X8_letterAt_141 (by decide) ?_
    refine V_ret (pc := 160) (v := some (zI _)) ⟨e_X8_letterAt_160, _, rfl, rfl⟩ ?_
    exact Qv q (by rw [(lt_in 5 k (by decide) (by decide) (by omega) (by omega)).2.1 (by rw [show wle 5 = 5 by decide +kernel]; omega)]) rfl
set_option maxHeartbeats 60000 in
theorem c_letter6 {σ : Sto} {Q : Option Value → Sto → Prop} {k : Int} (hk : 0 ≤ k ∧ k < 9) (q : Q (some (zI (lt 6 k))) σ) : Con M_X8_letterAt 150 150 σ [zI 6, zI k] Q := by
  refine V_entry ok_X8_letterAt (Nat.le_refl _) (Nat.le_of_ble_eq_true rfl) (V_ls [(0, zI 6), (1, zI k)] ⟨rfl, rfl, trivial⟩ ?_)
  refine V_iload_n (pc := 0) e_X8_letterAt_0 rfl ?_
  refine V_table (pc := 1) e_X8_letterAt_1 (by decide) (by decide) (by decide) (by decide) (fun h => absurd h (by decide)) (fun j o h ho => ?_)
  obtain rfl : j = 6 := by omega
  obtain rfl := Option.some.inj ho
  refine V_ldc2 (pc := 90) (v := 499967943531) (by decide) e_X8_letterAt_90 ?_
  refine V_lstore_n (pc := 93) e_X8_letterAt_93 (by decide) ?_
  refine V_goto (pc := 94) e_X8_letterAt_94 (by decide) ?_
  refine V_iconst (pc := 108) e_X8_letterAt_108 ?_
  refine V_istore (pc := 109) e_X8_letterAt_109 (by decide) ?_
  refine V_lload_n (pc := 111) e_X8_letterAt_111 rfl ?_
  refine V_lstore (pc := 112) e_X8_letterAt_112 (by decide) ?_
  refine V_ls [(0, zI 6), (1, zI k), (2, .long 499967943531), (4, zI 0), (5, .long 499967943531)] ⟨rfl, rfl, rfl, rfl, rfl, trivial⟩ ?_
  refine V_lload (pc := 114) e_X8_letterAt_114 rfl ?_
  refine V_lconst (pc := 116) e_X8_letterAt_116 ?_
  refine V_lcmpK (pc := 117) (c := 1) (by decide +kernel) e_X8_letterAt_117 ?_
  refine V_if_le (pc := 118) e_X8_letterAt_118 (by decide) (by decide) (fun h => absurd h (by decide)) (fun _ => ?_)
  refine V_iincK (pc := 121) (z := 1) e_X8_letterAt_121 rfl rfl (by decide) ?_
  refine V_lload (pc := 124) e_X8_letterAt_124 rfl ?_
  refine V_bipush (pc := 126) (by decide) e_X8_letterAt_126 ?_
  refine V_lshrK (pc := 128) (z := 1952999779) (by decide +kernel) e_X8_letterAt_128 ?_
  refine V_lstore (pc := 129) e_X8_letterAt_129 (by decide) ?_
  refine V_goto (pc := 131) e_X8_letterAt_131 (by decide) ?_
  refine V_ls [(0, zI 6), (1, zI k), (2, .long 499967943531), (4, zI 1), (5, .long 1952999779)] ⟨rfl, rfl, rfl, rfl, rfl, trivial⟩ ?_
  refine V_lload (pc := 114) e_X8_letterAt_114 rfl ?_
  refine V_lconst (pc := 116) e_X8_letterAt_116 ?_
  refine V_lcmpK (pc := 117) (c := 1) (by decide +kernel) e_X8_letterAt_117 ?_
  refine V_if_le (pc := 118) e_X8_letterAt_118 (by decide) (by decide) (fun h => absurd h (by decide)) (fun _ => ?_)
  refine V_iincK (pc := 121) (z := 2) e_X8_letterAt_121 rfl rfl (by decide) ?_
  refine V_lload (pc := 124) e_X8_letterAt_124 rfl ?_
  refine V_bipush (pc := 126) (by decide) e_X8_letterAt_126 ?_
  refine V_lshrK (pc := 128) (z := 7628905) (by decide +kernel) e_X8_letterAt_128 ?_
  refine V_lstore (pc := 129) e_X8_letterAt_129 (by decide) ?_
  refine V_goto (pc := 131) e_X8_letterAt_131 (by decide) ?_
  refine V_ls [(0, zI 6), (1, zI k), (2, .long 499967943531), (4, zI 2), (5, .long 7628905)] ⟨rfl, rfl, rfl, rfl, rfl, trivial⟩ ?_
  refine V_lload (pc := 114) e_X8_letterAt_114 rfl ?_
  refine V_lconst (pc := 116) e_X8_letterAt_116 ?_
  refine V_lcmpK (pc := 117) (c := 1) (by decide +kernel) e_X8_letterAt_117 ?_
  refine V_if_le (pc := 118) e_X8_letterAt_118 (by decide) (by decide) (fun h => absurd h (by decide)) (fun _ => ?_)
  refine V_iincK (pc := 121) (z := 3) e_X8_letterAt_121 rfl rfl (by decide) ?_
  refine V_lload (pc := 124) e_X8_letterAt_124 rfl ?_
  refine V_bipush (pc := 126) (by decide) e_X8_letterAt_126 ?_
  refine V_lshrK (pc := 128) (z := 29800) (by decide +kernel) e_X8_letterAt_128 ?_
  refine V_lstore (pc := 129) e_X8_letterAt_129 (by decide) ?_
  refine V_goto (pc := 131) e_X8_letterAt_131 (by decide) ?_
  refine V_ls [(0, zI 6), (1, zI k), (2, .long 499967943531), (4, zI 3), (5, .long 29800)] ⟨rfl, rfl, rfl, rfl, rfl, trivial⟩ ?_
  refine V_lload (pc := 114) e_X8_letterAt_114 rfl ?_
  refine V_lconst (pc := 116) e_X8_letterAt_116 ?_
  refine V_lcmpK (pc := 117) (c := 1) (by decide +kernel) e_X8_letterAt_117 ?_
  refine V_if_le (pc := 118) e_X8_letterAt_118 (by decide) (by decide) (fun h => absurd h (by decide)) (fun _ => ?_)
  refine V_iincK (pc := 121) (z := 4) e_X8_letterAt_121 rfl rfl (by decide) ?_
  refine V_lload (pc := 124) e_X8_letterAt_124 rfl ?_
  refine V_bipush (pc := 126) (by decide) e_X8_letterAt_126 ?_
  refine V_lshrK (pc := 128) (z := 116) (by decide +kernel) e_X8_letterAt_128 ?_
  refine V_lstore (pc := 129) e_X8_letterAt_129 (by decide) ?_
  refine V_goto (pc := 131) e_X8_letterAt_131 (by decide) ?_
  refine V_ls [(0, zI 6), (1, zI k), (2, .long 499967943531), (4, zI 4), (5, .long 116)] ⟨rfl, rfl, rfl, rfl, rfl, trivial⟩ ?_
  refine V_lload (pc := 114) e_X8_letterAt_114 rfl ?_
  refine V_lconst (pc := 116) e_X8_letterAt_116 ?_
  refine V_lcmpK (pc := 117) (c := 1) (by decide +kernel) e_X8_letterAt_117 ?_
  refine V_if_le (pc := 118) e_X8_letterAt_118 (by decide) (by decide) (fun h => absurd h (by decide)) (fun _ => ?_)
  refine V_iincK (pc := 121) (z := 5) e_X8_letterAt_121 rfl rfl (by decide) ?_
  refine V_lload (pc := 124) e_X8_letterAt_124 rfl ?_
  refine V_bipush (pc := 126) (by decide) e_X8_letterAt_126 ?_
  refine V_lshrK (pc := 128) (z := 0) (by decide +kernel) e_X8_letterAt_128 ?_
  refine V_lstore (pc := 129) e_X8_letterAt_129 (by decide) ?_
  refine V_goto (pc := 131) e_X8_letterAt_131 (by decide) ?_
  refine V_ls [(0, zI 6), (1, zI k), (2, .long 499967943531), (4, zI 5), (5, .long 0)] ⟨rfl, rfl, rfl, rfl, rfl, trivial⟩ ?_
  refine V_lload (pc := 114) e_X8_letterAt_114 rfl ?_
  refine V_lconst (pc := 116) e_X8_letterAt_116 ?_
  refine V_lcmpK (pc := 117) (c := 0) (by decide +kernel) e_X8_letterAt_117 ?_
  refine V_if_le (pc := 118) e_X8_letterAt_118 (by decide) (by decide) (fun _ => ?_) (fun h => absurd (by decide) h)
  refine V_iload_n (pc := 134) e_X8_letterAt_134 rfl ?_
  refine V_iload (pc := 135) e_X8_letterAt_135 rfl ?_
  refine V_icmp_lt (pc := 137) e_X8_letterAt_137 (by decide) (by omega) (by decide) (fun h137 => ?_) (fun h137 => ?_)
  · refine V_lload_n (pc := 144) e_X8_letterAt_144 rfl ?_
    refine V_bipush (pc := 145) (by decide) e_X8_letterAt_145 ?_
    refine V_iload (pc := 147) e_X8_letterAt_147 rfl ?_
    refine V_iconst (pc := 149) e_X8_letterAt_149 ?_
    refine V_isub (pc := 150) e_X8_letterAt_150 ?_
    refine V_iload_n (pc := 151) e_X8_letterAt_151 rfl ?_
    refine V_isub (pc := 152) e_X8_letterAt_152 ?_
    refine V_imul (pc := 153) e_X8_letterAt_153 ?_
    refine V_lshr (pc := 154) e_X8_letterAt_154 ?_
    refine V_ldc2 (pc := 155) (v := 255) (by decide) e_X8_letterAt_155 ?_
    refine V_land (pc := 158) e_X8_letterAt_158 ?_
    refine V_l2i (pc := 159) e_X8_letterAt_159 ?_
    refine V_ret (pc := 160) (v := some (zI _)) ⟨e_X8_letterAt_160, _, rfl, rfl⟩ ?_
    exact Qv q (by rcases (show k = 0 ∨ k = 1 ∨ k = 2 ∨ k = 3 ∨ k = 4 by omega) with rfl | rfl | rfl | rfl | rfl <;> decide +kernel) rfl
  · refine V_iconst (pc := 140) e_X8_letterAt_140 ?_
    refine V_goto (pc := 141) e_X8_letterAt_141 (by decide) ?_
    refine V_ret (pc := 160) (v := some (zI _)) ⟨e_X8_letterAt_160, _, rfl, rfl⟩ ?_
    exact Qv q (by rw [(lt_in 6 k (by decide) (by decide) (by omega) (by omega)).2.1 (by rw [show wle 6 = 5 by decide +kernel]; omega)]) rfl
set_option maxHeartbeats 60000 in
theorem c_letter7 {σ : Sto} {Q : Option Value → Sto → Prop} {k : Int} (hk : 0 ≤ k ∧ k < 9) (q : Q (some (zI (lt 7 k))) σ) : Con M_X8_letterAt 150 150 σ [zI 7, zI k] Q := by
  refine V_entry ok_X8_letterAt (Nat.le_refl _) (Nat.le_of_ble_eq_true rfl) (V_ls [(0, zI 7), (1, zI k)] ⟨rfl, rfl, trivial⟩ ?_)
  refine V_iload_n (pc := 0) e_X8_letterAt_0 rfl ?_
  refine V_table (pc := 1) e_X8_letterAt_1 (by decide) (by decide) (by decide) (by decide) (fun h => absurd h (by decide)) (fun j o h ho => ?_)
  obtain rfl : j = 7 := by omega
  obtain rfl := Option.some.inj ho
  refine V_ldc2 (pc := 97) (v := 27988534211274084) (by decide) e_X8_letterAt_97 ?_
  refine V_lstore_n (pc := 100) e_X8_letterAt_100 (by decide) ?_
  refine V_goto (pc := 101) e_X8_letterAt_101 (by decide) ?_
  refine V_iconst (pc := 108) e_X8_letterAt_108 ?_
  refine V_istore (pc := 109) e_X8_letterAt_109 (by decide) ?_
  refine V_lload_n (pc := 111) e_X8_letterAt_111 rfl ?_
  refine V_lstore (pc := 112) e_X8_letterAt_112 (by decide) ?_
  refine V_ls [(0, zI 7), (1, zI k), (2, .long 27988534211274084), (4, zI 0), (5, .long 27988534211274084)] ⟨rfl, rfl, rfl, rfl, rfl, trivial⟩ ?_
  refine V_lload (pc := 114) e_X8_letterAt_114 rfl ?_
  refine V_lconst (pc := 116) e_X8_letterAt_116 ?_
  refine V_lcmpK (pc := 117) (c := 1) (by decide +kernel) e_X8_letterAt_117 ?_
  refine V_if_le (pc := 118) e_X8_letterAt_118 (by decide) (by decide) (fun h => absurd h (by decide)) (fun _ => ?_)
  refine V_iincK (pc := 121) (z := 1) e_X8_letterAt_121 rfl rfl (by decide) ?_
  refine V_lload (pc := 124) e_X8_letterAt_124 rfl ?_
  refine V_bipush (pc := 126) (by decide) e_X8_letterAt_126 ?_
  refine V_lshrK (pc := 128) (z := 109330211762789) (by decide +kernel) e_X8_letterAt_128 ?_
  refine V_lstore (pc := 129) e_X8_letterAt_129 (by decide) ?_
  refine V_goto (pc := 131) e_X8_letterAt_131 (by decide) ?_
  refine V_ls [(0, zI 7), (1, zI k), (2, .long 27988534211274084), (4, zI 1), (5, .long 109330211762789)] ⟨rfl, rfl, rfl, rfl, rfl, trivial⟩ ?_
  refine V_lload (pc := 114) e_X8_letterAt_114 rfl ?_
  refine V_lconst (pc := 116) e_X8_letterAt_116 ?_
  refine V_lcmpK (pc := 117) (c := 1) (by decide +kernel) e_X8_letterAt_117 ?_
  refine V_if_le (pc := 118) e_X8_letterAt_118 (by decide) (by decide) (fun h => absurd h (by decide)) (fun _ => ?_)
  refine V_iincK (pc := 121) (z := 2) e_X8_letterAt_121 rfl rfl (by decide) ?_
  refine V_lload (pc := 124) e_X8_letterAt_124 rfl ?_
  refine V_bipush (pc := 126) (by decide) e_X8_letterAt_126 ?_
  refine V_lshrK (pc := 128) (z := 427071139698) (by decide +kernel) e_X8_letterAt_128 ?_
  refine V_lstore (pc := 129) e_X8_letterAt_129 (by decide) ?_
  refine V_goto (pc := 131) e_X8_letterAt_131 (by decide) ?_
  refine V_ls [(0, zI 7), (1, zI k), (2, .long 27988534211274084), (4, zI 2), (5, .long 427071139698)] ⟨rfl, rfl, rfl, rfl, rfl, trivial⟩ ?_
  refine V_lload (pc := 114) e_X8_letterAt_114 rfl ?_
  refine V_lconst (pc := 116) e_X8_letterAt_116 ?_
  refine V_lcmpK (pc := 117) (c := 1) (by decide +kernel) e_X8_letterAt_117 ?_
  refine V_if_le (pc := 118) e_X8_letterAt_118 (by decide) (by decide) (fun h => absurd h (by decide)) (fun _ => ?_)
  refine V_iincK (pc := 121) (z := 3) e_X8_letterAt_121 rfl rfl (by decide) ?_
  refine V_lload (pc := 124) e_X8_letterAt_124 rfl ?_
  refine V_bipush (pc := 126) (by decide) e_X8_letterAt_126 ?_
  refine V_lshrK (pc := 128) (z := 1668246639) (by decide +kernel) e_X8_letterAt_128 ?_
  refine V_lstore (pc := 129) e_X8_letterAt_129 (by decide) ?_
  refine V_goto (pc := 131) e_X8_letterAt_131 (by decide) ?_
  refine V_ls [(0, zI 7), (1, zI k), (2, .long 27988534211274084), (4, zI 3), (5, .long 1668246639)] ⟨rfl, rfl, rfl, rfl, rfl, trivial⟩ ?_
  refine V_lload (pc := 114) e_X8_letterAt_114 rfl ?_
  refine V_lconst (pc := 116) e_X8_letterAt_116 ?_
  refine V_lcmpK (pc := 117) (c := 1) (by decide +kernel) e_X8_letterAt_117 ?_
  refine V_if_le (pc := 118) e_X8_letterAt_118 (by decide) (by decide) (fun h => absurd h (by decide)) (fun _ => ?_)
  refine V_iincK (pc := 121) (z := 4) e_X8_letterAt_121 rfl rfl (by decide) ?_
  refine V_lload (pc := 124) e_X8_letterAt_124 rfl ?_
  refine V_bipush (pc := 126) (by decide) e_X8_letterAt_126 ?_
  refine V_lshrK (pc := 128) (z := 6516588) (by decide +kernel) e_X8_letterAt_128 ?_
  refine V_lstore (pc := 129) e_X8_letterAt_129 (by decide) ?_
  refine V_goto (pc := 131) e_X8_letterAt_131 (by decide) ?_
  refine V_ls [(0, zI 7), (1, zI k), (2, .long 27988534211274084), (4, zI 4), (5, .long 6516588)] ⟨rfl, rfl, rfl, rfl, rfl, trivial⟩ ?_
  refine V_lload (pc := 114) e_X8_letterAt_114 rfl ?_
  refine V_lconst (pc := 116) e_X8_letterAt_116 ?_
  refine V_lcmpK (pc := 117) (c := 1) (by decide +kernel) e_X8_letterAt_117 ?_
  refine V_if_le (pc := 118) e_X8_letterAt_118 (by decide) (by decide) (fun h => absurd h (by decide)) (fun _ => ?_)
  refine V_iincK (pc := 121) (z := 5) e_X8_letterAt_121 rfl rfl (by decide) ?_
  refine V_lload (pc := 124) e_X8_letterAt_124 rfl ?_
  refine V_bipush (pc := 126) (by decide) e_X8_letterAt_126 ?_
  refine V_lshrK (pc := 128) (z := 25455) (by decide +kernel) e_X8_letterAt_128 ?_
  refine V_lstore (pc := 129) e_X8_letterAt_129 (by decide) ?_
  refine V_goto (pc := 131) e_X8_letterAt_131 (by decide) ?_
  refine V_ls [(0, zI 7), (1, zI k), (2, .long 27988534211274084), (4, zI 5), (5, .long 25455)] ⟨rfl, rfl, rfl, rfl, rfl, trivial⟩ ?_
  refine V_lload (pc := 114) e_X8_letterAt_114 rfl ?_
  refine V_lconst (pc := 116) e_X8_letterAt_116 ?_
  refine V_lcmpK (pc := 117) (c := 1) (by decide +kernel) e_X8_letterAt_117 ?_
  refine V_if_le (pc := 118) e_X8_letterAt_118 (by decide) (by decide) (fun h => absurd h (by decide)) (fun _ => ?_)
  refine V_iincK (pc := 121) (z := 6) e_X8_letterAt_121 rfl rfl (by decide) ?_
  refine V_lload (pc := 124) e_X8_letterAt_124 rfl ?_
  refine V_bipush (pc := 126) (by decide) e_X8_letterAt_126 ?_
  refine V_lshrK (pc := 128) (z := 99) (by decide +kernel) e_X8_letterAt_128 ?_
  refine V_lstore (pc := 129) e_X8_letterAt_129 (by decide) ?_
  refine V_goto (pc := 131) e_X8_letterAt_131 (by decide) ?_
  refine V_ls [(0, zI 7), (1, zI k), (2, .long 27988534211274084), (4, zI 6), (5, .long 99)] ⟨rfl, rfl, rfl, rfl, rfl, trivial⟩ ?_
  refine V_lload (pc := 114) e_X8_letterAt_114 rfl ?_
  refine V_lconst (pc := 116) e_X8_letterAt_116 ?_
  refine V_lcmpK (pc := 117) (c := 1) (by decide +kernel) e_X8_letterAt_117 ?_
  refine V_if_le (pc := 118) e_X8_letterAt_118 (by decide) (by decide) (fun h => absurd h (by decide)) (fun _ => ?_)
  refine V_iincK (pc := 121) (z := 7) e_X8_letterAt_121 rfl rfl (by decide) ?_
  refine V_lload (pc := 124) e_X8_letterAt_124 rfl ?_
  refine V_bipush (pc := 126) (by decide) e_X8_letterAt_126 ?_
  refine V_lshrK (pc := 128) (z := 0) (by decide +kernel) e_X8_letterAt_128 ?_
  refine V_lstore (pc := 129) e_X8_letterAt_129 (by decide) ?_
  refine V_goto (pc := 131) e_X8_letterAt_131 (by decide) ?_
  refine V_ls [(0, zI 7), (1, zI k), (2, .long 27988534211274084), (4, zI 7), (5, .long 0)] ⟨rfl, rfl, rfl, rfl, rfl, trivial⟩ ?_
  refine V_lload (pc := 114) e_X8_letterAt_114 rfl ?_
  refine V_lconst (pc := 116) e_X8_letterAt_116 ?_
  refine V_lcmpK (pc := 117) (c := 0) (by decide +kernel) e_X8_letterAt_117 ?_
  refine V_if_le (pc := 118) e_X8_letterAt_118 (by decide) (by decide) (fun _ => ?_) (fun h => absurd (by decide) h)
  refine V_iload_n (pc := 134) e_X8_letterAt_134 rfl ?_
  refine V_iload (pc := 135) e_X8_letterAt_135 rfl ?_
  refine V_icmp_lt (pc := 137) e_X8_letterAt_137 (by decide) (by omega) (by decide) (fun h137 => ?_) (fun h137 => ?_)
  · refine V_lload_n (pc := 144) e_X8_letterAt_144 rfl ?_
    refine V_bipush (pc := 145) (by decide) e_X8_letterAt_145 ?_
    refine V_iload (pc := 147) e_X8_letterAt_147 rfl ?_
    refine V_iconst (pc := 149) e_X8_letterAt_149 ?_
    refine V_isub (pc := 150) e_X8_letterAt_150 ?_
    refine V_iload_n (pc := 151) e_X8_letterAt_151 rfl ?_
    refine V_isub (pc := 152) e_X8_letterAt_152 ?_
    refine V_imul (pc := 153) e_X8_letterAt_153 ?_
    refine V_lshr (pc := 154) e_X8_letterAt_154 ?_
    refine V_ldc2 (pc := 155) (v := 255) (by decide) e_X8_letterAt_155 ?_
    refine V_land (pc := 158) e_X8_letterAt_158 ?_
    refine V_l2i (pc := 159) e_X8_letterAt_159 ?_
    refine V_ret (pc := 160) (v := some (zI _)) ⟨e_X8_letterAt_160, _, rfl, rfl⟩ ?_
    exact Qv q (by rcases (show k = 0 ∨ k = 1 ∨ k = 2 ∨ k = 3 ∨ k = 4 ∨ k = 5 ∨ k = 6 by omega) with rfl | rfl | rfl | rfl | rfl | rfl | rfl <;> decide +kernel) rfl
  · refine V_iconst (pc := 140) e_X8_letterAt_140 ?_
    refine V_goto (pc := 141) e_X8_letterAt_141 (by decide) ?_
    refine V_ret (pc := 160) (v := some (zI _)) ⟨e_X8_letterAt_160, _, rfl, rfl⟩ ?_
    exact Qv q (by rw [(lt_in 7 k (by decide) (by decide) (by omega) (by omega)).2.1 (by rw [show wle 7 = 7 by decide +kernel]; omega)]) rfl
set_option maxHeartbeats 60000 in
theorem c_letter8 {σ : Sto} {Q : Option Value → Sto → Prop} {k : Int} (hk : 0 ≤ k ∧ k < 9) (q : Q (some (zI (lt 8 k))) σ) : Con M_X8_letterAt 150 150 σ [zI 8, zI k] Q := by
  refine V_entry ok_X8_letterAt (Nat.le_refl _) (Nat.le_of_ble_eq_true rfl) (V_ls [(0, zI 8), (1, zI k)] ⟨rfl, rfl, trivial⟩ ?_)
  refine V_iload_n (pc := 0) e_X8_letterAt_0 rfl ?_
  refine V_table (pc := 1) e_X8_letterAt_1 (by decide) (by decide) (by decide) (by decide) (fun _ => ?_) (fun j o h ho => by
    obtain rfl : j = 8 := by omega
    exact absurd ho (by simp))
  refine V_ldc2 (pc := 104) (v := 1718185069) (by decide) e_X8_letterAt_104 ?_
  refine V_lstore_n (pc := 107) e_X8_letterAt_107 (by decide) ?_
  refine V_iconst (pc := 108) e_X8_letterAt_108 ?_
  refine V_istore (pc := 109) e_X8_letterAt_109 (by decide) ?_
  refine V_lload_n (pc := 111) e_X8_letterAt_111 rfl ?_
  refine V_lstore (pc := 112) e_X8_letterAt_112 (by decide) ?_
  refine V_ls [(0, zI 8), (1, zI k), (2, .long 1718185069), (4, zI 0), (5, .long 1718185069)] ⟨rfl, rfl, rfl, rfl, rfl, trivial⟩ ?_
  refine V_lload (pc := 114) e_X8_letterAt_114 rfl ?_
  refine V_lconst (pc := 116) e_X8_letterAt_116 ?_
  refine V_lcmpK (pc := 117) (c := 1) (by decide +kernel) e_X8_letterAt_117 ?_
  refine V_if_le (pc := 118) e_X8_letterAt_118 (by decide) (by decide) (fun h => absurd h (by decide)) (fun _ => ?_)
  refine V_iincK (pc := 121) (z := 1) e_X8_letterAt_121 rfl rfl (by decide) ?_
  refine V_lload (pc := 124) e_X8_letterAt_124 rfl ?_
  refine V_bipush (pc := 126) (by decide) e_X8_letterAt_126 ?_
  refine V_lshrK (pc := 128) (z := 6711660) (by decide +kernel) e_X8_letterAt_128 ?_
  refine V_lstore (pc := 129) e_X8_letterAt_129 (by decide) ?_
  refine V_goto (pc := 131) e_X8_letterAt_131 (by decide) ?_
  refine V_ls [(0, zI 8), (1, zI k), (2, .long 1718185069), (4, zI 1), (5, .long 6711660)] ⟨rfl, rfl, rfl, rfl, rfl, trivial⟩ ?_
  refine V_lload (pc := 114) e_X8_letterAt_114 rfl ?_
  refine V_lconst (pc := 116) e_X8_letterAt_116 ?_
  refine V_lcmpK (pc := 117) (c := 1) (by decide +kernel) e_X8_letterAt_117 ?_
  refine V_if_le (pc := 118) e_X8_letterAt_118 (by decide) (by decide) (fun h => absurd h (by decide)) (fun _ => ?_)
  refine V_iincK (pc := 121) (z := 2) e_X8_letterAt_121 rfl rfl (by decide) ?_
  refine V_lload (pc := 124) e_X8_letterAt_124 rfl ?_
  refine V_bipush (pc := 126) (by decide) e_X8_letterAt_126 ?_
  refine V_lshrK (pc := 128) (z := 26217) (by decide +kernel) e_X8_letterAt_128 ?_
  refine V_lstore (pc := 129) e_X8_letterAt_129 (by decide) ?_
  refine V_goto (pc := 131) e_X8_letterAt_131 (by decide) ?_
  refine V_ls [(0, zI 8), (1, zI k), (2, .long 1718185069), (4, zI 2), (5, .long 26217)] ⟨rfl, rfl, rfl, rfl, rfl, trivial⟩ ?_
  refine V_lload (pc := 114) e_X8_letterAt_114 rfl ?_
  refine V_lconst (pc := 116) e_X8_letterAt_116 ?_
  refine V_lcmpK (pc := 117) (c := 1) (by decide +kernel) e_X8_letterAt_117 ?_
  refine V_if_le (pc := 118) e_X8_letterAt_118 (by decide) (by decide) (fun h => absurd h (by decide)) (fun _ => ?_)
  refine V_iincK (pc := 121) (z := 3) e_X8_letterAt_121 rfl rfl (by decide) ?_
  refine V_lload (pc := 124) e_X8_letterAt_124 rfl ?_
  refine V_bipush (pc := 126) (by decide) e_X8_letterAt_126 ?_
  refine V_lshrK (pc := 128) (z := 102) (by decide +kernel) e_X8_letterAt_128 ?_
  refine V_lstore (pc := 129) e_X8_letterAt_129 (by decide) ?_
  refine V_goto (pc := 131) e_X8_letterAt_131 (by decide) ?_
  refine V_ls [(0, zI 8), (1, zI k), (2, .long 1718185069), (4, zI 3), (5, .long 102)] ⟨rfl, rfl, rfl, rfl, rfl, trivial⟩ ?_
  refine V_lload (pc := 114) e_X8_letterAt_114 rfl ?_
  refine V_lconst (pc := 116) e_X8_letterAt_116 ?_
  refine V_lcmpK (pc := 117) (c := 1) (by decide +kernel) e_X8_letterAt_117 ?_
  refine V_if_le (pc := 118) e_X8_letterAt_118 (by decide) (by decide) (fun h => absurd h (by decide)) (fun _ => ?_)
  refine V_iincK (pc := 121) (z := 4) e_X8_letterAt_121 rfl rfl (by decide) ?_
  refine V_lload (pc := 124) e_X8_letterAt_124 rfl ?_
  refine V_bipush (pc := 126) (by decide) e_X8_letterAt_126 ?_
  refine V_lshrK (pc := 128) (z := 0) (by decide +kernel) e_X8_letterAt_128 ?_
  refine V_lstore (pc := 129) e_X8_letterAt_129 (by decide) ?_
  refine V_goto (pc := 131) e_X8_letterAt_131 (by decide) ?_
  refine V_ls [(0, zI 8), (1, zI k), (2, .long 1718185069), (4, zI 4), (5, .long 0)] ⟨rfl, rfl, rfl, rfl, rfl, trivial⟩ ?_
  refine V_lload (pc := 114) e_X8_letterAt_114 rfl ?_
  refine V_lconst (pc := 116) e_X8_letterAt_116 ?_
  refine V_lcmpK (pc := 117) (c := 0) (by decide +kernel) e_X8_letterAt_117 ?_
  refine V_if_le (pc := 118) e_X8_letterAt_118 (by decide) (by decide) (fun _ => ?_) (fun h => absurd (by decide) h)
  refine V_iload_n (pc := 134) e_X8_letterAt_134 rfl ?_
  refine V_iload (pc := 135) e_X8_letterAt_135 rfl ?_
  refine V_icmp_lt (pc := 137) e_X8_letterAt_137 (by decide) (by omega) (by decide) (fun h137 => ?_) (fun h137 => ?_)
  · refine V_lload_n (pc := 144) e_X8_letterAt_144 rfl ?_
    refine V_bipush (pc := 145) (by decide) e_X8_letterAt_145 ?_
    refine V_iload (pc := 147) e_X8_letterAt_147 rfl ?_
    refine V_iconst (pc := 149) e_X8_letterAt_149 ?_
    refine V_isub (pc := 150) e_X8_letterAt_150 ?_
    refine V_iload_n (pc := 151) e_X8_letterAt_151 rfl ?_
    refine V_isub (pc := 152) e_X8_letterAt_152 ?_
    refine V_imul (pc := 153) e_X8_letterAt_153 ?_
    refine V_lshr (pc := 154) e_X8_letterAt_154 ?_
    refine V_ldc2 (pc := 155) (v := 255) (by decide) e_X8_letterAt_155 ?_
    refine V_land (pc := 158) e_X8_letterAt_158 ?_
    refine V_l2i (pc := 159) e_X8_letterAt_159 ?_
    refine V_ret (pc := 160) (v := some (zI _)) ⟨e_X8_letterAt_160, _, rfl, rfl⟩ ?_
    exact Qv q (by rcases (show k = 0 ∨ k = 1 ∨ k = 2 ∨ k = 3 by omega) with rfl | rfl | rfl | rfl <;> decide +kernel) rfl
  · refine V_iconst (pc := 140) e_X8_letterAt_140 ?_
    refine V_goto (pc := 141) e_X8_letterAt_141 (by decide) ?_
    refine V_ret (pc := 160) (v := some (zI _)) ⟨e_X8_letterAt_160, _, rfl, rfl⟩ ?_
    exact Qv q (by rw [(lt_in 8 k (by decide) (by decide) (by omega) (by omega)).2.1 (by rw [show wle 8 = 4 by decide +kernel]; omega)]) rfl
theorem c_X8_letterAt {σ : Sto} {Q : Option Value → Sto → Prop} {w k : Int} (hw : 0 ≤ w ∧ w < 9) (hk : 0 ≤ k ∧ k < 9) (q : Q (some (zI (lt w k))) σ) : Con M_X8_letterAt 150 150 σ [zI w, zI k] Q := by
  rcases (show w = 0 ∨ w = 1 ∨ w = 2 ∨ w = 3 ∨ w = 4 ∨ w = 5 ∨ w = 6 ∨ w = 7 ∨ w = 8 by omega) with rfl | rfl | rfl | rfl | rfl | rfl | rfl | rfl | rfl
  · exact c_letter0 hk q
  · exact c_letter1 hk q
  · exact c_letter2 hk q
  · exact c_letter3 hk q
  · exact c_letter4 hk q
  · exact c_letter5 hk q
  · exact c_letter6 hk q
  · exact c_letter7 hk q
  · exact c_letter8 hk q
theorem c_X8_isAt {σ : Sto} {now text read : Int → Int} {P : PT} {len spot fat fwy many : Int} {Q : Option Value → Sto → Prop} {c : Int} (hl : 0 ≤ len ∧ len ≤ 100) (hs : 0 ≤ spot ∧ spot ≤ len) (ht : ∀ k : Int, 0 ≤ k → k < len → 32 ≤ text k ∧ text k ≤ 126) (r_c : -2147483648 ≤ c ∧ c < 2147483648) (k1 : spot < len ∧ text spot = c → Q (some (zI 1)) (mst σ now P (text, read, len, spot, fat, fwy, many))) (k0 : ¬ (spot < len ∧ text spot = c) → Q (some (zI 0)) (mst σ now P (text, read, len, spot, fat, fwy, many))) : Con M_X8_isAt 150 150 (mst σ now P (text, read, len, spot, fat, fwy, many)) [.ref 144, zI c] Q := by
  refine V_entry ok_X8_isAt (Nat.le_refl _) (Nat.le_of_ble_eq_true rfl) (V_ls [(0, .ref 144), (1, zI c)] ⟨rfl, rfl, trivial⟩ ?_)
  refine V_aload_n (pc := 0) e_X8_isAt_0 rfl (Or.inl ⟨_, rfl⟩) ?_
  refine Vm_spot (pc := 1) fx_8_169 e_X8_isAt_1 ?_
  refine V_aload_n (pc := 4) e_X8_isAt_4 rfl (Or.inl ⟨_, rfl⟩) ?_
  refine Vm_length (pc := 5) fx_8_166 e_X8_isAt_5 ?_
  refine V_icmp_ge (pc := 8) e_X8_isAt_8 (by decide) (by omega) (by omega) (fun h8 => ?_) (fun h8 => ?_)
  · refine V_iconst (pc := 28) e_X8_isAt_28 ?_
    refine V_ret (pc := 29) (v := some (zI _)) ⟨e_X8_isAt_29, _, rfl, by decide⟩ ?_
    first | exact k1 (by omega) | exact k0 (by omega)
  · have hc := ht spot (by omega) (by omega)
    refine V_aload_n (pc := 11) e_X8_isAt_11 rfl (Or.inl ⟨_, rfl⟩) ?_
    refine V_getR (pc := 12) (q := 5) (j := 148) fx_8_23 e_X8_isAt_12 rfl rfl (by decide) rfl rfl ?_
    refine V_aload_n (pc := 15) e_X8_isAt_15 rfl (Or.inl ⟨_, rfl⟩) ?_
    refine Vm_spot (pc := 16) fx_8_169 e_X8_isAt_16 ?_
    refine Vm_text (pc := 19) e_X8_isAt_19 (by omega) ?_
    refine V_iload_n (pc := 20) e_X8_isAt_20 rfl ?_
    refine V_icmp_ne (pc := 21) e_X8_isAt_21 (by decide) (by omega) (by omega) (fun h21 => ?_) (fun h21 => ?_)
    · refine V_iconst (pc := 28) e_X8_isAt_28 ?_
      refine V_ret (pc := 29) (v := some (zI _)) ⟨e_X8_isAt_29, _, rfl, by decide⟩ ?_
      first | exact k1 (by omega) | exact k0 (by omega)
    · refine V_iconst (pc := 24) e_X8_isAt_24 ?_
      refine V_goto (pc := 25) e_X8_isAt_25 (by decide) ?_
      refine V_ret (pc := 29) (v := some (zI _)) ⟨e_X8_isAt_29, _, rfl, by decide⟩ ?_
      first | exact k1 (by omega) | exact k0 (by omega)
theorem c_X8_takes {σ : Sto} {now text read : Int → Int} {P : PT} {len spot fat fwy many : Int} {Q : Option Value → Sto → Prop} {c : Int} (hl : 0 ≤ len ∧ len ≤ 100) (hs : 0 ≤ spot ∧ spot ≤ len) (ht : ∀ k : Int, 0 ≤ k → k < len → 32 ≤ text k ∧ text k ≤ 126) (r_c : -2147483648 ≤ c ∧ c < 2147483648) (k1 : spot < len ∧ text spot = c → Q (some (zI 1)) (mst σ now P (text, read, len, (spot + 1), fat, fwy, many))) (k0 : ¬ (spot < len ∧ text spot = c) → Q (some (zI 0)) (mst σ now P (text, read, len, spot, fat, fwy, many))) : Con M_X8_takes 150 150 (mst σ now P (text, read, len, spot, fat, fwy, many)) [.ref 144, zI c] Q := by
  refine V_entry ok_X8_takes (Nat.le_refl _) (Nat.le_of_ble_eq_true rfl) (V_ls [(0, .ref 144), (1, zI c)] ⟨rfl, rfl, trivial⟩ ?_)
  refine V_aload_n (pc := 0) e_X8_takes_0 rfl (Or.inl ⟨_, rfl⟩) ?_
  refine V_iload_n (pc := 1) e_X8_takes_1 rfl ?_
  refine V_cV1 (pc := 2) ca_8_172 e_X8_takes_2 (by decide) (Nat.le_of_ble_eq_true rfl) (by decide) rfl (by decide) (c_X8_isAt hl hs ht (by omega) (fun h_at => ?_) (fun h_at => ?_))
  · refine V_istore_n (pc := 5) e_X8_takes_5 (by decide) ?_
    refine V_aload_n (pc := 6) e_X8_takes_6 rfl (Or.inl ⟨_, rfl⟩) ?_
    refine V_dup (pc := 7) e_X8_takes_7 rfl ?_
    refine Vm_spot (pc := 8) fx_8_169 e_X8_takes_8 ?_
    refine V_iload_n (pc := 11) e_X8_takes_11 rfl ?_
    refine V_if_eq (pc := 12) e_X8_takes_12 (by decide) (by decide) (fun h => absurd h (by decide)) (fun _ => ?_)
    refine V_iconst (pc := 15) e_X8_takes_15 ?_
    refine V_goto (pc := 16) e_X8_takes_16 (by decide) ?_
    refine V_iadd (pc := 20) e_X8_takes_20 ?_
    refine Vm_pspot (pc := 21) fx_8_169 e_X8_takes_21 ?_
    refine V_iload_n (pc := 24) e_X8_takes_24 rfl ?_
    refine V_ret (pc := 25) (v := some (zI _)) ⟨e_X8_takes_25, _, rfl, by decide⟩ ?_
    first | exact k1 h_at | exact Qv (k0 h_at) rfl (by rw [Int.add_zero])
  · refine V_istore_n (pc := 5) e_X8_takes_5 (by decide) ?_
    refine V_aload_n (pc := 6) e_X8_takes_6 rfl (Or.inl ⟨_, rfl⟩) ?_
    refine V_dup (pc := 7) e_X8_takes_7 rfl ?_
    refine Vm_spot (pc := 8) fx_8_169 e_X8_takes_8 ?_
    refine V_iload_n (pc := 11) e_X8_takes_11 rfl ?_
    refine V_if_eq (pc := 12) e_X8_takes_12 (by decide) (by decide) (fun _ => ?_) (fun h => absurd (by decide) h)
    refine V_iconst (pc := 19) e_X8_takes_19 ?_
    refine V_iadd (pc := 20) e_X8_takes_20 ?_
    refine Vm_pspot (pc := 21) fx_8_169 e_X8_takes_21 ?_
    refine V_iload_n (pc := 24) e_X8_takes_24 rfl ?_
    refine V_ret (pc := 25) (v := some (zI _)) ⟨e_X8_takes_25, _, rfl, by decide⟩ ?_
    first | exact k1 h_at | exact Qv (k0 h_at) rfl (by rw [Int.add_zero])
theorem L_X8_takesWord {σ : Sto} {now text read : Int → Int} {P : PT} {len spot fat fwy many : Int} {Q : Option Value → Sto → Prop} {w : Int} (hl : 0 ≤ len ∧ len ≤ 100) (hs : 0 ≤ spot ∧ spot ≤ len) (ht : ∀ k : Int, 0 ≤ k → k < len → 32 ≤ text k ∧ text k ≤ 126) (hw : 0 ≤ w ∧ w < 9) (k : ∀ m : Int, 0 ≤ m → m ≤ wle w → ((m = wle w ∧ wm text len spot w) ∨ (m < wle w ∧ ¬ wm text len spot w)) → V M_X8_takesWord 150 48 [(0, .ref 144), (1, zI w), (2, zI m)] [] 150 (mst σ now P (text, read, len, spot, fat, fwy, many)) Q) : ∀ n : Nat, n ≤ 7 → ((n : Int) ≤ wle w ∧ ∀ i : Int, 0 ≤ i → i < (n : Int) → spot + i < len ∧ text (spot + i) = lt w i) → V M_X8_takesWord 150 2 [(0, .ref 144), (1, zI w), (2, zI (n : Int))] [] 150 (mst σ now P (text, read, len, spot, fat, fwy, many)) Q := by
  refine loop_nat (7) (fun n hn ih => ?_)
  intro hv
  have lr := lt_in w (n : Int) (by omega) (by omega) (by omega) (by omega)
  have hw7 := lr.2.2
  have hn8 := hv.1
  have lb : -1 ≤ lt w (n : Int) ∧ lt w (n : Int) < 127 := by
    by_cases y : (n : Int) < wle w
    · have := lr.1 y; omega
    · have := lr.2.1 (by omega); omega
  refine V_iload_n (pc := 2) e_X8_takesWord_2 rfl ?_
  refine V_iload_n (pc := 3) e_X8_takesWord_3 rfl ?_
  refine V_cS2 (pc := 4) ca_8_198 e_X8_takesWord_4 (by decide) (Nat.le_of_ble_eq_true rfl) (c_X8_letterAt (by omega) (by omega) ?_)
  refine V_if_le (pc := 7) e_X8_takesWord_7 (by decide) (by omega) (fun h7 => ?_) (fun h7 => ?_)
  · exact V_lq [(0, .ref 144), (1, zI w), (2, zI (n : Int))] ⟨⟨_, rfl, rfl⟩, ⟨_, rfl, rfl⟩, ⟨_, rfl, rfl⟩, trivial⟩ (k (n : Int) (by omega) (by omega) (by
      first
        | exact Or.inr ⟨hnw, fun z => absurd (z (n : Int) (by omega) hnw).1 (by omega)⟩
        | exact Or.inr ⟨hnw, fun z => absurd (z (n : Int) (by omega) hnw).2 (by omega)⟩
        | (have e : (n : Int) = wle w := by
             apply Classical.byContradiction
             intro y
             have := lr.1 (by omega)
             omega
           exact Or.inl ⟨e, fun i a c => hv.2 i a (by omega)⟩)))
  · have hnw : (n : Int) < wle w := by
      apply Classical.byContradiction
      intro y
      have := lr.2.1 (by omega)
      omega
    refine V_aload_n (pc := 10) e_X8_takesWord_10 rfl (Or.inl ⟨_, rfl⟩) ?_
    refine Vm_spot (pc := 11) fx_8_169 e_X8_takesWord_11 ?_
    refine V_iload_n (pc := 14) e_X8_takesWord_14 rfl ?_
    refine V_iadd (pc := 15) e_X8_takesWord_15 ?_
    refine V_aload_n (pc := 16) e_X8_takesWord_16 rfl (Or.inl ⟨_, rfl⟩) ?_
    refine Vm_length (pc := 17) fx_8_166 e_X8_takesWord_17 ?_
    refine V_icmp_ge (pc := 20) e_X8_takesWord_20 (by decide) (by omega) (by omega) (fun h20 => ?_) (fun h20 => ?_)
    · exact V_lq [(0, .ref 144), (1, zI w), (2, zI (n : Int))] ⟨⟨_, rfl, rfl⟩, ⟨_, rfl, rfl⟩, ⟨_, rfl, rfl⟩, trivial⟩ (k (n : Int) (by omega) (by omega) (by
        first
          | exact Or.inr ⟨hnw, fun z => absurd (z (n : Int) (by omega) hnw).1 (by omega)⟩
          | exact Or.inr ⟨hnw, fun z => absurd (z (n : Int) (by omega) hnw).2 (by omega)⟩
          | (have e : (n : Int) = wle w := by
               apply Classical.byContradiction
               intro y
               have := lr.1 (by omega)
               omega
             exact Or.inl ⟨e, fun i a c => hv.2 i a (by omega)⟩)))
    · have hc := ht (spot + (n : Int)) (by omega) (by omega)
      refine V_aload_n (pc := 23) e_X8_takesWord_23 rfl (Or.inl ⟨_, rfl⟩) ?_
      refine V_getR (pc := 24) (q := 5) (j := 148) fx_8_23 e_X8_takesWord_24 rfl rfl (by decide) rfl rfl ?_
      refine V_aload_n (pc := 27) e_X8_takesWord_27 rfl (Or.inl ⟨_, rfl⟩) ?_
      refine Vm_spot (pc := 28) fx_8_169 e_X8_takesWord_28 ?_
      refine V_iload_n (pc := 31) e_X8_takesWord_31 rfl ?_
      refine V_iadd (pc := 32) e_X8_takesWord_32 ?_
      refine Vm_text (pc := 33) e_X8_takesWord_33 (by omega) ?_
      refine V_iload_n (pc := 34) e_X8_takesWord_34 rfl ?_
      refine V_iload_n (pc := 35) e_X8_takesWord_35 rfl ?_
      refine V_cS2 (pc := 36) ca_8_198 e_X8_takesWord_36 (by decide) (Nat.le_of_ble_eq_true rfl) (c_X8_letterAt (by omega) (by omega) ?_)
      refine V_icmp_ne (pc := 39) e_X8_takesWord_39 (by decide) (by omega) (by omega) (fun h39 => ?_) (fun h39 => ?_)
      · exact V_lq [(0, .ref 144), (1, zI w), (2, zI (n : Int))] ⟨⟨_, rfl, rfl⟩, ⟨_, rfl, rfl⟩, ⟨_, rfl, rfl⟩, trivial⟩ (k (n : Int) (by omega) (by omega) (by
          first
            | exact Or.inr ⟨hnw, fun z => absurd (z (n : Int) (by omega) hnw).1 (by omega)⟩
            | exact Or.inr ⟨hnw, fun z => absurd (z (n : Int) (by omega) hnw).2 (by omega)⟩
            | (have e : (n : Int) = wle w := by
                 apply Classical.byContradiction
                 intro y
                 have := lr.1 (by omega)
                 omega
               exact Or.inl ⟨e, fun i a c => hv.2 i a (by omega)⟩)))
      · refine V_iinc (pc := 42) e_X8_takesWord_42 rfl (by decide) ?_
        refine V_goto (pc := 45) e_X8_takesWord_45 (by decide) ?_
        exact V_lq [(0, .ref 144), (1, zI w), (2, zI ((n + 1 : Nat) : Int))] ⟨⟨_, rfl, rfl⟩, ⟨_, rfl, rfl⟩, ⟨_, rfl, rfl⟩, trivial⟩ (ih (by omega) ⟨by omega, fun i a c => by
          by_cases y : i = (n : Int)
          · rw [y]; exact ⟨(show spot + (n : Int) < len by omega), h39⟩
          · exact hv.2 i a (by omega)⟩)
theorem T_X8_takesWord {σ : Sto} {now text read : Int → Int} {P : PT} {len spot fat fwy many : Int} {Q : Option Value → Sto → Prop} {w : Int} (hl : 0 ≤ len ∧ len ≤ 100) (hs : 0 ≤ spot ∧ spot ≤ len) (ht : ∀ k : Int, 0 ≤ k → k < len → 32 ≤ text k ∧ text k ≤ 126) (hw : 0 ≤ w ∧ w < 9) (k1 : wm text len spot w → Q (some (zI 1)) (mst σ now P (text, read, len, (spot + wle w), fat, fwy, many))) (k0 : ¬ wm text len spot w → Q (some (zI 0)) (mst σ now P (text, read, len, spot, fat, fwy, many))) : ∀ m : Int, 0 ≤ m → m ≤ wle w → ((m = wle w ∧ wm text len spot w) ∨ (m < wle w ∧ ¬ wm text len spot w)) → V M_X8_takesWord 150 48 [(0, .ref 144), (1, zI w), (2, zI m)] [] 150 (mst σ now P (text, read, len, spot, fat, fwy, many)) Q := by
  intro m hm0 hm1 hm2
  have lr := lt_in w m (by omega) (by omega) (by omega) (by have := (lt_in w 0 (by omega) (by omega) (by omega) (by omega)).2.2; omega)
  have hw7 := lr.2.2
  have lb : -1 ≤ lt w m ∧ lt w m < 127 := by
    by_cases y : m < wle w
    · have := lr.1 y; omega
    · have := lr.2.1 (by omega); omega
  have lz : m = wle w → lt w m = 0 := fun y => lr.2.1 (by omega)
  have lp : m < wle w → 32 < lt w m := fun y => (lr.1 y).1
  refine V_iload_n (pc := 48) e_X8_takesWord_48 rfl ?_
  refine V_iload_n (pc := 49) e_X8_takesWord_49 rfl ?_
  refine V_cS2 (pc := 50) ca_8_198 e_X8_takesWord_50 (by decide) (Nat.le_of_ble_eq_true rfl) (c_X8_letterAt (by omega) (by omega) ?_)
  refine V_if_ne (pc := 53) e_X8_takesWord_53 (by decide) (by omega) (fun h53 => ?_) (fun h53 => ?_)
  · refine V_iconst (pc := 60) e_X8_takesWord_60 ?_
    refine V_istore_n (pc := 61) e_X8_takesWord_61 (by decide) ?_
    refine V_aload_n (pc := 62) e_X8_takesWord_62 rfl (Or.inl ⟨_, rfl⟩) ?_
    refine V_dup (pc := 63) e_X8_takesWord_63 rfl ?_
    refine Vm_spot (pc := 64) fx_8_169 e_X8_takesWord_64 ?_
    refine V_iload_n (pc := 67) e_X8_takesWord_67 rfl ?_
    refine V_if_eq (pc := 68) e_X8_takesWord_68 (by decide) (by decide) (fun _ => ?_) (fun h => absurd (by decide) h)
    refine V_iconst (pc := 75) e_X8_takesWord_75 ?_
    refine V_iadd (pc := 76) e_X8_takesWord_76 ?_
    refine Vm_pspot (pc := 77) fx_8_169 e_X8_takesWord_77 ?_
    refine V_iload_n (pc := 80) e_X8_takesWord_80 rfl ?_
    refine V_ret (pc := 81) (v := some (zI _)) ⟨e_X8_takesWord_81, _, rfl, by decide⟩ ?_
    first
      | (rcases hm2 with ⟨e, y⟩ | ⟨e, y⟩
         · subst e; exact k1 y
         · exact absurd h53 (by omega))
      | (rcases hm2 with ⟨e, y⟩ | ⟨e, y⟩
         · exact absurd h53 (by omega)
         · exact Qv (k0 y) rfl (by rw [Int.add_zero]))
  · refine V_iconst (pc := 56) e_X8_takesWord_56 ?_
    refine V_goto (pc := 57) e_X8_takesWord_57 (by decide) ?_
    refine V_istore_n (pc := 61) e_X8_takesWord_61 (by decide) ?_
    refine V_aload_n (pc := 62) e_X8_takesWord_62 rfl (Or.inl ⟨_, rfl⟩) ?_
    refine V_dup (pc := 63) e_X8_takesWord_63 rfl ?_
    refine Vm_spot (pc := 64) fx_8_169 e_X8_takesWord_64 ?_
    refine V_iload_n (pc := 67) e_X8_takesWord_67 rfl ?_
    refine V_if_eq (pc := 68) e_X8_takesWord_68 (by decide) (by decide) (fun h => absurd h (by decide)) (fun _ => ?_)
    refine V_iload_n (pc := 71) e_X8_takesWord_71 rfl ?_
    refine V_goto (pc := 72) e_X8_takesWord_72 (by decide) ?_
    refine V_iadd (pc := 76) e_X8_takesWord_76 ?_
    refine Vm_pspot (pc := 77) fx_8_169 e_X8_takesWord_77 ?_
    refine V_iload_n (pc := 80) e_X8_takesWord_80 rfl ?_
    refine V_ret (pc := 81) (v := some (zI _)) ⟨e_X8_takesWord_81, _, rfl, by decide⟩ ?_
    first
      | (rcases hm2 with ⟨e, y⟩ | ⟨e, y⟩
         · subst e; exact k1 y
         · exact absurd h53 (by omega))
      | (rcases hm2 with ⟨e, y⟩ | ⟨e, y⟩
         · exact absurd h53 (by omega)
         · exact Qv (k0 y) rfl (by rw [Int.add_zero]))
theorem c_X8_takesWord {σ : Sto} {now text read : Int → Int} {P : PT} {len spot fat fwy many : Int} {Q : Option Value → Sto → Prop} {w : Int} (hl : 0 ≤ len ∧ len ≤ 100) (hs : 0 ≤ spot ∧ spot ≤ len) (ht : ∀ k : Int, 0 ≤ k → k < len → 32 ≤ text k ∧ text k ≤ 126) (hw : 0 ≤ w ∧ w < 9) (k1 : wm text len spot w → Q (some (zI 1)) (mst σ now P (text, read, len, (spot + wle w), fat, fwy, many))) (k0 : ¬ wm text len spot w → Q (some (zI 0)) (mst σ now P (text, read, len, spot, fat, fwy, many))) : Con M_X8_takesWord 150 150 (mst σ now P (text, read, len, spot, fat, fwy, many)) [.ref 144, zI w] Q := by
  refine V_entry ok_X8_takesWord (Nat.le_refl _) (Nat.le_of_ble_eq_true rfl) (V_ls [(0, .ref 144), (1, zI w)] ⟨rfl, rfl, trivial⟩ ?_)
  refine V_iconst (pc := 0) e_X8_takesWord_0 ?_
  refine V_istore_n (pc := 1) e_X8_takesWord_1 (by decide) ?_
  exact V_lq [(0, .ref 144), (1, zI w), (2, zI ((0 : Nat) : Int))] ⟨⟨_, rfl, rfl⟩, ⟨_, rfl, rfl⟩, ⟨_, rfl, rfl⟩, trivial⟩ (L_X8_takesWord hl hs ht hw (T_X8_takesWord hl hs ht hw k1 k0) 0 (by omega) ⟨by have := (lt_in w 0 (by omega) (by omega) (by omega) (by omega)).2.2; omega, fun i a c => absurd c (by omega)⟩)
