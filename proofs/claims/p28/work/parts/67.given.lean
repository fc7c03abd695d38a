/-! the start of the law: what the Statement gives of the machine -/
def prW (w : Cond) : Option (Nat × Nat) := match w with
  | .not (.eq (.string o a) (.string o' a')) => if o = RX2 ∧ o' = RX2 then some (a, a') else none
  | _ => none
theorem prW_ok {w : Cond} {a a' : Nat} (h : prW w = some (a, a')) : w = .not (.eq (.string RX2 a) (.string RX2 a')) := by
  unfold prW at h
  split at h
  · split at h
    · next q =>
      obtain ⟨rfl, rfl⟩ := q
      cases h
      rfl
    · cases h
  · cases h
def prL : List (Nat × Nat) := [(69, 75), (69, 97), (75, 97), (69, 99), (75, 99), (97, 99), (69, 101), (75, 101), (97, 101), (99, 101), (69, 103), (75, 103), (97, 103), (99, 103), (101, 103), (69, 112), (75, 112), (97, 112), (99, 112), (101, 112), (103, 112), (69, 114), (75, 114), (97, 114), (99, 114), (101, 114), (103, 114), (112, 114), (69, 116), (75, 116), (97, 116), (99, 116), (101, 116), (103, 116), (112, 116), (114, 116), (69, 118), (75, 118), (97, 118), (99, 118), (101, 118), (103, 118), (112, 118), (114, 118), (116, 118), (69, 120), (75, 120), (97, 120), (99, 120), (101, 120), (103, 120), (112, 120), (114, 120), (116, 120), (118, 120), (69, 122), (75, 122), (97, 122), (99, 122), (101, 122), (103, 122), (112, 122), (114, 122), (116, 122), (118, 122), (120, 122), (69, 124), (75, 124), (97, 124), (99, 124), (101, 124), (103, 124), (112, 124), (114, 124), (116, 124), (118, 124), (120, 124), (122, 124), (69, 126), (75, 126), (97, 126), (99, 126), (101, 126), (103, 126), (112, 126), (114, 126), (116, 126), (118, 126), (120, 126), (122, 126), (124, 126)]
theorem prL_ok : (flatC (Jvm.Cond.and given_1 narrow_1)).filterMap prW = prL := by decide +kernel
theorem prL_in {a a' : Nat} (h : (a, a') ∈ prL) : Cond.not (.eq (.string RX2 a) (.string RX2 a')) ∈ flatC (Jvm.Cond.and given_1 narrow_1) := by
  rw [← prL_ok] at h
  obtain ⟨w, h1, h2⟩ := List.mem_filterMap.mp h
  rw [← prW_ok h2]
  exact h1
def prA (a a' : Nat) : Bool := prL.any (fun q => q.1 == a && q.2 == a')
theorem prA_in {a a' : Nat} (h : prA a a' = true) : (a, a') ∈ prL := by
  obtain ⟨q, h1, h2⟩ := List.any_eq_true.mp h
  rw [Bool.and_eq_true, beq_iff_eq, beq_iff_eq] at h2
  obtain ⟨x, y⟩ := q
  obtain ⟨rfl, rfl⟩ := h2
  exact h1
theorem prL_all0 : ∀ i, i < 14 → ∀ j, j < 14 → i = j ∨ prA (liI i) (liI j) = true ∨ prA (liI j) (liI i) = true := by decide +kernel
theorem prL_all (i : Nat) (hi : i < 14) (j : Nat) (hj : j < 14) (hij : i ≠ j) : (liI i, liI j) ∈ prL ∨ (liI j, liI i) ∈ prL := ((prL_all0 i hi j hj).resolve_left hij).imp prA_in prA_in
theorem RO_start {s : State} {b L : Nat} {xs : Nat → Int32} (hts : ∀ w ∈ lw_tbl, w.before #[Value.ref b] s = true) (hX : va_X b L xs s s.heap) (hbl : b < s.heap.size) (hgv : (Jvm.Cond.and given_1 narrow_1).before #[Value.ref b] s = true) : ∃ ρa : Nat → Nat, ρa 3 = b ∧ ∀ (D : va_G) (cC : Nat → ClassId), RO (D, cC, s.heap.size, (ρa, L, xs)) s s.heap := by
  have fl := flat_of_before _ hgv
  have tb : ∀ (i : Nat) (w : Cond), lw_tbl[i]? = some w → w.before #[Value.ref b] s = true := fun i w h => hts w (List.mem_of_getElem? h)
  have hA : ∀ a : Nat, a < s.heap.size → ¬ (fun q : Nat => s.heap.size ≤ q) a := fun a h => Nat.not_le.mpr h
  have a1 : ∀ j, j < 3 → Cond.arrayOf (.static RX7 (stN j) "[I") .int ∈ flatC (Jvm.Cond.and given_1 narrow_1) := by decide +kernel
  have a2 : ∀ j, j < 3 → Cond.eq (.length (.static RX7 (stN j) "[I")) (.int (Int32.ofNat 6)) ∈ flatC (Jvm.Cond.and given_1 narrow_1) := by decide +kernel
  have a3 : ∀ j, j < 3 → ∀ k, k < 6 → Cond.eq (.elem (.static RX7 (stN j) "[I") (.int (Int32.ofNat k))) (.int (stV j k)) ∈ flatC (Jvm.Cond.and given_1 narrow_1) := by decide +kernel
  have st : ∀ j : Nat, ∃ t : Nat, j < 3 → (Term.static RX7 (stN j) "[I").eval #[Value.ref b] s none [] s = some (.ref t) ∧ va_T .int t 6 (fun k => .int (stV j k)) (fun q : Nat => s.heap.size ≤ q) s s.heap := by
    intro j
    by_cases hj : j < 3
    · obtain ⟨t, h1, h2⟩ := va_Tof (f := fun k => .int (stV j k)) (A := fun q : Nat => s.heap.size ≤ q) (N := 6) (by decide) (fl _ (a1 j hj)) (va_eqt (fl _ (a2 j hj))) (fun k hk => va_eqt (fl _ (a3 j hj k hk))) hA
      exact ⟨t, fun _ => ⟨h1, h2⟩⟩
    · exact ⟨0, fun h => absurd h hj⟩
  obtain ⟨sa, hsa⟩ := Classical.axiomOfChoice st
  have b1 : ∀ i, i < 14 → Cond.exactly (.string RX2 (liI i)) "java/lang/String" ∈ flatC (Jvm.Cond.and given_1 narrow_1) := by decide +kernel
  have b2 : ∀ i, i < 14 → Cond.eq (.field (.string RX2 (liI i)) "java/lang/String" "coder" "B") (.int 0) ∈ flatC (Jvm.Cond.and given_1 narrow_1) := by decide +kernel
  have b3 : ∀ i, i < 14 → Cond.arrayOf (.field (.string RX2 (liI i)) "java/lang/String" "value" "[B") .byte ∈ flatC (Jvm.Cond.and given_1 narrow_1) := by decide +kernel
  have b4 : ∀ i, i < 14 → Cond.eq (.length (.field (.string RX2 (liI i)) "java/lang/String" "value" "[B")) (.int (Int32.ofNat (liL.getD i 0))) ∈ flatC (Jvm.Cond.and given_1 narrow_1) := by decide +kernel
  have b5 : ∀ i, i < 14 → ∀ j, j < liL.getD i 0 → Cond.eq (.elem (.field (.string RX2 (liI i)) "java/lang/String" "value" "[B") (.int (Int32.ofNat j))) (.int ((liB.getD i []).getD j 0)) ∈ flatC (Jvm.Cond.and given_1 narrow_1) := by decide +kernel
  have b6 : ∀ i, i < 14 → ∀ j, j < 14 → i ≠ j → Cond.not (.eq (.string RX2 (liI i)) (.string RX2 (liI j))) ∈ flatC (Jvm.Cond.and given_1 narrow_1) ∨ Cond.not (.eq (.string RX2 (liI j)) (.string RX2 (liI i))) ∈ flatC (Jvm.Cond.and given_1 narrow_1) := fun i hi j hj hij => (prL_all i hi j hj hij).imp prL_in prL_in
  have b7 : ∀ i, i < 14 → liL.getD i 0 < 2 ^ 31 := by decide +kernel
  obtain ⟨ak, av, hS, hK⟩ := vk_Sof (args := #[Value.ref b]) (s := s) (N := 14) (tm := fun i => .string RX2 (liI i)) (len := liL) (byt := liB) (A := fun q : Nat => s.heap.size ≤ q) b7 (fun i hi => fl _ (b1 i hi)) (fun i hi => fl _ (b2 i hi)) (fun i hi => fl _ (b3 i hi)) (fun i hi => fl _ (b4 i hi)) (fun i hi j hj => fl _ (b5 i hi j hj)) (fun i j hi hj hij => (b6 i hi j hj hij).imp (fun h => fl _ h) (fun h => fl _ h)) hA
  have c1 : Cond.eq (.static RJ0 "COMPACT_STRINGS" "Z") (.int 1) ∈ flatC (Jvm.Cond.and given_1 narrow_1) := by decide +kernel
  have c2 : Cond.isRef (.static RJ3 "SIOOBE_FORMATTER" "Ljava/util/function/BiFunction;") ∈ flatC (Jvm.Cond.and given_1 narrow_1) := by decide +kernel
  refine ⟨fun j => if j < 3 then sa j else if j = 3 then b else if j < 18 then ak (j - 4) else av (j - 18), rfl, fun D cC => ?_⟩
  refine ⟨fun j hj => ?_, ⟨?_, ?_⟩, ?_, fun j hj => ?_, ?_, ?_⟩
  · have h := hsa j hj
    have e : (if j < 3 then sa j else if j = 3 then b else if j < 18 then ak (j - 4) else av (j - 18)) = sa j := if_pos hj
    show va_Z RX7 (stN j) "[I" (.ref (if j < 3 then sa j else if j = 3 then b else if j < 18 then ak (j - 4) else av (j - 18))) (fun q : Nat => s.heap.size ≤ q) s s.heap ∧ va_T .int (if j < 3 then sa j else if j = 3 then b else if j < 18 then ak (j - 4) else av (j - 18)) 6 (fun k => .int (stV j k)) (fun q : Nat => s.heap.size ≤ q) s s.heap
    rw [e]
    refine ⟨va_Zref (args := #[Value.ref b]) ?_ (tb 44 _ (by decide +kernel)) h.1 hA, h.2⟩
    rcases (show j = 0 ∨ j = 1 ∨ j = 2 by omega) with y | y | y <;> subst y
    · exact tb 215 _ (by decide +kernel)
    · exact tb 400 _ (by decide +kernel)
    · exact tb 402 _ (by decide +kernel)
  · exact hX
  · exact hbl
  · have e4 : ∀ j : Nat, j < 14 → (if 4 + j < 3 then sa (4 + j) else if 4 + j = 3 then b else if 4 + j < 18 then ak (4 + j - 4) else av (4 + j - 18)) = ak j := fun j hj => by
      rw [if_neg (by omega), if_neg (by omega), if_pos (by omega)]
      congr 1
      omega
    have e18 : ∀ j : Nat, j < 14 → (if 18 + j < 3 then sa (18 + j) else if 18 + j = 3 then b else if 18 + j < 18 then ak (18 + j - 4) else av (18 + j - 18)) = av j := fun j hj => by
      rw [if_neg (by omega), if_neg (by omega), if_neg (by omega)]
      congr 1
      omega
    refine ⟨fun i hi => ?_, fun i j hi hj hij => hS.2 i j hi hj ?_⟩
    · have h := hS.1 i hi
      dsimp only [gr]
      rw [e4 i hi, e18 i hi]
      exact h
    · dsimp only [gr] at hij
      rw [e4 i hi, e4 j hj] at hij
      exact hij
  · have e4 : (if 4 + j < 3 then sa (4 + j) else if 4 + j = 3 then b else if 4 + j < 18 then ak (4 + j - 4) else av (4 + j - 18)) = ak j := by
      rw [if_neg (by omega), if_neg (by omega), if_pos (by omega)]
      congr 1
      omega
    show vk_R RX2 (liI j) (liT j) (if 4 + j < 3 then sa (4 + j) else if 4 + j = 3 then b else if 4 + j < 18 then ak (4 + j - 4) else av (4 + j - 18)) s
    rw [e4]
    have hev : (Term.string RX2 (liI j)).eval #[Value.ref b] s none [] s = some (.ref (ak j)) := hK j hj
    refine vk_R.of (A := #[Value.ref b]) (hts (.stringRef RX2 (liI j) (liT j)) ?_) hev
    have w : ∀ j, j < 14 → lw_tbl[(match j with | 0 => 671 | 1 => 732 | 2 => 737 | 3 => 738 | 4 => 739 | 5 => 740 | 6 => 748 | 7 => 749 | 8 => 750 | 9 => 751 | 10 => 759 | 11 => 760 | 12 => 761 | _ => 762)]? = some (.stringRef RX2 (liI j) (liT j)) := by decide +kernel
    exact List.mem_of_getElem? (w j hj)
  · exact va_Zof (args := #[Value.ref b]) (tb 693 _ (by decide +kernel)) (tb 55 _ (by decide +kernel)) (va_eqt (fl _ c1)) hA
  · exact va_Zqof (args := #[Value.ref b]) (tb 709 _ (by decide +kernel)) (tb 57 _ (by decide +kernel)) (fl _ c2) hA
theorem K_start {s : State} {b : Nat} (hts : ∀ w ∈ lw_tbl, w.before #[Value.ref b] s = true) : ∃ (D : va_G) (cC : Nat → ClassId), va_K D vwCl (tyL cC) s := by
  have hu : ∀ w ∈ UW, w.before #[Value.ref b] s = true := fun w hw => hts w (uwT hw)
  have kn : ∀ k, k < 9 → ∃ (cC : ClassId) (iS : Nat → Nat), u_Kn s (RXs k) (TXs k) (nFs k) cC iS := fun k hk => u_known (n := nFs k) hu (layUW k hk) (hu _ (insUW k hk))
  obtain ⟨c0, i0, -⟩ := kn 0 (by decide)
  have kq : ∀ k : Nat, ∃ q : ClassId × (Nat → Nat), k < 9 → u_Kn s (RXs k) (TXs k) (nFs k) q.1 q.2 := fun k => by
    by_cases hk : k < 9
    · obtain ⟨c, i, h⟩ := kn k hk
      exact ⟨(c, i), fun _ => h⟩
    · exact ⟨(c0, i0), fun h => absurd h hk⟩
  obtain ⟨f, hf⟩ := Classical.axiomOfChoice kq
  obtain ⟨a0, k0, p0, x1, x2, x3⟩ := Cond.arrayClass_spec (hu _ uac_int)
  obtain ⟨a1, k1, p1, y1, y2, y3⟩ := Cond.arrayClass_spec (hu _ uac_char)
  obtain ⟨p3, a3, k3, z1, z2, z3, z4, z5⟩ := Cond.arrayOver_spec (n := RX1) (hts (.arrayOver (.object RX1)) (List.mem_of_getElem? (i := 100) (by decide +kernel)))
  obtain ⟨p6, a6, k6, w1, w2, w3, w4, w5⟩ := Cond.arrayOver_spec (n := RX4) (hts (.arrayOver (.object RX4)) (List.mem_of_getElem? (i := 265) (by decide +kernel)))
  refine ⟨(fun k => (f k).1, fun k => (f k).2), fun i => if i = 0 then a0 else if i = 1 then a1 else if i = 3 then a3 else a6, fun c q hq => ?_, fun k q hq => ?_⟩
  · rcases Nat.lt_or_ge c 9 with hc | hc
    · rw [clAt c hc] at hq
      cases hq
      exact hf c hc
    · rw [List.getElem?_eq_none (show vwCl.length ≤ c from hc)] at hq
      cases hq
  · match k, hq with
    | 0, hq =>
      cases hq
      exact ⟨fun n z => ⟨fun k h => (by cases h), k0, x2, p0, x3⟩, x1⟩
    | 1, hq =>
      cases hq
      exact ⟨fun n z => ⟨fun k h => (by cases h), k1, y2, p1, y3⟩, y1⟩
    | 2, hq =>
      cases hq
      exact ⟨fun n z => ⟨fun k h => (by cases h), k3, z3, p3, z4⟩, k3, p3, z3, z4, z1, z5⟩
    | 3, hq =>
      cases hq
      exact ⟨fun n z => ⟨fun k h => (by cases h), k6, w3, p6, w4⟩, k6, p6, w3, w4, w1, w5⟩
    | k + 4, hq => exact absurd hq (by simp [tyL])
theorem Nw_start {s : State} {b : Nat} (hts : ∀ w ∈ lw_tbl, w.before #[Value.ref b] s = true) : (∀ w ∈ nestL, va_Nw w s) ∧ va_Nw (.fieldLinkNest RX4 43 RX7 "FIRST_SETTING" "[I" RX7) s ∧ va_AO RX1 s ∧ va_AO RX4 s := by
  refine ⟨fun w hw => ?_, va_Nw.of rfl (hts _ (List.mem_of_getElem? (i := 214) (by decide +kernel))), va_AO.of (hts _ (List.mem_of_getElem? (i := 100) (by decide +kernel))), va_AO.of (hts _ (List.mem_of_getElem? (i := 265) (by decide +kernel)))⟩
  simp only [nestL, List.mem_cons, List.not_mem_nil, or_false] at hw
  rcases hw with e | e | e | e | e | e | e | e | e <;> subst e
  · exact va_Nw.of rfl (hts _ (List.mem_of_getElem? (i := 75) (by decide +kernel)))
  · exact va_Nw.of rfl (hts _ (List.mem_of_getElem? (i := 102) (by decide +kernel)))
  · exact va_Nw.of rfl (hts _ (List.mem_of_getElem? (i := 185) (by decide +kernel)))
  · exact va_Nw.of rfl (hts _ (List.mem_of_getElem? (i := 277) (by decide +kernel)))
  · exact va_Nw.of rfl (hts _ (List.mem_of_getElem? (i := 307) (by decide +kernel)))
  · exact va_Nw.of rfl (hts _ (List.mem_of_getElem? (i := 378) (by decide +kernel)))
  · exact va_Nw.of rfl (hts _ (List.mem_of_getElem? (i := 415) (by decide +kernel)))
  · exact va_Nw.of rfl (hts _ (List.mem_of_getElem? (i := 452) (by decide +kernel)))
  · exact va_Nw.of rfl (hts _ (List.mem_of_getElem? (i := 649) (by decide +kernel)))
