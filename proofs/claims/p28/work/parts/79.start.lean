/-! the law from its beginning; what the Statement gives of the machine -/
theorem sF_txt {σ : Sto} : (sF σ).1 142 = fun _ => 0 := by
  unfold sF
  simp (disch := decide) only [setR_i, newR_ne, newR_1, kst_o1]
theorem CL_0 {σ : Sto} {scr : Nat × (Nat → Int32)} (h : σ.2.2 = scr) : CL 0 scr (sF σ) r0 0 (fun _ _ => 0) (-4) := by
  have n := sF_num (σ := σ)
  exact ⟨cI0, π0, fun _ => 0, sF_MS1, ⟨sF_HZ, sF_HS, ⟨cI0, π0, sF_MS24, PI_π0⟩, ⟨n.2.1, sF_txt⟩, Or.inl ⟨n.1, rfl⟩, n.2.2.2.trans h⟩, MR_r0, GI_r0, fun k a b => absurd b (by omega)⟩
theorem L_start {L : Nat} {xs : Nat → Int32} (hL : L ≤ 260) {σ : Sto} (h : σ.2.2 = (L, xs)) : V M_L_law 144 0 [(0, .retAddr 3)] [] 0 σ (fun v _ => v = some (zI 1)) := by
  refine V_new (pc := 0) (N := 0) rfl e_L_law_0 rfl (by decide) ?_
  refine V_dup (pc := 3) e_L_law_3 rfl ?_
  refine V_cI (pc := 4) (N' := 144) ca_8_105 e_L_law_4 (by decide) (Nat.le_of_ble_eq_true rfl) (by decide) (c_X7_init ?_)
  have hC := CL_0 h
  generalize hS : sF σ = S at hC
  show V M_L_law 144 7 [(0, .retAddr 3)] [.ref 0] 144 (sF σ) _
  rw [hS]
  refine V_astore_n (pc := 7) e_L_law_7 (Or.inl ⟨_, rfl⟩) (by decide) ?_
  refine V_aload_n (pc := 8) e_L_law_8 rfl (Or.inl ⟨_, rfl⟩) ?_
  refine V_cV0 (pc := 9) ca_8_89 e_L_law_9 (by decide) (Nat.le_of_ble_eq_true rfl) (by decide) rfl (by decide) (q_undo hC (fun _ S hC => ?_) (fun g => absurd g (by decide)))
  refine V_bipush (pc := 12) (by decide) e_L_law_12 ?_
  refine V_icmp_ne (pc := 14) e_L_law_14 (by decide) (by decide) (by decide) (fun h => absurd (by decide) h) (fun _ => ?_)
  refine V_aload_n (pc := 17) e_L_law_17 rfl (Or.inl ⟨_, rfl⟩) ?_
  refine V_cS1 (pc := 18) ca_8_106 e_L_law_18 (by decide) (Nat.le_of_ble_eq_true rfl) (c_L_refused hC (by decide) (fun S rf hC => ?_))
  refine V_if_eq (pc := 21) e_L_law_21 (by decide) (by decide) (fun h => absurd h (by decide)) (fun _ => ?_)
  refine V_aload_n (pc := 24) e_L_law_24 rfl (Or.inl ⟨_, rfl⟩) ?_
  refine V_cS1 (pc := 25) ca_8_92 e_L_law_25 (by decide) (Nat.le_of_ble_eq_true rfl) (c_L_areSheets hC (by decide) (fun S hC => ?_))
  refine V_if_eq (pc := 28) e_L_law_28 (by decide) (by decide) (fun h => absurd h (by decide)) (fun _ => ?_)
  refine V_aload_n (pc := 31) e_L_law_31 rfl (Or.inl ⟨_, rfl⟩) ?_
  refine V_cS1 (pc := 32) ca_8_96 e_L_law_32 (by decide) (Nat.le_of_ble_eq_true rfl) (c_L_areJobs hC (by decide) (fun S hC => ?_))
  refine V_if_eq (pc := 35) e_L_law_35 (by decide) (by decide) (fun h => absurd h (by decide)) (fun _ => ?_)
  refine V_iconst (pc := 38) e_L_law_38 ?_
  refine V_goto (pc := 39) e_L_law_39 (by decide) ?_
  refine V_istore_n (pc := 43) e_L_law_43 (by decide) ?_
  refine V_iconst (pc := 44) e_L_law_44 ?_
  refine V_istore_n (pc := 45) e_L_law_45 (by decide) ?_
  exact V_lq [(0, .retAddr 3), (1, .ref 0), (2, zI 1), (3, zI ((0 : Nat) : Int))] ⟨⟨_, rfl, rfl⟩, ⟨_, rfl, rfl⟩, ⟨_, rfl, rfl⟩, ⟨_, rfl, rfl⟩, trivial⟩ (l_law_46 hL (fun S => rfl) 0 (by decide) S _ _ _ _ hC)
theorem RO_start {s : State} {b L : Nat} {xs : Nat → Int32} (hts : ∀ w ∈ lw_tbl, w.before #[Value.ref b] s = true) (hX : va_X b L xs s s.heap) (hbl : b < s.heap.size) (hgv : (Jvm.Cond.and given_1 narrow_1).before #[Value.ref b] s = true) : ∃ ρa : Nat → Nat, ρa 3 = b ∧ ∀ (D : va_G) (cC : Nat → ClassId), RO (D, cC, s.heap.size, (ρa, L, xs)) s s.heap := by
  have fl := flat_of_before _ hgv
  have tb : ∀ (i : Nat) (w : Cond), lw_tbl[i]? = some w → w.before #[Value.ref b] s = true := fun i w h => hts w (List.mem_of_getElem? h)
  have hA : ∀ a : Nat, a < s.heap.size → ¬ (fun q : Nat => s.heap.size ≤ q) a := fun a h => Nat.not_le.mpr h
  have a1 : ∀ j, j < 3 → Cond.arrayOf (.static RX7 (stN j) "[I") .int ∈ flatC (Jvm.Cond.and given_1 narrow_1) := by decide +kernel
  have a2 : ∀ j, j < 3 → Cond.eq (.length (.static RX7 (stN j) "[I")) (.int (Int32.ofNat 6)) ∈ flatC (Jvm.Cond.and given_1 narrow_1) := by decide +kernel
  have a3 : ∀ j, j < 3 → ∀ k, k < 6 → Cond.eq (.elem (.static RX7 (stN j) "[I") (.int (Int32.ofNat k))) (.int (stV j k)) ∈ flatC (Jvm.Cond.and given_1 narrow_1) := by decide +kernel
  have st : ∀ j : Nat, ∃ t : Nat, j < 3 → (Term.static RX7 (stN j) "[I").eval #[Value.ref b] s none [] s = some (.ref t) ∧ va_T .int t 6 (fun k => .int (stV j k)) (fun q : Nat => s.heap.size ≤ q) s s.heap := by
    intro j
    by_cases hj : j < 3
    · obtain ⟨t, h1, h2⟩ := va_Tof (f := fun k => .int (stV j k)) (A := fun q : Nat => s.heap.size ≤ q) (N := 6) (by decide) (fl _ (a1 j hj)) (va_eqt (fl _ (a2 j hj))) (fun k hk => va_eqt (fl _ (a3 j hj k hk))) hA
      exact ⟨t, fun _ => ⟨h1, h2⟩⟩
    · exact ⟨0, fun h => absurd h hj⟩
  obtain ⟨sa, hsa⟩ := Classical.axiomOfChoice st
  refine ⟨fun j => if j < 3 then sa j else b, rfl, fun D cC => ?_⟩
  refine ⟨fun j hj => ?_, ⟨hX, hbl⟩, trivial⟩
  have h := hsa j hj
  have e : (if j < 3 then sa j else b) = sa j := if_pos hj
  show va_Z RX7 (stN j) "[I" (.ref (if j < 3 then sa j else b)) (fun q : Nat => s.heap.size ≤ q) s s.heap ∧ va_T .int (if j < 3 then sa j else b) 6 (fun k => .int (stV j k)) (fun q : Nat => s.heap.size ≤ q) s s.heap
  rw [e]
  refine ⟨va_Zref (args := #[Value.ref b]) ?_ (tb 2 _ (by decide +kernel)) h.1 hA, h.2⟩
  rcases (show j = 0 ∨ j = 1 ∨ j = 2 by omega) with y | y | y <;> subst y
  · exact tb 172 _ (by decide +kernel)
  · exact tb 524 _ (by decide +kernel)
  · exact tb 526 _ (by decide +kernel)
theorem K_start {s : State} {b : Nat} (hts : ∀ w ∈ lw_tbl, w.before #[Value.ref b] s = true) : ∃ (D : va_G) (cC : Nat → ClassId), va_K D vwCl (tyL cC) s := by
  have hu : ∀ w ∈ UW, w.before #[Value.ref b] s = true := fun w hw => hts w (uwT hw)
  have kn : ∀ k, k < 8 → ∃ (cC : ClassId) (iS : Nat → Nat), u_Kn s (RXs k) (TXs k) (nFs k) cC iS := fun k hk => u_known (n := nFs k) hu (layUW k hk) (hu _ (insUW k hk))
  obtain ⟨c0, i0, -⟩ := kn 0 (by decide)
  have kq : ∀ k : Nat, ∃ q : ClassId × (Nat → Nat), k < 8 → u_Kn s (RXs k) (TXs k) (nFs k) q.1 q.2 := fun k => by
    by_cases hk : k < 8
    · obtain ⟨c, i, h⟩ := kn k hk
      exact ⟨(c, i), fun _ => h⟩
    · exact ⟨(c0, i0), fun h => absurd h hk⟩
  obtain ⟨f, hf⟩ := Classical.axiomOfChoice kq
  obtain ⟨a0, k0, p0, x1, x2, x3⟩ := Cond.arrayClass_spec (hu _ uac_int)
  obtain ⟨a1, k1, p1, y1, y2, y3⟩ := Cond.arrayClass_spec (hu _ uac_char)
  obtain ⟨p3, a3, k3, z1, z2, z3, z4, z5⟩ := Cond.arrayOver_spec (n := RX1) (hts (.arrayOver (.object RX1)) (List.mem_of_getElem? (i := 57) (by decide +kernel)))
  obtain ⟨p6, a6, k6, w1, w2, w3, w4, w5⟩ := Cond.arrayOver_spec (n := RX4) (hts (.arrayOver (.object RX4)) (List.mem_of_getElem? (i := 222) (by decide +kernel)))
  refine ⟨(fun k => (f k).1, fun k => (f k).2), fun i => if i = 0 then a0 else if i = 1 then a1 else if i = 3 then a3 else a6, fun c q hq => ?_, fun k q hq => ?_⟩
  · rcases Nat.lt_or_ge c 8 with hc | hc
    · rw [clAt c hc] at hq
      cases hq
      exact hf c hc
    · rw [List.getElem?_eq_none (show vwCl.length ≤ c from hc)] at hq
      cases hq
  · match k, hq with
    | 0, hq =>
      cases hq
      exact ⟨fun n z => ⟨fun k h => (by cases h), k0, x2, p0, x3⟩, x1⟩
    | 1, hq =>
      cases hq
      exact ⟨fun n z => ⟨fun k h => (by cases h), k1, y2, p1, y3⟩, y1⟩
    | 2, hq =>
      cases hq
      exact ⟨fun n z => ⟨fun k h => (by cases h), k3, z3, p3, z4⟩, k3, p3, z3, z4, z1, z5⟩
    | 3, hq =>
      cases hq
      exact ⟨fun n z => ⟨fun k h => (by cases h), k6, w3, p6, w4⟩, k6, p6, w3, w4, w1, w5⟩
    | k + 4, hq => exact absurd hq (by simp [tyL])
theorem Nw_start {s : State} {b : Nat} (hts : ∀ w ∈ lw_tbl, w.before #[Value.ref b] s = true) : (∀ w ∈ nestL, va_Nw w s) ∧ va_Nw (.fieldLinkNest RX4 43 RX7 "FIRST_SETTING" "[I" RX7) s ∧ va_AO RX1 s ∧ va_AO RX4 s := by
  refine ⟨fun w hw => ?_, va_Nw.of rfl (hts _ (List.mem_of_getElem? (i := 171) (by decide +kernel))), va_AO.of (hts _ (List.mem_of_getElem? (i := 57) (by decide +kernel))), va_AO.of (hts _ (List.mem_of_getElem? (i := 222) (by decide +kernel)))⟩
  simp only [nestL, List.mem_cons, List.not_mem_nil, or_false] at hw
  rcases hw with e | e | e | e | e | e | e | e | e <;> subst e
  · exact va_Nw.of rfl (hts _ (List.mem_of_getElem? (i := 32) (by decide +kernel)))
  · exact va_Nw.of rfl (hts _ (List.mem_of_getElem? (i := 59) (by decide +kernel)))
  · exact va_Nw.of rfl (hts _ (List.mem_of_getElem? (i := 142) (by decide +kernel)))
  · exact va_Nw.of rfl (hts _ (List.mem_of_getElem? (i := 234) (by decide +kernel)))
  · exact va_Nw.of rfl (hts _ (List.mem_of_getElem? (i := 262) (by decide +kernel)))
  · exact va_Nw.of rfl (hts _ (List.mem_of_getElem? (i := 460) (by decide +kernel)))
  · exact va_Nw.of rfl (hts _ (List.mem_of_getElem? (i := 514) (by decide +kernel)))
  · exact va_Nw.of rfl (hts _ (List.mem_of_getElem? (i := 539) (by decide +kernel)))
  · exact va_Nw.of rfl (hts _ (List.mem_of_getElem? (i := 616) (by decide +kernel)))
