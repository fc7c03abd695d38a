/-! THE JDK's METHODS OVER LITERALS: length and charAt -/
def PJ (g : Gam) (U : State) : Prop := Cx g U U.heap ∧ gz g ≤ U.heap.size
def QJ (r : Option Value) : Array Value → State → Outcome → State → Prop := fun _ st o t => o = .returned r ∧ t.heap = st.heap
def CtxJ (M : MI) (p : Program) (R : Room) (s : State) (m : MethodId) (args : Array Value) (c : Code) (g : Gam) : Prop :=
  p.tables.exec = Jvm.exec ∧ c.code = miB M ∧ c.maxLocals = miL M ∧ s.vm.findClass (miN M).cls = some m.cls ∧ (∀ w ∈ UW, w.before args s = true) ∧ miV M ≤ R.frames ∧ 27 * miV M + 27 ≤ R.locals ∧ Cx g s s.heap ∧ gz g ≤ s.heap.size
def VJ (M : MI) (g : Gam) (av : List Value) (r : Option Value) : Prop :=
  ∀ (p : Program) (l : Launch) (e : Env) (R : Room) (s : State) (m : MethodId) (args : Array Value) (below : List Frame) (meth : Method) (c : Code) (lsA : Array Slot) (Zq : State → Prop),
    CtxJ M p R s m args c g → lv_has lsA (miL M) (lv_args 0 av) →
    (∀ (locs' : List Loc) (lsA' : Array Slot) (pc' : Nat), va_S (fun q => gz g ≤ q) s.heap s.heap locs' → rtOK M pc' r → W p l e R s m args below meth c s.heap locs' 0 0 Zq (F0 m pc' lsA' r.toList)) →
    W p l e R s m args below meth c s.heap [] 0 0 Zq (F0 m 0 lsA [])
def ConJ (M : MI) (g : Gam) (av : List Value) (r : Option Value) : Prop := ∀ l : Launch, Met l (miN M) (Wx M) (rmM M 0 0) (va_Pc av (PJ g)) (QJ r) 0 0 (fun q => gz g ≤ q)
theorem PJ_blind (g : Gam) (av : List Value) : FrameBlind (va_Pc av (PJ g)) := fun a U g' mk q =>
  ⟨q.1, Cx.warm (U := U.calling g' mk a) (State.WarmedH.refl U) q.2.1, q.2.2⟩
theorem VJ_entry {M : MI} {g : Gam} {av : List Value} {r : Option Value} (h1 : plainName (miN M).cls = true) (hq : r = none ∨ ∃ x, r = some (.int x)) (hl : (lg_sl av).length ≤ miL M) (h : VJ M g av r) : ConJ M g av r := by
  intro l
  refine Met.ofW (cc := miB M) (maxL := miL M) (ret := miR M) h1 rfl ?_
  intro p e s m args below meth c s₁ B hml hv
  obtain ⟨rfl, hC, hz⟩ := hv
  have hts := atoms_spec (ws := Wx M) B.pre
  have hown : s.vm.findClass (miN M).cls = some m.cls := findClass_of_methodNamed B.named
  have hlocks := B.notSynchronized
  have hr := B.returns
  rw [lg_entry_eq]
  have hle := lv_entry av (n := miL M) hl
  generalize (lg_sl av ++ List.replicate (miL M - (lg_sl av).length) Slot.unset).toArray = lsA at hle ⊢
  refine h p l e (rmM M 0 0) s m av.toArray below meth c lsA (MQ below (QJ r) av.toArray s 0 0 (fun q => gz g ≤ q))
    ⟨B.exec, B.bytes, hml, hown, fun w hw => hts w (List.mem_cons_of_mem _ hw), Nat.le_refl _, Nat.le_refl _, hC, hz⟩ hle ?_
  intro locs' lsA' pc' hS' hrt
  have fin : ∀ t : State, t.heap = s.heap → s.WarmedH t.vm → QJ r av.toArray s (.returned r) t := fun t ht _ => ⟨rfl, ht⟩
  rcases hq with rfl | ⟨x, rfl⟩
  · exact W.vret B.exec B.bytes (by rw [hr]; exact hrt.2) fin hS'.2.2 hrt.1 hlocks
  · obtain ⟨d, ty, e1, e2⟩ := hrt
    exact W.zret (v := x) B.exec B.bytes (by rw [hr]; exact e1) e2 fin hS'.2.2 d hlocks
theorem J_back {p : Program} {l : Launch} {e : Env} {R : Room} {s : State} {m : MethodId} {args : Array Value} {below : List Frame} {meth : Method} {c : Code} {g : Gam} {H : Heap} {locs : List Loc} {cells slots : Nat} {lsA : Array Slot} {Zq : State → Prop} {pc : Nat} {st0 rest : List Value} {r : Option Value} {a : Array Value}
    (hS : va_S (fun q => gz g ≤ q) s.heap H locs) (hr : va_Run p l e R s m args below meth c H locs cells slots 0 0 (F0 m pc lsA st0) rest (QJ r a) (fun q => gz g ≤ q))
    (k : ∀ locs', va_S (fun q => gz g ≤ q) s.heap H locs' → W p l e R s m args below meth c H locs' cells slots Zq (F0 m (pc + 3) lsA (r.toList ++ rest))) : W p l e R s m args below meth c H locs cells slots Zq (F0 m pc lsA st0) := by
  intro T hT X
  obtain ⟨v, st₀, t, T', L, h0, X', hL, e1, e2, ⟨hv, hh⟩, st⟩ := hr T hT X
  have hv' : v = r := by injection hv
  subst hv'
  obtain ⟨t2, a1, b1⟩ := k (locs ++ L) ⟨hS.1, hS.2.1, fun q hq => by
    rcases List.mem_append.mp hq with h | h
    · exact hS.2.2 q h
    · exact hL q h⟩ T' (e1.trans (hh.trans h0)) X'
  exact ⟨t2, st t2 a1, b1⟩
/-- a call of a JDK's method of a literal -/
theorem J_callV {own : String} {M M' : MI} {i n j : Nat} {g : Gam} {As rest : List Value} {r : Option Value}
    {p : Program} {l : Launch} {e : Env} {R : Room} {s : State} {m : MethodId} {args : Array Value} {below : List Frame} {meth : Method} {c : Code} {H : Heap} {locs : List Loc} {cells slots : Nat} {lsA : Array Slot} {Zq : State → Prop} {pc : Nat}
    (hcls : (miN M').cls = RJ0) (hw : Cond.code (miN M') (miB M') (miL M') (miR M') ∈ UW) (hlk : Cond.methodLink own i (miN M') ∈ UW) (hin : Cond.instanceMethod (miN M') ∈ UW) (hsel : Cond.selects (miN M').cls (miN M') (miN M') ∈ UW) (hini : Cond.initialized (miN M').cls ∈ UW) (hmh : (miN M').cls ≠ "java/lang/invoke/MethodHandle" ∧ (miN M').cls ≠ "java/lang/invoke/VarHandle") (har : (parseMethodDescriptor (miN M').desc).map (fun d => d.parameters.length) = some n) (hL : miL M' ≤ 8)
    (hx : p.tables.exec = Jvm.exec) (hbc : c.code = miB M) (hml : c.maxLocals = miL M) (hown : s.vm.findClass own = some m.cls) (hts : ∀ w ∈ UW, w.before args s = true) (hC : Cx g s s.heap) (hz : gz g ≤ s.heap.size) (hfr : miV M' < miV M) (hf1 : miV M ≤ R.frames) (hf2 : 27 * miV M + 27 ≤ R.locals)
    (hS : va_S (fun q => gz g ≤ q) s.heap H locs) (hls : lsA.size = miL M) (hn : As.length = n) (hcat : (rest.map fun v => v.category).sum ≤ 8) (hcell : cells ≤ R.cells) (hslot : slots ≤ R.slots) (hj : j < 14)
    (hcon : ConJ M' g (.ref ((gr g).1 (4 + j)) :: As) r) (hd : decode (miB M) pc = .ok (.invokevirtual i, 3))
    (k : ∀ locs', va_S (fun q => gz g ≤ q) s.heap H locs' → W p l e R s m args below meth c H locs' cells slots Zq (F0 m (pc + 3) lsA (r.toList ++ rest))) : W p l e R s m args below meth c H locs cells slots Zq (F0 m pc lsA (As.reverse ++ .ref ((gr g).1 (4 + j)) :: rest)) := by
  have hrun := va_runV (p := p) (l := l) (e := e) (R := R) (s := s) (m := m) (args := args) (below := below) (meth := meth) (c := c) (H := H) (locs := locs) (cells := cells) (slots := slots) (own := own) (C := (miN M').cls) (b := (gr g).1 (4 + j)) (As := As) (rest := rest) (g := F0 m pc lsA (As.reverse ++ .ref ((gr g).1 (4 + j)) :: rest)) (nL := miL M) (cc := miB M)
    ⟨hx, hbc, hml, hown, hts⟩ (hcon l)
    (cwV (bytes := miB M') (maxL := miL M') (ret := miR M') (ws' := UW) n hts (goodIn_app (gW (fun w hw => by
        simp only [List.mem_cons, List.not_mem_nil, or_false] at hw
        rcases hw with e | e | e | e <;> rw [e] <;> assumption)) (gW (fun w hw' => by
          rcases List.mem_cons.mp hw' with e | e
          · rw [e]; exact hw
          · exact e))) rfl rfl rfl ⟨rfl, hmh.1, hmh.2, har⟩ (rmOK hfr hf1 hf2 hL 0 0))
    ⟨PJ_blind g _, by
        have hcc := vk_recv (i := j) hC.2.2.2.2.2.2.2.1 hj hS
        rw [hcls]
        exact hcc, fun U hU hWU => ⟨rfl, Cx.at hC hz hS hU hWU, by rw [hU]; exact Nat.le_trans hz hS.1⟩⟩
    rfl hn hls rfl (by show 2 * 0 + _ ≤ 8; omega) hd ⟨hcell, hslot⟩
  exact J_back hS hrun k
theorem J_callS {own : String} {M M' : MI} {i n : Nat} {g : Gam} {As rest : List Value} {r : Option Value}
    {p : Program} {l : Launch} {e : Env} {R : Room} {s : State} {m : MethodId} {args : Array Value} {below : List Frame} {meth : Method} {c : Code} {H : Heap} {locs : List Loc} {cells slots : Nat} {lsA : Array Slot} {Zq : State → Prop} {pc : Nat}
    (hw : Cond.code (miN M') (miB M') (miL M') (miR M') ∈ UW) (hlk : Cond.methodLink own i (miN M') ∈ UW) (hst : Cond.static (miN M') ∈ UW) (hini : Cond.initialized (miN M').cls ∈ UW) (hmh : (miN M').cls ≠ "java/lang/invoke/MethodHandle" ∧ (miN M').cls ≠ "java/lang/invoke/VarHandle") (har : (parseMethodDescriptor (miN M').desc).map (fun d => d.parameters.length) = some n) (hL : miL M' ≤ 8)
    (hx : p.tables.exec = Jvm.exec) (hbc : c.code = miB M) (hml : c.maxLocals = miL M) (hown : s.vm.findClass own = some m.cls) (hts : ∀ w ∈ UW, w.before args s = true) (hC : Cx g s s.heap) (hz : gz g ≤ s.heap.size) (hfr : miV M' < miV M) (hf1 : miV M ≤ R.frames) (hf2 : 27 * miV M + 27 ≤ R.locals)
    (hS : va_S (fun q => gz g ≤ q) s.heap H locs) (hls : lsA.size = miL M) (hn : As.length = n) (hcat : (rest.map fun v => v.category).sum ≤ 8) (hcell : cells ≤ R.cells) (hslot : slots ≤ R.slots)
    (hcon : ConJ M' g As r) (hd : decode (miB M) pc = .ok (.invokestatic i, 3))
    (k : ∀ locs', va_S (fun q => gz g ≤ q) s.heap H locs' → W p l e R s m args below meth c H locs' cells slots Zq (F0 m (pc + 3) lsA (r.toList ++ rest))) : W p l e R s m args below meth c H locs cells slots Zq (F0 m pc lsA (As.reverse ++ rest)) := by
  have hrun := va_runS (p := p) (l := l) (e := e) (R := R) (s := s) (m := m) (args := args) (below := below) (meth := meth) (c := c) (H := H) (locs := locs) (cells := cells) (slots := slots) (own := own) (As := As) (rest := rest) (g := F0 m pc lsA (As.reverse ++ rest)) (nL := miL M) (cc := miB M)
    ⟨hx, hbc, hml, hown, hts⟩ (hcon l)
    ⟨callB_of (bytes := miB M') (maxL := miL M') (ret := miR M') (ws' := UW) n hts (gW (fun w hw' => by
          rcases List.mem_cons.mp hw' with e | e
          · rw [e]; exact hw
          · exact e)) rfl rfl rfl (hts _ hini) (hts _ hlk) ⟨hmh.1, hmh.2, har⟩ (rmOK hfr hf1 hf2 hL 0 0), hts _ hst⟩
    ⟨PJ_blind g _, fun U hU hWU => ⟨rfl, Cx.at hC hz hS hU hWU, by rw [hU]; exact Nat.le_trans hz hS.1⟩⟩
    rfl hn hls rfl (by show 2 * 0 + _ ≤ 8; omega) hd ⟨hcell, hslot⟩
  exact J_back hS hrun k
def M_J0_coder : MI := (yJ0_coder_7d493, cJ0_coder_7d493, 1, some .byte, 0, 0)
def M_J0_length : MI := (yJ0_length_8abf5, cJ0_length_8abf5, 1, some .int, 0, 1)
def M_J0_isLatin1 : MI := (yJ0_isLatin1_aae02, cJ0_isLatin1_aae02, 1, some .boolean, 0, 0)
def M_J3_checkIndex : MI := (yJ3_checkIndex_8e157, cJ3_checkIndex_8e157, 3, some .int, 0, 0)
def M_J0_checkIndex : MI := (yJ0_checkIndex_df160, cJ0_checkIndex_df160, 2, none, 0, 1)
def M_J1_charAt : MI := (yJ1_charAt_3b067, cJ1_charAt_3b067, 2, some .char, 0, 2)
def M_J0_charAt : MI := (yJ0_charAt_5068e, cJ0_charAt_5068e, 2, some .char, 0, 3)
theorem RO_lit {g : Gam} {U : State} {H : Heap} (h : RO g U H) {j : Nat} (hj : j < 14) : va_OF "java/lang/String" "coder" "B" (.int 0) ((gr g).1 (4 + j)) (fun q => gz g ≤ q) U H ∧ va_OF "java/lang/String" "value" "[B" (.ref ((gr g).1 (18 + j))) ((gr g).1 (4 + j)) (fun q => gz g ≤ q) U H ∧ va_T .byte ((gr g).1 (18 + j)) (liL.getD j 0) (fun k => .int ((liB.getD j []).getD k 0)) (fun q => gz g ≤ q) U H := by
  have h1 := h.2.2.1.1 j hj
  exact ⟨h1.2.1, h1.2.2.1, h1.2.2.2⟩
theorem v_coder {g : Gam} {j : Nat} (hj : j < 14) : ConJ M_J0_coder g [.ref ((gr g).1 (4 + j))] (some (.int 0)) := by
  refine VJ_entry (by decide +kernel) (Or.inr ⟨_, rfl⟩) (Nat.le_of_ble_eq_true rfl) ?_
  intro p l e R s m args below meth c lsA Zq C hls hret
  obtain ⟨hx, hbc, hml, hown, hts, hf1, hf2, hC, hz⟩ := C
  obtain ⟨q1, q2, q3⟩ := RO_lit hC.2.2.2.2.2 hj
  have hS : va_S (fun q => gz g ≤ q) s.heap s.heap [] := va_S.rf
  refine va_gets hx hbc (C := "java/lang/String") (n := "COMPACT_STRINGS") (d := "Z") (own := "java/lang/String") (ref := "java/lang/String") (index := 38) (v := .int 1) hC.2.2.2.2.2.2.2.2.2.1 hS hown (hts _ (uw 692 (by decide +kernel) rfl)) (fun _ h => h) (by decide +kernel) ?_
  refine lv_if_eq hx hbc (tgt := 13) (off := 10) (by decide +kernel) rfl (fun h => absurd h (by decide)) (fun _ => ?_)
  refine lv_aload_n hx hbc (k := 0) (i := 0) (by decide +kernel) rfl (lv_at hls 0 rfl) ?_
  refine vk_getf hx hbc (o := "java/lang/String") (n := "coder") (d := "B") (own := "java/lang/String") (ref := "java/lang/String") (index := 15) q1 hS hown (hts _ (uw 1122 (by decide +kernel) rfl)) (fun _ h => h) (by decide +kernel) ?_
  refine lv_goto hx hbc (tgt := 14) (off := 4) (by decide +kernel) rfl ?_
  exact hret _ _ _ hS ⟨by decide +kernel, _, rfl, rfl⟩
theorem v_isLatin1 {g : Gam} {j : Nat} (hj : j < 14) : ConJ M_J0_isLatin1 g [.ref ((gr g).1 (4 + j))] (some (.int 1)) := by
  refine VJ_entry (by decide +kernel) (Or.inr ⟨_, rfl⟩) (Nat.le_of_ble_eq_true rfl) ?_
  intro p l e R s m args below meth c lsA Zq C hls hret
  obtain ⟨hx, hbc, hml, hown, hts, hf1, hf2, hC, hz⟩ := C
  obtain ⟨q1, q2, q3⟩ := RO_lit hC.2.2.2.2.2 hj
  have hS : va_S (fun q => gz g ≤ q) s.heap s.heap [] := va_S.rf
  refine va_gets hx hbc (C := "java/lang/String") (n := "COMPACT_STRINGS") (d := "Z") (own := "java/lang/String") (ref := "java/lang/String") (index := 38) (v := .int 1) hC.2.2.2.2.2.2.2.2.2.1 hS hown (hts _ (uw 692 (by decide +kernel) rfl)) (fun _ h => h) (by decide +kernel) ?_
  refine lv_if_eq hx hbc (tgt := 17) (off := 14) (by decide +kernel) rfl (fun h => absurd h (by decide)) (fun _ => ?_)
  refine lv_aload_n hx hbc (k := 0) (i := 0) (by decide +kernel) rfl (lv_at hls 0 rfl) ?_
  refine vk_getf hx hbc (o := "java/lang/String") (n := "coder") (d := "B") (own := "java/lang/String") (ref := "java/lang/String") (index := 15) q1 hS hown (hts _ (uw 1122 (by decide +kernel) rfl)) (fun _ h => h) (by decide +kernel) ?_
  refine lv_if_ne hx hbc (tgt := 17) (off := 7) (by decide +kernel) rfl (fun h => absurd rfl h) (fun _ => ?_)
  refine lv_iconst hx hbc (n := 1) (by decide +kernel) rfl ?_
  refine lv_goto hx hbc (tgt := 18) (off := 4) (by decide +kernel) rfl ?_
  exact hret _ _ _ hS ⟨by decide +kernel, _, rfl, rfl⟩
theorem li_shr : ∀ j, j < 14 → (Int32.ofNat (liL.getD j 0)) >>> ((0 : Int32) &&& 31) = Int32.ofInt ((liL.getD j 0 : Nat) : Int) := by decide +kernel
theorem v_length {g : Gam} {j : Nat} (hj : j < 14) : ConJ M_J0_length g [.ref ((gr g).1 (4 + j))] (some (zI ((liL.getD j 0 : Nat) : Int))) := by
  refine VJ_entry (by decide +kernel) (Or.inr ⟨_, rfl⟩) (Nat.le_of_ble_eq_true rfl) ?_
  intro p l e R s m args below meth c lsA Zq C hls hret
  obtain ⟨hx, hbc, hml, hown, hts, hf1, hf2, hC, hz⟩ := C
  obtain ⟨q1, q2, q3⟩ := RO_lit hC.2.2.2.2.2 hj
  have hS : va_S (fun q => gz g ≤ q) s.heap s.heap [] := va_S.rf
  refine lv_aload_n hx hbc (k := 0) (i := 0) (by decide +kernel) rfl (lv_at hls 0 rfl) ?_
  refine vk_getf hx hbc (o := "java/lang/String") (n := "value") (d := "[B") (own := "java/lang/String") (ref := "java/lang/String") (index := 9) q2 hS hown (hts _ (uw 1121 (by decide +kernel) rfl)) (fun _ h => h) (by decide +kernel) ?_
  refine va_tlen hx hbc q3 hS rfl (by decide +kernel) ?_
  refine lv_aload_n hx hbc (k := 0) (i := 0) (by decide +kernel) rfl (lv_at hls 0 rfl) ?_
  refine J_callV (own := RJ0) (M := M_J0_length) (M' := M_J0_coder) (i := 335) (n := 0) (j := j) (As := []) (r := some (.int 0)) rfl (uw 691 (by decide +kernel) rfl) (uw 688 (by decide +kernel) rfl) (uw 689 (by decide +kernel) rfl) (uw 690 (by decide +kernel) rfl) (uw 55 (by decide +kernel) rfl) (by decide +kernel) (by decide +kernel) (by decide +kernel) hx hbc hml hown hts hC hz (by decide +kernel) hf1 hf2 hS hls.1 rfl (Nat.le_of_ble_eq_true rfl) (Nat.zero_le _) (Nat.zero_le _) hj (v_coder hj) (by decide +kernel) (fun locs' hS' => ?_)
  refine lv_ishr hx hbc (by decide +kernel) ?_
  rw [li_shr j hj]
  exact hret _ _ _ hS' ⟨by decide +kernel, _, rfl, rfl⟩
theorem v_checkIndex3 {g : Gam} {k n : Int} {w : Value} (hk : 0 ≤ k ∧ k < n) (hn : n < 2147483648) (hw : w = .null ∨ ∃ t : Nat, w = .ref t) : ConJ M_J3_checkIndex g [zI k, zI n, w] (some (zI k)) := by
  have hcw : w.category = 1 := by rcases hw with rfl | ⟨t, rfl⟩ <;> rfl
  refine VJ_entry (by decide +kernel) (Or.inr ⟨_, rfl⟩) (by rcases hw with rfl | ⟨t, rfl⟩ <;> exact Nat.le_of_ble_eq_true rfl) ?_
  intro p l e R s m args below meth c lsA Zq C hls hret
  obtain ⟨hx, hbc, hml, hown, hts, hf1, hf2, hC, hz⟩ := C
  have hS : va_S (fun q => gz g ≤ q) s.heap s.heap [] := va_S.rf
  refine lv_iload_n hx hbc (k := 0) (i := 0) (by decide +kernel) rfl (lv_at hls 0 rfl) ?_
  refine lv_if_lt hx hbc (tgt := 9) (off := 8) (by decide +kernel) rfl (fun h => ?_) (fun _ => ?_)
  · exact absurd ((zi_lt (by omega) z0).mp h) (by omega)
  refine lv_iload_n hx hbc (k := 0) (i := 0) (by decide +kernel) rfl (lv_at hls 0 rfl) ?_
  refine lv_iload_n hx hbc (k := 1) (i := 1) (by decide +kernel) rfl (lv_at hls 1 rfl) ?_
  refine lv_icmp_lt hx hbc (tgt := 16) (off := 10) (by decide +kernel) rfl (fun _ => ?_) (fun h => ?_)
  · refine lv_iload_n hx hbc (k := 0) (i := 0) (by decide +kernel) rfl (lv_at hls 0 rfl) ?_
    exact hret _ _ _ hS ⟨by decide +kernel, _, rfl, rfl⟩
  · exact absurd ((zi_lt (by omega) (by omega)).mpr hk.2) h
theorem v_checkIndex0 {g : Gam} {k n : Int} (hk : 0 ≤ k ∧ k < n) (hn : n < 2147483648) : ConJ M_J0_checkIndex g [zI k, zI n] none := by
  refine VJ_entry (by decide +kernel) (Or.inl rfl) (Nat.le_of_ble_eq_true rfl) ?_
  intro p l e R s m args below meth c lsA Zq C hls hret
  obtain ⟨hx, hbc, hml, hown, hts, hf1, hf2, hC, hz⟩ := C
  have hS : va_S (fun q => gz g ≤ q) s.heap s.heap [] := va_S.rf
  refine lv_iload_n hx hbc (k := 0) (i := 0) (by decide +kernel) rfl (lv_at hls 0 rfl) ?_
  refine lv_iload_n hx hbc (k := 1) (i := 1) (by decide +kernel) rfl (lv_at hls 1 rfl) ?_
  have hq := hC.2.2.2.2.2.2.2.2.2.2
  have hw : ∃ w : Value, (w = .null ∨ ∃ t : Nat, w = .ref t) ∧ va_Z RJ3 "SIOOBE_FORMATTER" "Ljava/util/function/BiFunction;" w (fun q => gz g ≤ q) s s.heap := by
    rcases hq with h | ⟨t, h⟩
    · exact ⟨_, Or.inl rfl, h⟩
    · exact ⟨_, Or.inr ⟨t, rfl⟩, h⟩
  obtain ⟨w, hw1, hw2⟩ := hw
  refine va_gets hx hbc (C := RJ3) (n := "SIOOBE_FORMATTER") (d := "Ljava/util/function/BiFunction;") (own := "java/lang/String") (ref := RJ3) (index := 1053) (v := w) hw2 hS hown (hts _ (uw 708 (by decide +kernel) rfl)) (fun _ h => h) (by decide +kernel) ?_
  refine J_callS (own := RJ0) (M := M_J0_checkIndex) (M' := M_J3_checkIndex) (i := 1059) (n := 3) (As := [zI k, zI n, w]) (rest := []) (r := some (zI k)) (uw 712 (by decide +kernel) rfl) (uw 710 (by decide +kernel) rfl) (uw 711 (by decide +kernel) rfl) (uw 57 (by decide +kernel) rfl) (by decide +kernel) (by decide +kernel) (by decide +kernel) hx hbc hml hown hts hC hz (by decide +kernel) hf1 hf2 hS hls.1 rfl (Nat.le_of_ble_eq_true rfl) (Nat.zero_le _) (Nat.zero_le _) (v_checkIndex3 hk hn hw1) (by decide +kernel) (fun locs' hS' => ?_)
  refine lv_pop hx hbc (by decide +kernel) rfl ?_
  exact hret _ _ _ hS' ⟨by decide +kernel, rfl⟩
theorem li_chr : ∀ j, j < 14 → ∀ k, k < liL.getD j 0 → (((liB.getD j []).getD k 0 &&& Int32.ofInt 255).toUInt32 % 65536).toInt32 = Int32.ofInt (((liC j).getD k 0 : Nat) : Int) := by decide +kernel
theorem li_nar : ∀ j, j < 14 → ∀ k, k < liL.getD j 0 → narrow .char (zI (((liC j).getD k 0 : Nat) : Int)) = zI (((liC j).getD k 0 : Nat) : Int) := by decide +kernel
theorem li_len : ∀ j, j < 14 → liL.getD j 0 ≤ 8 := by decide +kernel
theorem v_charAt1 {g : Gam} {j k : Nat} (hj : j < 14) (hk : k < liL.getD j 0) : ConJ M_J1_charAt g [.ref ((gr g).1 (18 + j)), zI (k : Int)] (some (zI (((liC j).getD k 0 : Nat) : Int))) := by
  refine VJ_entry (by decide +kernel) (Or.inr ⟨_, rfl⟩) (Nat.le_of_ble_eq_true rfl) ?_
  intro p l e R s m args below meth c lsA Zq C hls hret
  obtain ⟨hx, hbc, hml, hown, hts, hf1, hf2, hC, hz⟩ := C
  obtain ⟨q1, q2, q3⟩ := RO_lit hC.2.2.2.2.2 hj
  have hl8 := li_len j hj
  have hS : va_S (fun q => gz g ≤ q) s.heap s.heap [] := va_S.rf
  refine lv_iload_n hx hbc (k := 1) (i := 1) (by decide +kernel) rfl (lv_at hls 1 rfl) ?_
  refine lv_aload_n hx hbc (k := 0) (i := 0) (by decide +kernel) rfl (lv_at hls 0 rfl) ?_
  refine va_tlen hx hbc q3 hS (v := Int32.ofInt ((liL.getD j 0 : Nat) : Int)) rfl (by decide +kernel) ?_
  refine J_callS (own := RJ1) (M := M_J1_charAt) (M' := M_J0_checkIndex) (i := 9) (n := 2) (As := [zI (k : Int), zI ((liL.getD j 0 : Nat) : Int)]) (rest := []) (r := none) (uw 707 (by decide +kernel) rfl) (uw 705 (by decide +kernel) rfl) (uw 706 (by decide +kernel) rfl) (uw 55 (by decide +kernel) rfl) (by decide +kernel) (by decide +kernel) (by decide +kernel) hx hbc hml hown hts hC hz (by decide +kernel) hf1 hf2 hS hls.1 rfl (Nat.le_of_ble_eq_true rfl) (Nat.zero_le _) (Nat.zero_le _) (v_checkIndex0 (by omega) (by omega)) (by decide +kernel) (fun locs' hS' => ?_)
  refine lv_aload_n hx hbc (k := 0) (i := 0) (by decide +kernel) rfl (lv_at hls 0 rfl) ?_
  refine lv_iload_n hx hbc (k := 1) (i := 1) (by decide +kernel) rfl (lv_at hls 1 rfl) ?_
  have ek : (Int32.ofInt (k : Int)).toNatClampNeg = k := by have h := zi_cl (e := (k : Int)) (by omega); omega
  refine va_tb hx hbc q3 hS' (zi_in (by omega) (by omega) (by omega)) (v := .int ((liB.getD j []).getD k 0)) (by rw [ek]) (by decide +kernel) ?_
  refine lv_sipush hx hbc (n := 255) (by decide +kernel) rfl ?_
  refine lv_iand hx hbc (by decide +kernel) ?_
  refine lv_i2c hx hbc (by decide +kernel) rfl ?_
  rw [show (Int16.ofInt 255).toInt32 = Int32.ofInt 255 by decide, li_chr j hj k hk]
  exact hret _ _ _ hS' ⟨by decide +kernel, _, rfl, li_nar j hj k hk⟩
theorem v_charAt {g : Gam} {j k : Nat} (hj : j < 14) (hk : k < liL.getD j 0) : ConJ M_J0_charAt g [.ref ((gr g).1 (4 + j)), zI (k : Int)] (some (zI (((liC j).getD k 0 : Nat) : Int))) := by
  refine VJ_entry (by decide +kernel) (Or.inr ⟨_, rfl⟩) (Nat.le_of_ble_eq_true rfl) ?_
  intro p l e R s m args below meth c lsA Zq C hls hret
  obtain ⟨hx, hbc, hml, hown, hts, hf1, hf2, hC, hz⟩ := C
  obtain ⟨q1, q2, q3⟩ := RO_lit hC.2.2.2.2.2 hj
  have hS : va_S (fun q => gz g ≤ q) s.heap s.heap [] := va_S.rf
  refine lv_aload_n hx hbc (k := 0) (i := 0) (by decide +kernel) rfl (lv_at hls 0 rfl) ?_
  refine J_callV (own := RJ0) (M := M_J0_charAt) (M' := M_J0_isLatin1) (i := 492) (n := 0) (j := j) (As := []) (rest := []) (r := some (.int 1)) rfl (uw 701 (by decide +kernel) rfl) (uw 698 (by decide +kernel) rfl) (uw 699 (by decide +kernel) rfl) (uw 700 (by decide +kernel) rfl) (uw 55 (by decide +kernel) rfl) (by decide +kernel) (by decide +kernel) (by decide +kernel) hx hbc hml hown hts hC hz (by decide +kernel) hf1 hf2 hS hls.1 rfl (Nat.le_of_ble_eq_true rfl) (Nat.zero_le _) (Nat.zero_le _) hj (v_isLatin1 hj) (by decide +kernel) (fun locs' hS' => ?_)
  refine lv_if_eq hx hbc (tgt := 16) (off := 12) (by decide +kernel) rfl (fun h => absurd h (by decide)) (fun _ => ?_)
  refine lv_aload_n hx hbc (k := 0) (i := 0) (by decide +kernel) rfl (lv_at hls 0 rfl) ?_
  refine vk_getf hx hbc (o := "java/lang/String") (n := "value") (d := "[B") (own := "java/lang/String") (ref := "java/lang/String") (index := 9) q2 hS' hown (hts _ (uw 1121 (by decide +kernel) rfl)) (fun _ h => h) (by decide +kernel) ?_
  refine lv_iload_n hx hbc (k := 1) (i := 1) (by decide +kernel) rfl (lv_at hls 1 rfl) ?_
  refine J_callS (own := RJ0) (M := M_J0_charAt) (M' := M_J1_charAt) (i := 495) (n := 2) (As := [.ref ((gr g).1 (18 + j)), zI (k : Int)]) (rest := []) (r := some (zI (((liC j).getD k 0 : Nat) : Int))) (uw 704 (by decide +kernel) rfl) (uw 702 (by decide +kernel) rfl) (uw 703 (by decide +kernel) rfl) (uw 56 (by decide +kernel) rfl) (by decide +kernel) (by decide +kernel) (by decide +kernel) hx hbc hml hown hts hC hz (by decide +kernel) hf1 hf2 hS' hls.1 rfl (Nat.le_of_ble_eq_true rfl) (Nat.zero_le _) (Nat.zero_le _) (v_charAt1 hj hk) (by decide +kernel) (fun locs' hS' => ?_)
  exact hret _ _ _ hS' ⟨by decide +kernel, _, rfl, li_nar j hj k hk⟩
section JROWS
variable {M : MI} {N N1 pc : Nat} {ls : List (Nat × Value)} {rest : List Value} {Q : Option Value → Sto → Prop} {σ : Sto}
theorem V_jlen {j : Nat} (hj : j < 14) (hM : miC M = 2) (hd : decode (miB M) pc = .ok (.invokevirtual 128, 3)) (hlv : 1 < miV M) (hc : (rest.map fun v => v.category).sum ≤ 8) (k : V M N1 (pc + 3) ls (zI ((liL.getD j 0 : Nat) : Int) :: rest) N σ Q) : V M N1 pc ls (.retAddr (4 + j) :: rest) N σ Q := by
  intro p l e R s m args below meth c g N0 H locs lsA Zq C hW hS hN hl hret
  obtain ⟨hx, hbc, hml, hown, hts, hinit, hfr, hlo, hC, hz⟩ := id C
  have m1 := SL_mono hN.2.1
  rw [hM] at hown
  exact J_callV (own := RX2) (M := M) (M' := M_J0_length) (i := 128) (n := 0) (j := j) (As := []) (rest := rest.map (tr g)) (r := some (zI ((liL.getD j 0 : Nat) : Int))) rfl (uw 687 (by decide +kernel) rfl) (uw 684 (by decide +kernel) rfl) (uw 685 (by decide +kernel) rfl) (uw 686 (by decide +kernel) rfl) (uw 55 (by decide +kernel) rfl) (by decide +kernel) (by decide +kernel) (by decide +kernel) hx hbc hml hown hts hC hz hlv hfr hlo hS hl.1 rfl (by rw [tr_sum]; exact hc) (by omega) (by omega) hj (v_length hj) hd (fun locs' hS' => k p l e R s m args below meth c g N0 H locs' lsA Zq C hW hS' hN hl hret)
theorem V_jchr {j : Nat} {k : Int} (hj : j < 14) (hk : 0 ≤ k ∧ k < ((liL.getD j 0 : Nat) : Int)) (hM : miC M = 2) (hd : decode (miB M) pc = .ok (.invokevirtual 132, 3)) (hlv : 3 < miV M) (hc : (rest.map fun v => v.category).sum ≤ 8) (kk : V M N1 (pc + 3) ls (zI (((liC j).getD k.toNat 0 : Nat) : Int) :: rest) N σ Q) : V M N1 pc ls (zI k :: .retAddr (4 + j) :: rest) N σ Q := by
  intro p l e R s m args below meth c g N0 H locs lsA Zq C hW hS hN hl hret
  obtain ⟨hx, hbc, hml, hown, hts, hinit, hfr, hlo, hC, hz⟩ := id C
  have m1 := SL_mono hN.2.1
  rw [hM] at hown
  have ek : ((k.toNat : Nat) : Int) = k := Int.toNat_of_nonneg hk.1
  have hcon := v_charAt (g := g) (j := j) (k := k.toNat) hj (by omega)
  rw [ek] at hcon
  exact J_callV (own := RX2) (M := M) (M' := M_J0_charAt) (i := 132) (n := 1) (j := j) (As := [zI k]) (rest := rest.map (tr g)) (r := some (zI (((liC j).getD k.toNat 0 : Nat) : Int))) rfl (uw 697 (by decide +kernel) rfl) (uw 694 (by decide +kernel) rfl) (uw 695 (by decide +kernel) rfl) (uw 696 (by decide +kernel) rfl) (uw 55 (by decide +kernel) rfl) (by decide +kernel) (by decide +kernel) (by decide +kernel) hx hbc hml hown hts hC hz hlv hfr hlo hS hl.1 rfl (by rw [tr_sum]; exact hc) (by omega) (by omega) hj hcon hd (fun locs' hS' => kk p l e R s m args below meth c g N0 H locs' lsA Zq C hW hS' hN hl hret)
end JROWS
