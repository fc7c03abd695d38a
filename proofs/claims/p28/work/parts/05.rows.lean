/-! ENTRY, RETURN, CALLS -/
theorem lv_args_tr (g : Gam) : ∀ (av : List Value) (i : Nat), lv_args i (av.map (tr g)) = (lv_args i av).map (fun q => (q.1, tr g q.2))
  | [], _ => rfl
  | v :: vs, i => by
    show (i, tr g v) :: lv_args (if (tr g v).category = 2 then i + 2 else i + 1) (vs.map (tr g)) = (i, tr g v) :: (lv_args (if v.category = 2 then i + 2 else i + 1) vs).map (fun q => (q.1, tr g q.2))
    rw [tr_cat, lv_args_tr g vs]
theorem sl_len (g : Gam) : ∀ av : List Value, (lg_sl (av.map (tr g))).length = (lg_sl av).length
  | [] => rfl
  | v :: vs => by
    have h := sl_len g vs
    simp only [lg_sl, List.map_cons, List.flatMap_cons, List.length_append, tr_cat] at h ⊢
    rw [h]
    split <;> rfl
theorem Cx.at {g : Gam} {s U : State} {H : Heap} {locs : List Loc} (h : Cx g s s.heap) (hz : gz g ≤ s.heap.size) (hS : va_S (fun q => gz g ≤ q) s.heap H locs) (hU : U.heap = H) (hW : s.WarmedH U.vm) : Cx g U U.heap := by
  rw [hU]
  exact (h.warm hW).kept hz (fun a h1 h2 => hS.2.1 a h1 h2)
theorem PP_blind (g : Gam) (N : Nat) (σ : Sto) (av : List Value) : FrameBlind (va_Pc av (PP g N σ)) := fun a U g' mk q =>
  ⟨q.1, q.2.1, Cx.warm (U := U.calling g' mk a) (State.WarmedH.refl U) q.2.2.1, q.2.2.2⟩
theorem V_entry {M : MI} (hM : mOK M) {N N1 : Nat} {σ : Sto} {av : List Value} {Q : Option Value → Sto → Prop} (hN : N ≤ N1) (hl : (lg_sl av).length ≤ miL M) (h : V M N1 0 (lv_args 0 av) [] N σ Q) : Con M N N1 σ av Q := by
  refine ⟨hN, fun l g => ?_⟩
  obtain ⟨h1, h2, h3, h4⟩ := hM
  refine Met.ofW (cc := miB M) (maxL := miL M) (ret := miR M) h1 rfl ?_
  intro p e s m args below meth c s₁ B hml hv
  obtain ⟨rfl, hW, hC, hz⟩ := hv
  have hts := atoms_spec (ws := Wx M) B.pre
  have hown : s.vm.findClass (miN M).cls = some m.cls := findClass_of_methodNamed B.named
  rw [h3] at hown
  have hlocks := B.notSynchronized
  have hr := B.returns
  rw [lg_entry_eq]
  have hle := lv_entry (av.map (tr g)) (n := miL M) (by rw [sl_len]; exact hl)
  generalize (lg_sl (av.map (tr g)) ++ List.replicate (miL M - (lg_sl (av.map (tr g))).length) Slot.unset).toArray = lsA at hle ⊢
  rw [lv_args_tr] at hle
  have key := h p l e (rmM M N N1) s m (av.map (tr g)).toArray below meth c g N s.heap [] lsA (MQ below (QQ g N1 Q) (av.map (tr g)).toArray s (N1 - N) (SL N1 - SL N) (fun q => gz g ≤ q))
    ⟨B.exec, B.bytes, hml, hown, fun w hw => hts w (List.mem_cons_of_mem _ hw), fun e => (name_of_methodNamed B.named B.method).1.trans e, Nat.le_refl _, Nat.le_refl _, hC, by omega⟩ hW va_S.rf ⟨Nat.le_refl _, hN, Nat.le_refl _, Nat.le_refl _, hz⟩ hle ?_
  · rw [Nat.sub_self, Nat.sub_self] at key
    exact key
  · intro v σ' H' locs' lsA' pc' hq hW' hS' hrt
    have fin : ∀ t : State, t.heap = H' → s.WarmedH t.vm → QQ g N1 Q (av.map (tr g)).toArray s (.returned (v.map (tr g))) t := fun t ht _ => ⟨⟨v, σ', rfl, hq, by rw [ht]; exact hW'⟩, hS'.F ht⟩
    match v, hrt with
    | none, hrt => exact W.vret B.exec B.bytes (by rw [hr]; exact hrt.2) fin hS'.2.2 hrt.1 hlocks
    | some (.int x), hrt =>
      obtain ⟨d, ty, e1, e2⟩ := hrt
      exact W.zret (v := x) B.exec B.bytes (by rw [hr]; exact e1) e2 fin hS'.2.2 d hlocks
    | some (.ref x), hrt =>
      obtain ⟨d, n, e1⟩ := hrt
      exact W.aret B.exec B.bytes (by rw [hr]; exact e1) (Or.inl ⟨n, rfl⟩) (Or.inr ⟨_, rfl⟩) fin hS'.2.2 d hlocks
    | some .null, hrt =>
      obtain ⟨d, n, e1⟩ := hrt
      exact W.aret B.exec B.bytes (by rw [hr]; exact e1) (Or.inl ⟨n, rfl⟩) (Or.inl rfl) fin hS'.2.2 d hlocks
    | some (.retAddr x), hrt =>
      obtain ⟨d, n, e1⟩ := hrt
      exact W.aret B.exec B.bytes (by rw [hr]; exact e1) (Or.inl ⟨n, rfl⟩) (Or.inr ⟨_, rfl⟩) fin hS'.2.2 d hlocks
    | some (.long x), hrt => exact W.lret B.exec B.bytes (by rw [hr]; exact hrt.2) fin hS'.2.2 hrt.1 hlocks
    | some (.float x), hrt => exact hrt.elim
    | some (.double x), hrt => exact hrt.elim
theorem V_ret {M : MI} {N1 pc : Nat} {ls : List (Nat × Value)} {v : Option Value} {σ : Sto} {Q : Option Value → Sto → Prop} (hr : rtOK M pc v) (hq : Q v σ) : V M N1 pc ls v.toList N1 σ Q := by
  intro p l e R s m args below meth c g N0 H locs lsA Zq C hW hS hN hl hret
  exact hret v σ H locs lsA pc hq hW hS hr
theorem V_back {M : MI} {N N' N1 pc : Nat} {ls : List (Nat × Value)} {rest : List Value} {Q Q' : Option Value → Sto → Prop} (hN' : N ≤ N' ∧ N' ≤ N1) (k : ∀ v σ', Q' v σ' → V M N1 (pc + 3) ls (v.toList ++ rest) N' σ' Q)
    {p : Program} {l : Launch} {e : Env} {R : Room} {s : State} {m : MethodId} {args : Array Value} {below : List Frame} {meth : Method} {c : Code} {g : Gam} {N0 : Nat} {H : Heap} {locs : List Loc} {lsA : Array Slot} {Zq : State → Prop} {st0 : List Value} {a : Array Value}
    (C : Ctx M p R s m args meth c g) (hS : va_S (fun q => gz g ≤ q) s.heap H locs) (hN : N0 ≤ N ∧ N ≤ N1 ∧ N1 - N0 ≤ R.cells ∧ SL N1 - SL N0 ≤ R.slots ∧ s.heap.size = gz g + N0) (hl : lv_has lsA (miL M) (ls.map (fun q => (q.1, tr g q.2))))
    (hret : ∀ (v : Option Value) (σ' : Sto) (H' : Heap) (locs' : List Loc) (lsA' : Array Slot) (pc' : Nat), Q v σ' → Wd g N1 σ' H' → va_S (fun q => gz g ≤ q) s.heap H' locs' → rtOK M pc' v → W p l e R s m args below meth c H' locs' (N1 - N0) (SL N1 - SL N0) Zq (F0 m pc' lsA' (v.toList.map (tr g))))
    (hr : va_Run p l e R s m args below meth c H locs (N - N0) (SL N - SL N0) (N' - N) (SL N' - SL N) (F0 m pc lsA st0) (rest.map (tr g)) (QQ g N' Q' a) (fun q => gz g ≤ q)) :
    W p l e R s m args below meth c H locs (N - N0) (SL N - SL N0) Zq (F0 m pc lsA st0) := by
  intro T hT X
  obtain ⟨v, st₀, t, T', L, h0, X', hL, e1, e2, ⟨⟨v', σ', hv, hq, hw⟩, hz, hk⟩, st⟩ := hr T hT X
  have hv' : v = v'.map (tr g) := by injection hv
  subst hv'
  rw [h0] at hz hk
  have m1 := SL_mono hN.1
  have m2 := SL_mono hN'.1
  have ec : N - N0 + (N' - N) = N' - N0 := by omega
  have es : SL N - SL N0 + (SL N' - SL N) = SL N' - SL N0 := by omega
  rw [ec, es] at X'
  have key := k v' σ' hq p l e R s m args below meth c g N0 T'.heap (locs ++ L) lsA Zq C (by rw [e1]; exact hw)
    ⟨Nat.le_trans hS.1 (by rw [e1]; exact hz), fun q h1 h2 => by rw [e1, hk q (Nat.lt_of_lt_of_le h1 hS.1) h2]; exact hS.2.1 q h1 h2, fun q hq => by
      rcases List.mem_append.mp hq with h | h
      · exact hS.2.2 q h
      · exact hL q h⟩ ⟨by omega, hN'.2, hN.2.2.1, hN.2.2.2⟩ hl hret
  have es2 : (v'.map (tr g)).toList ++ rest.map (tr g) = (v'.toList ++ rest).map (tr g) := by cases v' <;> simp
  obtain ⟨t2, a1, b1⟩ := key T' rfl X'
  refine ⟨t2, st t2 ?_, b1⟩
  show Steps p.tables e below (T'.setTop (F0 m (pc + 3) lsA ((v'.map (tr g)).toList ++ rest.map (tr g)))) t2
  rw [es2]
  exact a1

theorem W_size {p : Program} {l : Launch} {e : Env} {R : Room} {s : State} {m : MethodId} {args : Array Value} {below : List Frame} {meth : Method} {c : Code} {g : Gam} {N N0 N1 sl : Nat} {H : Heap} {locs : List Loc} {Zq : State → Prop} {F : JFrame} {σ : Sto}
    (hW : Wd g N σ H) (hS : va_S (fun q => gz g ≤ q) s.heap H locs) (hN : N0 ≤ N ∧ N ≤ N1 ∧ N1 - N0 ≤ R.cells ∧ SL N1 - SL N0 ≤ R.slots ∧ s.heap.size = gz g + N0) (k : H.size = gz g + N → W p l e R s m args below meth c H locs (N - N0) sl Zq F) : W p l e R s m args below meth c H locs (N - N0) sl Zq F := by
  intro T hT X
  have h1 := X.heapSize
  rw [hT] at h1
  have h3 := hS.1
  have h4 := hN.2.2.2.2
  have h5 := hN.1
  have h2 : gz g + N ≤ H.size := by
    rcases Nat.lt_or_ge N0 N with q | q
    · have h6 : gz g + (N - 1) < H.size := (hW.2 (N - 1) _ (wl_at (by omega))).lt
      omega
    · omega
  exact k (by omega) T hT X
theorem gW {ws : List Cond} (h : ∀ w ∈ ws, w ∈ UW) : GoodIn UW ws := fun w hw => uwG w (h w hw)
theorem Wx_in {M : MI} (h : mOK M) : ∀ w ∈ Wx M, w ∈ UW := fun w hw => by
  rcases List.mem_cons.mp hw with e | e
  · rw [e]; exact h.2.1
  · exact e
theorem cat_le {l : List Value} {g : Gam} (h : (l.map fun v => v.category).sum ≤ 8) : 2 * 0 + ((l.map (tr g)).map fun v => v.category).sum ≤ 8 := by
  rw [tr_sum]; omega
section CALLS
variable {M : MI} {N N' N1 pc : Nat} {ls : List (Nat × Value)} {rest : List Value} {Q : Option Value → Sto → Prop} {σ : Sto} {i kd n cl lv b : Nat} {M' : MI} {As : List Value}
theorem rmOK {R : Room} {M M' : MI} (hv : miV M' < miV M) (h1 : miV M ≤ R.frames) (h2 : 33 * miV M + 33 ≤ R.locals) (h3 : miL M' ≤ 14) (N N' : Nat) : (rmM M' N N').frames + 1 ≤ R.frames ∧ 8 + (miL M' + 11) + (rmM M' N N').locals ≤ R.locals := by
  refine ⟨?_, ?_⟩
  · show miV M' + 1 ≤ R.frames
    omega
  · show 8 + (miL M' + 11) + (33 * miV M' + 33) ≤ R.locals
    omega
theorem rest_ok {g : Gam} {s : State} {N N0 N1 N' : Nat} {R : Room} (hN : N0 ≤ N ∧ N ≤ N1 ∧ N1 - N0 ≤ R.cells ∧ SL N1 - SL N0 ≤ R.slots ∧ s.heap.size = gz g + N0) (hN' : N ≤ N' ∧ N' ≤ N1) : N - N0 + (N' - N) ≤ R.cells ∧ SL N - SL N0 + (SL N' - SL N) ≤ R.slots := by
  have m1 := SL_mono hN.1
  have m2 := SL_mono hN'.1
  have m3 := SL_mono hN'.2
  omega
theorem V_callV (hm : callOK (miC M) i 0 n cl lv M') (hd : decode (miB M) pc = .ok (.invokevirtual i, 3)) (hlv : lv < miV M) (hn : As.length = n) (hc : (rest.map fun v => v.category).sum ≤ 8) (hb : b < N) (hs : sh b = (0, cl)) (hcl : cl < 8)
    (hN' : N' ≤ N1) {Q' : Option Value → Sto → Prop} (hcon : Con M' N N' σ (.ref b :: As) Q') (hk : ∀ v σ', Q' v σ' → V M N1 (pc + 3) ls (v.toList ++ rest) N' σ' Q) : V M N1 pc ls (As.reverse ++ .ref b :: rest) N σ Q := by
  intro p l e R s m args below meth c g N0 H locs lsA Zq C hW hS hN hl hret
  obtain ⟨hok, har, hini, hmh, rfl, rfl, hlk, hin, hsel⟩ := hm
  obtain ⟨hx, hbc, hml, hown, hts, hinit, hfr, hlo, hC, hz⟩ := id C
  refine W_size hW hS hN (fun hsz => ?_)
  have hrun := va_runV (p := p) (l := l) (e := e) (R := R) (s := s) (m := m) (args := args) (below := below) (meth := meth) (c := c) (H := H) (locs := locs) (cells := N - N0) (slots := SL N - SL N0) (own := RXs (miC M)) (C := (miN M').cls) (b := gz g + b) (As := As.map (tr g)) (rest := rest.map (tr g)) (g := F0 m pc lsA ((As.reverse ++ .ref b :: rest).map (tr g))) (nL := miL M) (cc := miB M)
    ⟨hx, hbc, hml, hown, hts⟩ (hcon.2 l g)
    (cwV (bytes := miB M') (maxL := miL M') (ret := miR M') (ws' := UW) n hts (goodIn_app (gW (fun w hw => by
        simp only [List.mem_cons, List.not_mem_nil, or_false] at hw
        rcases hw with e | e | e | e <;> rw [e] <;> assumption)) (gW (Wx_in hok))) rfl rfl rfl ⟨rfl, hmh.1, hmh.2, har⟩ (rmOK hlv hfr hlo hok.2.2.2 N N'))
    ⟨PP_blind g N σ _, by
        have hcc := va_recv (q0 := b) (a := gz g + b) (fs := (List.range (nFs (miC M'))).map (fun k => tr g (gv σ b (miC M') k))) hC.1 hW.2 (clAt _ hcl) (by rw [wl_at hb, cel_o hs])
        rw [hok.2.2.1]
        exact hcc, fun U hU hWU => ⟨by simp [tr], by rw [hU]; exact hW, Cx.at hC hz hS hU hWU, by rw [hU]; exact hsz⟩⟩
    rfl (by rw [List.length_map]; exact hn) hl.1 (by simp [tr]) (cat_le hc) hd (rest_ok (g := g) hN ⟨hcon.1, hN'⟩)
  exact V_back ⟨hcon.1, hN'⟩ hk C hS hN hl hret hrun
theorem V_callS (hm : callOK (miC M) i 1 n cl lv M') (hd : decode (miB M) pc = .ok (.invokestatic i, 3)) (hlv : lv < miV M) (hn : As.length = n) (hc : (rest.map fun v => v.category).sum ≤ 8)
    (hN' : N' ≤ N1) {Q' : Option Value → Sto → Prop} (hcon : Con M' N N' σ As Q') (hk : ∀ v σ', Q' v σ' → V M N1 (pc + 3) ls (v.toList ++ rest) N' σ' Q) : V M N1 pc ls (As.reverse ++ rest) N σ Q := by
  intro p l e R s m args below meth c g N0 H locs lsA Zq C hW hS hN hl hret
  obtain ⟨hok, har, hini, hmh, rfl, rfl, hlk, hst⟩ := hm
  obtain ⟨hx, hbc, hml, hown, hts, hinit, hfr, hlo, hC, hz⟩ := id C
  refine W_size hW hS hN (fun hsz => ?_)
  have hrun := va_runS (p := p) (l := l) (e := e) (R := R) (s := s) (m := m) (args := args) (below := below) (meth := meth) (c := c) (H := H) (locs := locs) (cells := N - N0) (slots := SL N - SL N0) (own := RXs (miC M)) (As := As.map (tr g)) (rest := rest.map (tr g)) (g := F0 m pc lsA ((As.reverse ++ rest).map (tr g))) (nL := miL M) (cc := miB M)
    ⟨hx, hbc, hml, hown, hts⟩ (hcon.2 l g)
    ⟨callB_of (bytes := miB M') (maxL := miL M') (ret := miR M') (ws' := UW) n hts (gW (Wx_in hok)) rfl rfl rfl (hts _ hini) (hts _ hlk) ⟨hmh.1, hmh.2, har⟩ (rmOK hlv hfr hlo hok.2.2.2 N N'), hts _ hst⟩
    ⟨PP_blind g N σ _, fun U hU hWU => ⟨rfl, by rw [hU]; exact hW, Cx.at hC hz hS hU hWU, by rw [hU]; exact hsz⟩⟩
    rfl (by rw [List.length_map]; exact hn) hl.1 (by simp) (cat_le hc) hd (rest_ok (g := g) hN ⟨hcon.1, hN'⟩)
  exact V_back ⟨hcon.1, hN'⟩ hk C hS hN hl hret hrun
theorem V_callI (hm : callOK (miC M) i 2 n cl lv M') (hd : decode (miB M) pc = .ok (.invokespecial i, 3)) (hlv : lv < miV M) (hn : As.length = n) (hc : (rest.map fun v => v.category).sum ≤ 8)
    (hN' : N' ≤ N1) {Q' : Option Value → Sto → Prop} (hcon : Con M' N N' σ (.ref b :: As) Q') (hk : ∀ v σ', Q' v σ' → V M N1 (pc + 3) ls (v.toList ++ rest) N' σ' Q) : V M N1 pc ls (As.reverse ++ .ref b :: rest) N σ Q := by
  intro p l e R s m args below meth c g N0 H locs lsA Zq C hW hS hN hl hret
  obtain ⟨hok, har, hini, hmh, rfl, rfl, hlk, hin, hnm, hrn⟩ := hm
  obtain ⟨hx, hbc, hml, hown, hts, hinit, hfr, hlo, hC, hz⟩ := id C
  refine W_size hW hS hN (fun hsz => ?_)
  have hrun := va_runI (p := p) (l := l) (e := e) (R := R) (s := s) (m := m) (args := args) (below := below) (meth := meth) (c := c) (H := H) (locs := locs) (cells := N - N0) (slots := SL N - SL N0) (own := RXs (miC M)) (b := gz g + b) (As := As.map (tr g)) (rest := rest.map (tr g)) (g := F0 m pc lsA ((As.reverse ++ .ref b :: rest).map (tr g))) (nL := miL M) (cc := miB M)
    ⟨hx, hbc, hml, hown, hts⟩ (hcon.2 l g)
    (cwI (bytes := miB M') (maxL := miL M') (ws' := UW) n hts (gW (Wx_in hok)) (by rw [Wx, hrn]) rfl rfl (hts _ hini) (hts _ hlk) (hts _ hin) hnm ⟨hmh.1, hmh.2, har⟩ (rmOK hlv hfr hlo hok.2.2.2 N N'))
    ⟨PP_blind g N σ _, fun U hU hWU => ⟨by simp [tr], by rw [hU]; exact hW, Cx.at hC hz hS hU hWU, by rw [hU]; exact hsz⟩⟩
    rfl (by rw [List.length_map]; exact hn) hl.1 (by simp [tr]) (cat_le hc) hd (rest_ok (g := g) hN ⟨hcon.1, hN'⟩)
  exact V_back ⟨hcon.1, hN'⟩ hk C hS hN hl hret hrun
theorem V_callSN (hm : callOK (miC M) i 3 n cl lv M') (hd : decode (miB M) pc = .ok (.invokestatic i, 3)) (hlv : lv < miV M) (hn : As.length = n) (hc : (rest.map fun v => v.category).sum ≤ 8)
    (hN' : N' ≤ N1) {Q' : Option Value → Sto → Prop} (hcon : Con M' N N' σ As Q') (hk : ∀ v σ', Q' v σ' → V M N1 (pc + 3) ls (v.toList ++ rest) N' σ' Q) : V M N1 pc ls (As.reverse ++ rest) N σ Q := by
  intro p l e R s m args below meth c g N0 H locs lsA Zq C hW hS hN hl hret
  obtain ⟨hok, har, hini, hmh, rfl, rfl, hlk, hst⟩ := hm
  obtain ⟨hx, hbc, hml, hown, hts, hinit, hfr, hlo, hC, hz⟩ := id C
  refine W_size hW hS hN (fun hsz => ?_)
  have hrun := va_runSN (p := p) (l := l) (e := e) (R := R) (s := s) (m := m) (args := args) (below := below) (meth := meth) (c := c) (H := H) (locs := locs) (cells := N - N0) (slots := SL N - SL N0) (own := RXs (miC M)) (host := RX7) (As := As.map (tr g)) (rest := rest.map (tr g)) (g := F0 m pc lsA ((As.reverse ++ rest).map (tr g))) (nL := miL M) (cc := miB M)
    ⟨hx, hbc, hml, hown, hts⟩ (hcon.2 l g)
    ⟨va_cnB (bytes := miB M') (maxL := miL M') (ret := miR M') (ws' := UW) n hts (gW (Wx_in hok)) rfl rfl rfl (hC.2.1 _ hlk) (hts _ hini) ⟨hmh.1, hmh.2, har⟩ (rmOK hlv hfr hlo hok.2.2.2 N N'), hts _ hst, trivial⟩
    ⟨PP_blind g N σ _, fun U hU hWU => ⟨rfl, by rw [hU]; exact hW, Cx.at hC hz hS hU hWU, by rw [hU]; exact hsz⟩⟩
    rfl (by rw [List.length_map]; exact hn) hl.1 (by simp) (cat_le hc) hd (rest_ok (g := g) hN ⟨hcon.1, hN'⟩)
  exact V_back ⟨hcon.1, hN'⟩ hk C hS hN hl hret hrun
theorem V_callIN (hm : callOK (miC M) i 4 n cl lv M') (hd : decode (miB M) pc = .ok (.invokespecial i, 3)) (hlv : lv < miV M) (hn : As.length = n) (hc : (rest.map fun v => v.category).sum ≤ 8)
    (hN' : N' ≤ N1) {Q' : Option Value → Sto → Prop} (hcon : Con M' N N' σ (.ref b :: As) Q') (hk : ∀ v σ', Q' v σ' → V M N1 (pc + 3) ls (v.toList ++ rest) N' σ' Q) : V M N1 pc ls (As.reverse ++ .ref b :: rest) N σ Q := by
  intro p l e R s m args below meth c g N0 H locs lsA Zq C hW hS hN hl hret
  obtain ⟨hok, har, hini, hmh, rfl, rfl, hlk, hin, hnm, hrn⟩ := hm
  obtain ⟨hx, hbc, hml, hown, hts, hinit, hfr, hlo, hC, hz⟩ := id C
  refine W_size hW hS hN (fun hsz => ?_)
  have hrun := va_runIN (p := p) (l := l) (e := e) (R := R) (s := s) (m := m) (args := args) (below := below) (meth := meth) (c := c) (H := H) (locs := locs) (cells := N - N0) (slots := SL N - SL N0) (own := RXs (miC M)) (host := RX7) (b := gz g + b) (As := As.map (tr g)) (rest := rest.map (tr g)) (g := F0 m pc lsA ((As.reverse ++ .ref b :: rest).map (tr g))) (nL := miL M) (cc := miB M)
    ⟨hx, hbc, hml, hown, hts⟩ (hcon.2 l g)
    ⟨va_cnB (bytes := miB M') (maxL := miL M') (ret := none) (ws' := UW) n hts (gW (Wx_in hok)) (by rw [Wx, hrn]) rfl rfl (hC.2.1 _ hlk) (hts _ hini) ⟨hmh.1, hmh.2, har⟩ (rmOK hlv hfr hlo hok.2.2.2 N N'), hnm, hts _ hin⟩
    ⟨PP_blind g N σ _, fun U hU hWU => ⟨by simp [tr], by rw [hU]; exact hW, Cx.at hC hz hS hU hWU, by rw [hU]; exact hsz⟩⟩
    rfl (by rw [List.length_map]; exact hn) hl.1 (by simp [tr]) (cat_le hc) hd (rest_ok (g := g) hN ⟨hcon.1, hN'⟩)
  exact V_back ⟨hcon.1, hN'⟩ hk C hS hN hl hret hrun
end CALLS
