/-! ROWS that make cells -/
def newR (σ : Sto) (i : Nat) (f : Int → Option Nat) : Sto := (fun a => if a = i then fun _ => 0 else σ.1 a, fun a => if a = i then f else σ.2.1 a, σ.2.2)
theorem newR_1 {σ : Sto} {i : Nat} {f : Int → Option Nat} : (newR σ i f).1 i = fun _ => 0 := if_pos rfl
theorem newR_2 {σ : Sto} {i : Nat} {f : Int → Option Nat} : (newR σ i f).2.1 i = f := if_pos rfl
theorem newR_o {σ : Sto} {i j : Nat} {f : Int → Option Nat} (h : j ≠ i) : (newR σ i f).1 j = σ.1 j ∧ (newR σ i f).2.1 j = σ.2.1 j := ⟨if_neg h, if_neg h⟩
theorem W_new {p : Program} {l : Launch} {e : Env} {R : Room} {s : State} {m : MethodId} {args : Array Value} {below : List Frame} {meth : Method} {c : Code} {g : Gam} {N N0 N1 sl q : Nat} {H : Heap} {locs : List Loc} {Zq : State → Prop} {F : JFrame} {σ : Sto} {el : va_E}
    (hP : va_P (gD g) vwCl (wl g N σ ++ [(q, el)]) H) (hD : va_D (fun q => gz g ≤ q) (wl g N σ ++ [(q, el)])) (hN : N0 ≤ N ∧ N ≤ N1 ∧ N1 - N0 ≤ R.cells ∧ SL N1 - SL N0 ≤ R.slots ∧ s.heap.size = gz g + N0) (k : q = gz g + N → W p l e R s m args below meth c H locs (N - N0 + 1) sl Zq F) : W p l e R s m args below meth c H locs (N - N0 + 1) sl Zq F := by
  intro T hT X
  have h1 := X.heapSize
  rw [hT] at h1
  have hlen : (wl g N σ).length = N := by simp [wl]
  have hq : (wl g N σ ++ [(q, el)])[N]? = some (q, el) := by
    rw [List.getElem?_append_right (by omega), hlen, Nat.sub_self]
    rfl
  have h2 := (hP N _ hq).lt
  have h3 := hD.2 N _ hq
  have h4 : gz g ≤ q := h3
  have h5 : q < H.size := h2
  have h6 := hN.2.2.2.2
  have h7 := hN.1
  refine k ?_ T hT X
  rcases Nat.lt_or_ge q (gz g + N) with y | y
  · exfalso
    have hi : (wl g N σ ++ [(q, el)])[q - gz g]? = some (gz g + (q - gz g), cel g σ (q - gz g)) := by rw [List.getElem?_append_left (by omega), wl_at (by omega)]
    have z := hD.1 (q - gz g) N _ _ hi hq (by show gz g + (q - gz g) = q; omega)
    omega
  · omega
theorem Wd_new {g : Gam} {N : Nat} {σ σ' : Sto} {H1 : Heap} (hc : σ'.2.2 = σ.2.2) (hg : (gr g).2 = σ.2.2) (hP : va_P (gD g) vwCl (wl g N σ ++ [(gz g + N, cel g σ' N)]) H1) (ho : ∀ j, j ≠ N → σ'.1 j = σ.1 j ∧ σ'.2.1 j = σ.2.1 j) : Wd g (N + 1) σ' H1 := by
  refine ⟨by rw [hc]; exact hg, ?_⟩
  have e : wl g N σ' = wl g N σ := by
    unfold wl
    apply List.map_congr_left
    intro i hi
    rw [List.mem_range] at hi
    rw [cel_congr (ho i (by omega)).1 (ho i (by omega)).2]
  rw [wl_push, e]
  exact hP
theorem va_P_last {D : va_G} {cl : List vw_C} {ws : va_W} {q : Nat} {cA : ClassId} {a a' : vp_A} {H : Heap} (h : va_P D cl (ws ++ [(q, .inl (cA, a))]) H) (e : vp_cell cA a = vp_cell cA a') : va_P D cl (ws ++ [(q, .inl (cA, a'))]) H := by
  intro k x hx
  rcases Nat.lt_or_ge k ws.length with y | y
  · exact h k x (by rw [List.getElem?_append_left y] at hx ⊢; exact hx)
  · rw [List.getElem?_append_right y] at hx
    have hz : k - ws.length < 1 := (List.getElem?_eq_some_iff.mp hx).1
    rw [show k - ws.length = 0 by omega] at hx
    cases hx
    have h1 := h k (q, .inl (cA, a)) (by rw [List.getElem?_append_right y, show k - ws.length = 0 by omega]; rfl)
    have h2 : H[q]? = some (vp_cell cA a) := h1
    show H[q]? = some (vp_cell cA a')
    rw [← e]
    exact h2
section NEWS
variable {M : MI} {N N1 pc : Nat} {ls : List (Nat × Value)} {st : List Value} {Q : Option Value → Sto → Prop} {σ : Sto} {ix ci n k : Nat}
theorem SL_room {R : Room} {N N0 N1 : Nat} {z : Prop} (hN1 : N < N1) (hN : N0 ≤ N ∧ N ≤ N1 ∧ N1 - N0 ≤ R.cells ∧ SL N1 - SL N0 ≤ R.slots ∧ z) (sz : Nat) (hs : szs N = sz) : (N - N0 + 1 ≤ R.cells ∧ SL N - SL N0 + sz ≤ R.slots) ∧ N - N0 + 1 = N + 1 - N0 ∧ SL N - SL N0 + sz = SL (N + 1) - SL N0 := by
  have m1 := SL_mono hN.1
  have m2 := SL_mono (show N + 1 ≤ N1 by omega)
  have e : SL (N + 1) = SL N + szs N := rfl
  omega
theorem okT_dfl : ∀ ty : FieldType, (match ty with | .int | .boolean | .object _ | .array _ => True | _ => False) → defaultValue ty = if isRf ty = true then .null else zI 0 := by
  intro ty h
  cases ty <;> first | rfl | exact h.elim
theorem okT_all : ∀ c, c < 8 → ∀ k, k < nFs c → (match tyXs c k with | .int | .boolean | .object _ | .array _ => True | _ => False) := by
  have key : ∀ c, c < 8 → ∀ k, k < nFs c → (match tyXs c k with | .int | .boolean | .object _ | .array _ => true | _ => false) = true := by decide +kernel
  intro c hc k hk
  have h := key c hc k hk
  revert h
  cases tyXs c k <;> simp
theorem V_new (hcl : clsR (miC M) ix = some ci) (hd : decode (miB M) pc = .ok (.new ix, 3)) (hs : sh N = (0, ci)) (hN1 : N < N1) (kk : V M N1 (pc + 3) ls (.ref N :: st) (N + 1) (newR σ N (fun _ => none)) Q) : V M N1 pc ls st N σ Q := by
  intro p l e R s m args below meth c g N0 H locs lsA Zq C hW hS hN hl hret
  obtain ⟨h9, hlk⟩ := clsOK hcl
  have hsz : szs N = nFs ci := by unfold szs; rw [hs]; rfl
  obtain ⟨⟨r1, r2⟩, r3, r4⟩ := SL_room (R := R) hN1 ⟨hN.1, hN.2.1, hN.2.2.1, hN.2.2.2.1, hN.2.2.2.2⟩ (nFs ci) hsz
  refine va_new (D := gD g) (ci := ci) (fs := (List.range (nFs ci)).map (fun k => tr g (gv (newR σ N (fun _ => none)) N ci k))) (C := RXs ci) (T := TXs ci) (N := nFs ci) C.1 C.2.1 C.2.2.2.2.1 (layUW ci h9) (tyXs ci) (tyOk ci h9) C.2.2.2.1 (C.2.2.2.2.1 _ hlk) (C.2.2.2.2.1 _ (insUW ci h9)) (C.2.2.2.2.1 _ (iniUW ci h9)) C.2.2.2.2.2.2.2.2.1.1 hW.2 (wl_D g N σ) hS (fun q hq => Nat.le_trans C.2.2.2.2.2.2.2.2.2 hq) (clAt ci h9) (fun j hj => ?_) r1 r2 hd (fun q H1 hP hD hS1 => ?_)
  · rw [okT_dfl _ (okT_all ci h9 j hj)]
    unfold vp_V
    rw [List.getD_eq_getElem?_getD]
    simp only [List.getElem?_map, List.getElem?_range hj, Option.map_some, Option.getD_some]
    unfold gv
    rw [newR_1, newR_2]
    split <;> rfl
  · refine W_new hP hD hN (fun hq => ?_)
    subst hq
    rw [r3, r4]
    exact kk p l e R s m args below meth c g N0 H1 locs lsA Zq C (Wd_new (σ := σ) (σ' := newR σ N (fun _ => none)) rfl hW.1 (by rw [cel_o hs]; exact hP) (fun j hj => newR_o hj)) hS1 ⟨by have := hN.1; omega, by omega, hN.2.2.1, hN.2.2.2.1, hN.2.2.2.2⟩ hl hret
theorem V_newi (hd : decode (miB M) pc = .ok (.newarray .int, 2)) (hs : sh N = (1, n)) (hn : n < 1000) (hN1 : N < N1) (kk : V M N1 (pc + 2) ls (.ref N :: st) (N + 1) (newR σ N (fun _ => none)) Q) : V M N1 pc ls (zI (n : Int) :: st) N σ Q := by
  intro p l e R s m args below meth c g N0 H locs lsA Zq C hW hS hN hl hret
  have hsz : szs N = n := by unfold szs; rw [hs]; rfl
  obtain ⟨⟨r1, r2⟩, r3, r4⟩ := SL_room (R := R) hN1 ⟨hN.1, hN.2.1, hN.2.2.1, hN.2.2.2.1, hN.2.2.2.2⟩ n hsz
  have hK := C.2.2.2.2.2.2.2.2.1.1
  have ez := zi_cl (e := (n : Int)) (by omega)
  refine va_newa (atype := .int) (D := gD g) (a0 := (n, .inl (zf (fun _ => 0)))) (N' := n) C.1 C.2.1 (C.2.2.2.2.1 _ uac_int) (ty := .int) rfl hK hW.2 (wl_D g N σ) hS (fun q hq => Nat.le_trans C.2.2.2.2.2.2.2.2.2 hq) (fun cA => rfl) (fun z => by have := (zi_lt (x := (n : Int)) (y := 0) (by omega) (by decide)).mp z; omega) (by omega) (by rw [show componentBytes .int = 4 by decide]; omega) r1 r2 hd (fun q cA H1 hK1 hP hD hS1 => ?_)
  have h0 : s.vm.findClass ("[" ++ (FieldType.int).toString) = some (gC g 0) := (hK.2 0 (gC g 0, .int) rfl).2
  have h1 : s.vm.findClass ("[" ++ (FieldType.int).toString) = some cA := (hK1.2 4 (cA, .int) rfl).2
  obtain rfl : gC g 0 = cA := Option.some.inj (h0.symm.trans h1)
  refine W_new hP hD hN (fun hq => ?_)
  subst hq
  rw [r3, r4]
  exact kk p l e R s m args below meth c g N0 H1 locs lsA Zq C (Wd_new (σ := σ) (σ' := newR σ N (fun _ => none)) rfl hW.1 (by rw [cel_i hs, newR_1]; exact hP) (fun j hj => newR_o hj)) hS1 ⟨by have := hN.1; omega, by omega, hN.2.2.1, hN.2.2.2.1, hN.2.2.2.2⟩ hl hret
theorem V_newc (hd : decode (miB M) pc = .ok (.newarray .char, 2)) (hs : sh N = (2, n)) (hn : n < 1000) (hN1 : N < N1) (kk : V M N1 (pc + 2) ls (.ref N :: st) (N + 1) (newR σ N (fun _ => none)) Q) : V M N1 pc ls (zI (n : Int) :: st) N σ Q := by
  intro p l e R s m args below meth c g N0 H locs lsA Zq C hW hS hN hl hret
  have hsz : szs N = n := by unfold szs; rw [hs]; rfl
  obtain ⟨⟨r1, r2⟩, r3, r4⟩ := SL_room (R := R) hN1 ⟨hN.1, hN.2.1, hN.2.2.1, hN.2.2.2.1, hN.2.2.2.2⟩ n hsz
  have hK := C.2.2.2.2.2.2.2.2.1.1
  have ez := zi_cl (e := (n : Int)) (by omega)
  refine va_newa (atype := .char) (D := gD g) (a0 := (n, .inl (zf (fun _ => 0)))) (N' := n) C.1 C.2.1 (C.2.2.2.2.1 _ uac_char) (ty := .char) rfl hK hW.2 (wl_D g N σ) hS (fun q hq => Nat.le_trans C.2.2.2.2.2.2.2.2.2 hq) (fun cA => rfl) (fun z => by have := (zi_lt (x := (n : Int)) (y := 0) (by omega) (by decide)).mp z; omega) (by omega) (by rw [show componentBytes .char = 2 by decide]; omega) r1 r2 hd (fun q cA H1 hK1 hP hD hS1 => ?_)
  have h0 : s.vm.findClass ("[" ++ (FieldType.char).toString) = some (gC g 1) := (hK.2 1 (gC g 1, .char) rfl).2
  have h1 : s.vm.findClass ("[" ++ (FieldType.char).toString) = some cA := (hK1.2 4 (cA, .char) rfl).2
  obtain rfl : gC g 1 = cA := Option.some.inj (h0.symm.trans h1)
  refine W_new hP hD hN (fun hq => ?_)
  subst hq
  rw [r3, r4]
  exact kk p l e R s m args below meth c g N0 H1 locs lsA Zq C (Wd_new (σ := σ) (σ' := newR σ N (fun _ => none)) rfl hW.1 (by rw [cel_c hs, newR_1]; exact hP) (fun j hj => newR_o hj)) hS1 ⟨by have := hN.1; omega, by omega, hN.2.2.1, hN.2.2.2.1, hN.2.2.2.2⟩ hl hret
theorem V_anew (f : Int → Option Nat) (hk : k = 1 ∨ k = 4) (hcl : clsR (miC M) ix = some k) (hd : decode (miB M) pc = .ok (.anewarray ix, 3)) (hs : sh N = (k + 3, n)) (hn : n < 1000) (hf : ∀ j : Nat, j < n → f (j : Int) = none) (hN1 : N < N1) (kk : V M N1 (pc + 3) ls (.ref N :: st) (N + 1) (newR σ N f) Q) : V M N1 pc ls (zI (n : Int) :: st) N σ Q := by
  intro p l e R s m args below meth c g N0 H locs lsA Zq C hW hS hN hl hret
  obtain ⟨h9, hlk⟩ := clsOK hcl
  have hsz : szs N = n := by unfold szs; rw [hs]; rfl
  obtain ⟨⟨r1, r2⟩, r3, r4⟩ := SL_room (R := R) hN1 ⟨hN.1, hN.2.1, hN.2.2.1, hN.2.2.2.1, hN.2.2.2.2⟩ n hsz
  have hCx := C.2.2.2.2.2.2.2.2.1
  have hK := hCx.1
  have hAO : va_AO (RXs k) s := by
    rcases hk with rfl | rfl
    · exact hCx.2.2.2.1
    · exact hCx.2.2.2.2.1
  have ez := zi_cl (e := (n : Int)) (by omega)
  refine va_newq (D := gD g) (N' := n) C.1 C.2.1 C.2.2.2.1 (C.2.2.2.2.1 _ hlk) hAO hK hW.2 (wl_D g N σ) hS (fun q hq => Nat.le_trans C.2.2.2.2.2.2.2.2.2 hq) (fun z => by have := (zi_lt (x := (n : Int)) (y := 0) (by omega) (by decide)).mp z; omega) (by omega) (by omega) r1 r2 hd (fun q cA H1 hK1 hP hD hS1 => ?_)
  obtain ⟨t0, ht⟩ := tyAt (g := g) hk
  obtain ⟨_, _, _, _, _, h0⟩ := (hK.2 t0 _ ht).2
  obtain ⟨_, _, _, _, _, h1⟩ := (hK1.2 4 (cA, .object (RXs k)) rfl).2
  obtain rfl : gC g (k + 2) = cA := Option.some.inj (h0.symm.trans h1)
  refine W_new hP hD hN (fun hq => ?_)
  subst hq
  rw [r3, r4]
  refine kk p l e R s m args below meth c g N0 H1 locs lsA Zq C (Wd_new (σ := σ) (σ' := newR σ N f) rfl hW.1 (by
    rw [cel_q hs, newR_2]
    refine va_P_last hP ?_
    rw [vp_cell_q, vp_cell_q]
    unfold arrV
    congr 2
    funext j
    show va_rf none = va_rf ((f (j.val : Int)).map _)
    rw [hf j.val j.isLt]
    rfl) (fun j hj => newR_o hj)) hS1 ⟨by have := hN.1; omega, by omega, hN.2.2.1, hN.2.2.2.1, hN.2.2.2.2⟩ hl hret
end NEWS
