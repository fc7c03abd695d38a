/-! ROWS over the heap -/
def up2 {α : Type} (f : Nat → Int → α) (i : Nat) (k : Int) (v : α) : Nat → Int → α := fun a b => if a = i ∧ b = k then v else f a b
def up1 {α : Type} (f : Int → α) (k : Int) (v : α) : Int → α := fun b => if b = k then v else f b
def setI (σ : Sto) (i : Nat) (k : Int) (x : Int) : Sto := (up2 σ.1 i k x, σ.2)
def setR (σ : Sto) (i : Nat) (k : Int) (r : Option Nat) : Sto := (σ.1, up2 σ.2.1 i k r, σ.2.2)
def setA (σ : Sto) (i : Nat) (f : Int → Int) : Sto := (fun a => if a = i then f else σ.1 a, σ.2)
/-- a cell made new -/
def clr (σ : Sto) (i : Nat) : Sto := (fun a => if a = i then fun _ => 0 else σ.1 a, fun a => if a = i then fun _ => none else σ.2.1 a, σ.2.2)
theorem cel_congr {g : Gam} {σ σ' : Sto} {j : Nat} (h1 : σ'.1 j = σ.1 j) (h2 : σ'.2.1 j = σ.2.1 j) : cel g σ' j = cel g σ j := by
  unfold cel gv
  rw [h1, h2]
theorem up2_ne {α : Type} {f : Nat → Int → α} {i j : Nat} {k : Int} {v : α} (h : j ≠ i) : up2 f i k v j = f j := by
  funext b
  unfold up2
  rw [if_neg (fun z => h z.1)]
theorem up2_at {α : Type} {f : Nat → Int → α} {i : Nat} {k : Int} {v : α} : up2 f i k v i = up1 (f i) k v := by
  funext b
  unfold up2 up1
  by_cases hb : b = k
  · rw [if_pos ⟨rfl, hb⟩, if_pos hb]
  · rw [if_neg (fun z => hb z.2), if_neg hb]
theorem up1_at {α : Type} {f : Int → α} {k : Int} {v : α} : up1 f k v k = v := if_pos rfl
theorem up1_ne {α : Type} {f : Int → α} {k j : Int} {v : α} (h : j ≠ k) : up1 f k v j = f j := if_neg h
theorem map_range_set {n k : Nat} {f g : Nat → Value} {v : Value} (hk : g k = v) (ho : ∀ j, j ≠ k → g j = f j) : ((List.range n).map f).set k v = (List.range n).map g := by
  apply List.ext_getElem?
  intro j
  by_cases hj : k = j
  · subst hj
    rcases Nat.lt_or_ge k n with h | h
    · rw [List.getElem?_set_self (by simpa using h)]
      simp [h, hk]
    · rw [List.getElem?_eq_none (by simpa using h), List.getElem?_eq_none (by simpa using h)]
  · rw [List.getElem?_set_ne hj]
    rcases Nat.lt_or_ge j n with h | h
    · simp [h, ho j (Ne.symm hj)]
    · rw [List.getElem?_eq_none (by simpa using h), List.getElem?_eq_none (by simpa using h)]
theorem tyAt {g : Gam} {k : Nat} (hk : k = 1 ∨ k = 4) : ∃ t0 : Nat, (tyL (gC g))[t0]? = some (gC g (k + 2), .object (RXs k)) := by
  rcases hk with rfl | rfl
  · exact ⟨2, rfl⟩
  · exact ⟨3, rfl⟩
section HEAP
variable {M : MI} {N N1 pc : Nat} {ls : List (Nat × Value)} {st : List Value} {Q : Option Value → Sto → Prop} {σ : Sto} {i ix ci k n : Nat}
theorem V_getV (hf : fldR (miC M) ix = some (ci, k)) (hd : decode (miB M) pc = .ok (.getfield ix, 3)) (hi : i < N) (hs : sh i = (0, ci)) (kk : V M N1 (pc + 3) ls (gv σ i ci k :: st) N σ Q) : V M N1 pc ls (.ref i :: st) N σ Q := by
  intro p l e R s m args below meth c g N0 H locs lsA Zq C hW hS hN hl hret
  obtain ⟨h9, hk, hlk⟩ := fldOK hf
  exact va_get (D := gD g) (ci := ci) (v := tr g (gv σ i ci k)) (fs := (List.range (nFs ci)).map (fun k => tr g (gv σ i ci k))) (C := RXs ci) (T := TXs ci) (N := nFs ci) C.1 C.2.1 C.2.2.2.2.1 (layUW ci h9) C.2.2.2.1 C.2.2.2.2.2.2.2.2.1.1 hW.2 i (by rw [wl_at hi, cel_o hs]) (clAt ci h9) k hk (C.2.2.2.2.1 _ hlk) (fun _ h => h) (by simp [hk]) hd
    (kk p l e R s m args below meth c g N0 H locs lsA Zq C hW hS hN hl hret)
theorem V_get {q : Int} (hf : fldR (miC M) ix = some (ci, k)) (hd : decode (miB M) pc = .ok (.getfield ix, 3)) (ht : isRf (tyXs ci k) = false) (hq : (k : Int) = q) (hi : i < N) (hs : sh i = (0, ci)) (kk : V M N1 (pc + 3) ls (zI (σ.1 i q) :: st) N σ Q) : V M N1 pc ls (.ref i :: st) N σ Q := by
  subst hq
  refine V_getV hf hd hi hs ?_
  rw [show gv σ i ci k = zI (σ.1 i (k : Int)) by unfold gv; rw [ht]; rfl]
  exact kk
theorem V_getR {q : Int} {j : Nat} (hf : fldR (miC M) ix = some (ci, k)) (hd : decode (miB M) pc = .ok (.getfield ix, 3)) (ht : isRf (tyXs ci k) = true) (hq : (k : Int) = q) (hi : i < N) (hs : sh i = (0, ci)) (hr : σ.2.1 i q = some j) (kk : V M N1 (pc + 3) ls (.ref j :: st) N σ Q) : V M N1 pc ls (.ref i :: st) N σ Q := by
  subst hq
  refine V_getV hf hd hi hs ?_
  rw [show gv σ i ci k = .ref j by unfold gv; rw [ht, if_pos rfl, hr]; rfl]
  exact kk
/-- behind a write of one cell -/
theorem Wd_set {g : Gam} {σ σ' : Sto} {H1 : Heap} {e : va_E} (hc : σ'.2.2 = σ.2.2) (hg : (gr g).2 = σ.2.2) (hP : va_P (gD g) vwCl ((wl g N σ).set i (gz g + i, e)) H1) (he : cel g σ' i = e) (ho : ∀ j, j ≠ i → σ'.1 j = σ.1 j ∧ σ'.2.1 j = σ.2.1 j) : Wd g N σ' H1 := by
  refine ⟨by rw [hc]; exact hg, ?_⟩
  rw [wl_set he (fun j hj => cel_congr (ho j hj).1 (ho j hj).2)] at hP
  exact hP
theorem V_put {x q : Int} (hf : fldR (miC M) ix = some (ci, k)) (hd : decode (miB M) pc = .ok (.putfield ix, 3)) (ht : isRf (tyXs ci k) = false) (hq : (k : Int) = q) (hn : narrow (tyXs ci k) (zI x) = zI x) (hfit : fits (tyXs ci k) (zI x) = true) (hfin : (TXs ci k).2.2.2 = false) (hi : i < N) (hs : sh i = (0, ci))
    (kk : V M N1 (pc + 3) ls st N (setI σ i q x) Q) : V M N1 pc ls (zI x :: .ref i :: st) N σ Q := by
  subst hq
  intro p l e R s m args below meth c g N0 H locs lsA Zq C hW hS hN hl hret
  obtain ⟨h9, hk, hlk⟩ := fldOK hf
  refine va_put (D := gD g) (ci := ci) (v := zI x) (ty := tyXs ci k) (fs := (List.range (nFs ci)).map (fun k => tr g (gv σ i ci k))) (C := RXs ci) (T := TXs ci) (N := nFs ci) C.1 C.2.1 C.2.2.2.2.1 (layUW ci h9) (tyXs ci) (tyOk ci h9) (nmOk ci h9) C.2.2.2.1 C.2.2.2.2.2.2.2.2.1.1 hW.2 (wl_D g N σ) hS i (by rw [wl_at hi, cel_o hs]) (clAt ci h9) k hk (C.2.2.2.2.1 _ hlk) (fun _ h => h) hfin (tyOk ci h9 k hk) hn hfit (by simpa using hk) hd (fun H1 locs1 hP _ hS1 => ?_)
  refine kk p l e R s m args below meth c g N0 H1 locs1 lsA Zq C (Wd_set (σ := σ) rfl hW.1 hP ?_ (fun j hj => ⟨up2_ne hj, rfl⟩)) hS1 hN hl hret
  rw [cel_o hs, map_range_set (g := fun k' => tr g (gv (setI σ i (k : Int) x) i ci k'))]
  · unfold gv
    rw [ht]
    show zI (up2 σ.1 i (k : Int) x i (k : Int)) = _
    rw [up2_at, up1_at]
  · intro j hj
    unfold gv
    show tr g (if isRf (tyXs ci j) = true then rv (σ.2.1 i (j : Int)) else zI (up2 σ.1 i (k : Int) x i (j : Int))) = _
    rw [up2_at, up1_ne (by omega)]
/-- an int field; a boolean one -/
theorem zi_nI {x : Int} : narrow .int (zI x) = zI x ∧ fits .int (zI x) = true := ⟨rfl, rfl⟩
theorem zi_nZ {x : Int} (h : x = 0 ∨ x = 1) : narrow .boolean (zI x) = zI x ∧ fits .boolean (zI x) = true := by
  rcases h with rfl | rfl
  · exact ⟨by decide, by decide⟩
  · exact ⟨by decide, by decide⟩
theorem V_putF {j : Nat} {q : Int} (hf : fldR (miC M) ix = some (ci, k)) (hd : decode (miB M) pc = .ok (.putfield ix, 3)) (ht : isRf (tyXs ci k) = true) (hq : (k : Int) = q) (hfin : (TXs ci k).2.2.2 = true) (hini : (miN M).name = "<init>") (hdecl : (TXs ci k).1 = RXs (miC M)) (hi : i < N) (hs : sh i = (0, ci))
    (kk : V M N1 (pc + 3) ls st N (setR σ i q (some j)) Q) : V M N1 pc ls (.ref j :: .ref i :: st) N σ Q := by
  subst hq
  intro p l e R s m args below meth c g N0 H locs lsA Zq C hW hS hN hl hret
  obtain ⟨h9, hk, hlk⟩ := fldOK hf
  have hnf : narrow (tyXs ci k) (.ref (gz g + j)) = .ref (gz g + j) ∧ fits (tyXs ci k) (.ref (gz g + j)) = true := by
    cases hq : tyXs ci k <;> rw [hq] at ht <;> first | exact ⟨rfl, rfl⟩ | cases ht
  refine va_putF (D := gD g) (ci := ci) (v := .ref (gz g + j)) (ty := tyXs ci k) (fs := (List.range (nFs ci)).map (fun k => tr g (gv σ i ci k))) (C := RXs ci) (T := TXs ci) (N := nFs ci) C.1 C.2.1 C.2.2.2.2.1 (layUW ci h9) (tyXs ci) (tyOk ci h9) (nmOk ci h9) C.2.2.2.1 C.2.2.2.2.2.2.2.2.1.1 hW.2 (wl_D g N σ) hS i (by rw [wl_at hi, cel_o hs]) (clAt ci h9) k hk (C.2.2.2.2.1 _ hlk) (fun _ h => h) hfin (C.2.2.2.2.2.1 hini) hdecl (tyOk ci h9 k hk) hnf.1 hnf.2 (by simpa using hk) hd (fun H1 locs1 hP _ hS1 => ?_)
  refine kk p l e R s m args below meth c g N0 H1 locs1 lsA Zq C (Wd_set (σ := σ) rfl hW.1 hP ?_ (fun j hj => ⟨rfl, up2_ne hj⟩)) hS1 hN hl hret
  rw [cel_o hs, map_range_set (g := fun k' => tr g (gv (setR σ i (k : Int) (some j)) i ci k'))]
  · unfold gv
    rw [ht]
    show tr g (rv (up2 σ.2.1 i (k : Int) (some j) i (k : Int))) = _
    rw [up2_at, up1_at]
    rfl
  · intro j' hj
    unfold gv
    show tr g (if isRf (tyXs ci j') = true then rv (up2 σ.2.1 i (k : Int) (some j) i (j' : Int)) else zI (σ.1 i (j' : Int))) = _
    rw [up2_at, up1_ne (by omega)]
theorem zf_up {f : Nat → Int → Int} {i : Nat} {k x : Int} (h : 0 ≤ k ∧ k < 2147483648) : upd (zf (f i)) (Int32.ofInt k).toNatClampNeg (Int32.ofInt x) = zf (up2 f i k x i) := by
  funext b
  unfold upd zf
  rw [up2_at]
  unfold up1
  have e := zi_cl h
  by_cases hb : (b : Int) = k
  · rw [if_pos (by omega), if_pos hb]
  · rw [if_neg (by omega), if_neg hb]
theorem V_iald {j : Int} (hd : decode (miB M) pc = .ok (.iaload, 1)) (hi : i < N) (hs : sh i = (1, n)) (h0 : 0 ≤ j) (h1 : j < (n : Int)) (hn : n < 2147483648) (kk : V M N1 (pc + 1) ls (zI (σ.1 i j) :: st) N σ Q) : V M N1 pc ls (zI j :: .ref i :: st) N σ Q := by
  intro p l e R s m args below meth c g N0 H locs lsA Zq C hW hS hN hl hret
  refine va_iald (D := gD g) C.1 C.2.1 C.2.2.2.2.2.2.2.2.1.1 hW.2 i 0 (by rw [wl_at hi, cel_i hs]) rfl (zi_in h0 h1 hn) hd ?_
  rw [zf_cl (by omega)]
  exact kk p l e R s m args below meth c g N0 H locs lsA Zq C hW hS hN hl hret
theorem V_cald {j : Int} (hd : decode (miB M) pc = .ok (.caload, 1)) (hi : i < N) (hs : sh i = (2, n)) (h0 : 0 ≤ j) (h1 : j < (n : Int)) (hn : n < 2147483648) (kk : V M N1 (pc + 1) ls (zI (σ.1 i j) :: st) N σ Q) : V M N1 pc ls (zI j :: .ref i :: st) N σ Q := by
  intro p l e R s m args below meth c g N0 H locs lsA Zq C hW hS hN hl hret
  refine va_cald (D := gD g) C.1 C.2.1 C.2.2.2.2.2.2.2.2.1.1 hW.2 i 1 (by rw [wl_at hi, cel_c hs]) rfl (zi_in h0 h1 hn) hd ?_
  rw [zf_cl (by omega)]
  exact kk p l e R s m args below meth c g N0 H locs lsA Zq C hW hS hN hl hret
theorem V_aaldV {j : Int} (hd : decode (miB M) pc = .ok (.aaload, 1)) (hi : i < N) (hs : sh i = (k + 3, n)) (hk : k = 1 ∨ k = 4) (h0 : 0 ≤ j) (h1 : j < (n : Int)) (hn : n < 2147483648) (kk : V M N1 (pc + 1) ls (rv (σ.2.1 i j) :: st) N σ Q) : V M N1 pc ls (zI j :: .ref i :: st) N σ Q := by
  intro p l e R s m args below meth c g N0 H locs lsA Zq C hW hS hN hl hret
  obtain ⟨t0, ht⟩ := tyAt (g := g) hk
  refine va_aldq (D := gD g) C.1 C.2.1 C.2.2.2.2.2.2.2.2.1.1 hW.2 i t0 (by rw [wl_at hi, cel_q hs]) ht (zi_in h0 h1 hn) hd ?_
  have h := kk p l e R s m args below meth c g N0 H locs lsA Zq C hW hS hN hl hret
  rw [List.map_cons, tr_rv] at h
  rw [zi_cl (by omega)]
  exact h
theorem V_aald {j : Int} {r : Nat} (hd : decode (miB M) pc = .ok (.aaload, 1)) (hi : i < N) (hs : sh i = (k + 3, n)) (hk : k = 1 ∨ k = 4) (h0 : 0 ≤ j) (h1 : j < (n : Int)) (hn : n < 2147483648) (hr : σ.2.1 i j = some r) (kk : V M N1 (pc + 1) ls (.ref r :: st) N σ Q) : V M N1 pc ls (zI j :: .ref i :: st) N σ Q := by
  refine V_aaldV hd hi hs hk h0 h1 hn ?_
  rw [hr]
  exact kk
theorem V_iast {j x : Int} (hd : decode (miB M) pc = .ok (.iastore, 1)) (hi : i < N) (hs : sh i = (1, n)) (h0 : 0 ≤ j) (h1 : j < (n : Int)) (hn : n < 2147483648) (kk : V M N1 (pc + 1) ls st N (setI σ i j x) Q) : V M N1 pc ls (zI x :: zI j :: .ref i :: st) N σ Q := by
  intro p l e R s m args below meth c g N0 H locs lsA Zq C hW hS hN hl hret
  refine va_iast (D := gD g) C.1 C.2.1 C.2.2.2.2.2.2.2.2.1.1 hW.2 (wl_D g N σ) hS i 0 (by rw [wl_at hi, cel_i hs]) rfl (zi_in h0 h1 hn) hd (fun H1 locs1 hP _ hS1 => ?_)
  refine kk p l e R s m args below meth c g N0 H1 locs1 lsA Zq C (Wd_set (σ := σ) rfl hW.1 hP ?_ (fun j hj => ⟨up2_ne hj, rfl⟩)) hS1 hN hl hret
  rw [cel_i hs, zf_up (by omega)]
  rfl
theorem V_cast {j x : Int} (hd : decode (miB M) pc = .ok (.castore, 1)) (hi : i < N) (hs : sh i = (2, n)) (h0 : 0 ≤ j) (h1 : j < (n : Int)) (hn : n < 2147483648) (hx : 0 ≤ x ∧ x < 65536) (kk : V M N1 (pc + 1) ls st N (setI σ i j x) Q) : V M N1 pc ls (zI x :: zI j :: .ref i :: st) N σ Q := by
  intro p l e R s m args below meth c g N0 H locs lsA Zq C hW hS hN hl hret
  refine va_cast (D := gD g) C.1 C.2.1 C.2.2.2.2.2.2.2.2.1.1 hW.2 (wl_D g N σ) hS i 1 (by rw [wl_at hi, cel_c hs]) rfl (zi_in h0 h1 hn) hd (fun H1 locs1 hP _ hS1 => ?_)
  refine kk p l e R s m args below meth c g N0 H1 locs1 lsA Zq C (Wd_set (σ := σ) rfl hW.1 hP ?_ (fun j hj => ⟨up2_ne hj, rfl⟩)) hS1 hN hl hret
  rw [cel_c hs, zi_char hx, zf_up (by omega)]
  rfl
theorem V_aast {j : Int} {v : Nat} (hd : decode (miB M) pc = .ok (.aastore, 1)) (hi : i < N) (hs : sh i = (k + 3, n)) (hk : k = 1 ∨ k = 4) (hv : v < N) (hsv : sh v = (0, k)) (h0 : 0 ≤ j) (h1 : j < (n : Int)) (hn : n < 2147483648) (kk : V M N1 (pc + 1) ls st N (setR σ i j (some v)) Q) : V M N1 pc ls (.ref v :: zI j :: .ref i :: st) N σ Q := by
  intro p l e R s m args below meth c g N0 H locs lsA Zq C hW hS hN hl hret
  obtain ⟨t0, ht⟩ := tyAt (g := g) hk
  refine va_astq (D := gD g) (r := (RXs k, TXs k, nFs k)) (v := gz g + v) C.1 C.2.1 C.2.2.2.2.2.2.2.2.1.1 hW.2 (wl_D g N σ) hS i t0 v k (by rw [wl_at hi, cel_q hs]) ht (by rw [wl_at hv, cel_o hsv]) (clAt k (by omega)) (zi_in h0 h1 hn) hd (fun H1 locs1 hP _ hS1 => ?_)
  refine kk p l e R s m args below meth c g N0 H1 locs1 lsA Zq C (Wd_set (σ := σ) rfl hW.1 hP ?_ (fun j hj => ⟨rfl, up2_ne hj⟩)) hS1 hN hl hret
  rw [cel_q hs]
  congr 7
  funext b
  show Option.map _ (up2 σ.2.1 i j (some v) i (b : Int)) = va_up _ _ _ b
  rw [up2_at]
  unfold va_up up1
  have e := zi_cl (e := j) (by omega)
  by_cases hb : (b : Int) = j
  · rw [if_pos hb, if_pos (by omega)]; rfl
  · rw [if_neg hb, if_neg (by omega)]
theorem V_sti {j : Int} {q : Nat} (hd : decode (miB M) pc = .ok (.iaload, 1)) (hq : q < 3) (h0 : 0 ≤ j) (h1 : j < 6) (kk : V M N1 (pc + 1) ls (zI (stV q j.toNat).toInt :: st) N σ Q) : V M N1 pc ls (zI j :: .retAddr q :: st) N σ Q := by
  intro p l e R s m args below meth c g N0 H locs lsA Zq C hW hS hN hl hret
  refine va_ti C.1 C.2.1 (C.2.2.2.2.2.2.2.2.1.2.2.2.2.2.1 q hq).2 hS (zi_in h0 h1 (by decide)) rfl hd ?_
  have h := kk p l e R s m args below meth c g N0 H locs lsA Zq C hW hS hN hl hret
  have e1 := zi_cl (e := j) (by omega)
  rw [show (Int32.ofInt j).toNatClampNeg = j.toNat by omega]
  rw [show zI (stV q j.toNat).toInt = Value.int (stV q j.toNat) from congrArg Value.int (zi_of _)] at h
  exact h
theorem V_scr {j : Int} (hd : decode (miB M) pc = .ok (.iaload, 1)) (h0 : 0 ≤ j) (h1 : j < (σ.2.2.1 : Int)) (hn : σ.2.2.1 < 2147483648) (kk : V M N1 (pc + 1) ls (zI (σ.2.2.2 j.toNat).toInt :: st) N σ Q) : V M N1 pc ls (zI j :: .retAddr 3 :: st) N σ Q := by
  intro p l e R s m args below meth c g N0 H locs lsA Zq C hW hS hN hl hret
  obtain ⟨hX, hb⟩ := C.2.2.2.2.2.2.2.2.1.2.2.2.2.2.2.1
  rw [hW.1] at hX
  refine va_sld C.1 C.2.1 hX (by have := C.2.2.2.2.2.2.2.2.2; omega) (by omega) hS (zi_in h0 h1 hn) hd ?_
  have h := kk p l e R s m args below meth c g N0 H locs lsA Zq C hW hS hN hl hret
  have e1 := zi_cl (e := j) (by omega)
  rw [show (Int32.ofInt j).toNatClampNeg = j.toNat by omega]
  rw [show zI (σ.2.2.2 j.toNat).toInt = Value.int (σ.2.2.2 j.toNat) from congrArg Value.int (zi_of _)] at h
  exact h
theorem V_scl (hd : decode (miB M) pc = .ok (.arraylength, 1)) (kk : V M N1 (pc + 1) ls (zI (σ.2.2.1 : Int) :: st) N σ Q) : V M N1 pc ls (.retAddr 3 :: st) N σ Q := by
  intro p l e R s m args below meth c g N0 H locs lsA Zq C hW hS hN hl hret
  obtain ⟨hX, hb⟩ := C.2.2.2.2.2.2.2.2.1.2.2.2.2.2.2.1
  rw [hW.1] at hX
  exact va_slen C.1 C.2.1 hX (by have := C.2.2.2.2.2.2.2.2.2; omega) (by omega) hS hd (kk p l e R s m args below meth c g N0 H locs lsA Zq C hW hS hN hl hret)
theorem V_gets {q : Nat} (hd : decode (miB M) pc = .ok (.getstatic ix, 3)) (hM : miC M = 7) (hq : (q = 1 ∧ ix = 86) ∨ (q = 2 ∧ ix = 89)) (kk : V M N1 (pc + 3) ls (.retAddr q :: st) N σ Q) : V M N1 pc ls st N σ Q := by
  intro p l e R s m args below meth c g N0 H locs lsA Zq C hW hS hN hl hret
  have hown := C.2.2.2.1
  rw [hM] at hown
  rcases hq with ⟨rfl, rfl⟩ | ⟨rfl, rfl⟩
  · exact va_gets (C := RX7) (ref := RX7) C.1 C.2.1 (C.2.2.2.2.2.2.2.2.1.2.2.2.2.2.1 1 (by decide)).1 hS hown (C.2.2.2.2.1 _ uLeast) (fun _ h => h) hd (kk p l e R s m args below meth c g N0 H locs lsA Zq C hW hS hN hl hret)
  · exact va_gets (C := RX7) (ref := RX7) C.1 C.2.1 (C.2.2.2.2.2.2.2.2.1.2.2.2.2.2.1 2 (by decide)).1 hS hown (C.2.2.2.2.1 _ uGreat) (fun _ h => h) hd (kk p l e R s m args below meth c g N0 H locs lsA Zq C hW hS hN hl hret)
theorem V_getsN (hd : decode (miB M) pc = .ok (.getstatic 43, 3)) (hM : miC M = 4) (kk : V M N1 (pc + 3) ls (.retAddr 0 :: st) N σ Q) : V M N1 pc ls st N σ Q := by
  intro p l e R s m args below meth c g N0 H locs lsA Zq C hW hS hN hl hret
  have hown := C.2.2.2.1
  rw [hM] at hown
  exact va_getsN (C := RX7) (ref := RX7) C.1 C.2.1 (C.2.2.2.2.2.2.2.2.1.2.2.2.2.2.1 0 (by decide)).1 hS hown (va_Nw.use rfl C.2.2.2.2.2.2.2.2.1.2.2.1) (fun _ h => h) hd (kk p l e R s m args below meth c g N0 H locs lsA Zq C hW hS hN hl hret)
/-- what a copy of an array's row leaves -/
def cpy (f g : Int → Int) (sp dp n : Int) : Int → Int := fun k => if dp ≤ k ∧ k < dp + n then f (sp + (k - dp)) else g k
theorem zf_cpy {f g : Int → Int} {sp dp n : Int} (h1 : 0 ≤ sp ∧ sp < 2147483648) (h2 : 0 ≤ dp ∧ dp < 2147483648) (h3 : 0 ≤ n ∧ n < 2147483648) : va_cpy (zf f) (zf g) (Int32.ofInt sp).toNatClampNeg (Int32.ofInt dp).toNatClampNeg (Int32.ofInt n).toNatClampNeg = zf (cpy f g sp dp n) := by
  have a1 := zi_cl h1
  have a2 := zi_cl h2
  have a3 := zi_cl h3
  funext b
  unfold va_cpy zf cpy
  by_cases hb : dp ≤ (b : Int) ∧ (b : Int) < dp + n
  · rw [if_pos (by omega), if_pos hb]
    congr 2
    omega
  · rw [if_neg (by omega), if_neg hb]
theorem V_copy {sr ds n0 n1 : Nat} {sp dp len : Int} (ho : othR (miC M) ix = some 1) (hlv : 1 ≤ miV M) (hc : (st.map fun v => v.category).sum ≤ 8) (hd : decode (miB M) pc = .ok (.invokestatic ix, 3)) (hs : sr < N) (hss : sh sr = (1, n0)) (ht : ds < N) (hst : sh ds = (1, n1)) (h1 : 0 ≤ sp) (h2 : 0 ≤ dp) (h3 : 0 ≤ len) (h4 : sp + len ≤ n0) (h5 : dp + len ≤ n1) (hn0 : n0 < 2147483648) (hn1 : n1 < 2147483648)
    (kk : V M N1 (pc + 3) ls st N (setA σ ds (cpy (σ.1 sr) (σ.1 ds) sp dp len)) Q) : V M N1 pc ls (zI len :: zI dp :: .ref ds :: zI sp :: .ref sr :: st) N σ Q := by
  intro p l e R s m args below meth c g N0 H locs lsA Zq C hW hS hN hl hret
  have e1 := C.2.2.2.2.2.2.1
  have e2 := C.2.2.2.2.2.2.2.1
  have a1 := zi_cl (e := sp) (by omega)
  have a2 := zi_cl (e := dp) (by omega)
  have a3 := zi_cl (e := len) (by omega)
  have g1 : ∀ x : Int, 0 ≤ x → x < 2147483648 → ¬ Int32.ofInt x < 0 := fun x q1 q2 z => by
    have := (zi_lt (x := x) (y := 0) (by omega) (by decide)).mp z
    omega
  refine va_copyi (D := gD g) (ty := .int) C.1 C.2.1 (by rw [C.2.2.1, hl.1]) C.2.2.2.1 (C.2.2.2.2.1 _ (othOK ho)) (C.2.2.2.2.1 _ uaN) (C.2.2.2.2.1 _ uaS) (C.2.2.2.2.1 _ uaI) C.2.2.2.2.2.2.2.2.1.1 hW.2 (wl_D g N σ) hS sr ds 0 0 (by rw [wl_at hs, cel_i hss]) (by rw [wl_at ht, cel_i hst]) rfl rfl rfl (g1 _ h1 (by omega)) (g1 _ h2 (by omega)) (g1 _ h3 (by omega)) (by omega) (by omega) (fun _ _ => rfl) (by omega) (by rw [tr_sum, show nativeFrameWords "java/lang/System" "arraycopy" 5 = 7 by decide +kernel]; omega) hd (fun H1 locs1 hP _ hS1 => ?_)
  refine kk p l e R s m args below meth c g N0 H1 locs1 lsA Zq C (Wd_set (σ := σ) rfl hW.1 hP ?_ (fun j hj => ⟨if_neg hj, rfl⟩)) hS1 hN hl hret
  rw [cel_i hst, zf_cpy (by omega) (by omega) (by omega)]
  show Sum.inl (gC g 0, n1, Sum.inl (zf (if ds = ds then cpy (σ.1 sr) (σ.1 ds) sp dp len else σ.1 ds))) = _
  rw [if_pos rfl]
end HEAP
