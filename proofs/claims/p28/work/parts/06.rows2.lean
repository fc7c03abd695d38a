/-! ROWS: an instruction each, over V -/
section ROWS
variable {M : MI} {N N1 pc : Nat} {ls : List (Nat × Value)} {st : List Value} {Q : Option Value → Sto → Prop} {σ : Sto}
theorem V_lift {pc' : Nat} {st' : List Value} (h : ∀ {p : Program} {l : Launch} {e : Env} {R : Room} {s : State} {m : MethodId} {args : Array Value} {below : List Frame} {meth : Method} {c : Code} {g : Gam} {H : Heap} {locs : List Loc} {cells slots : Nat} {lsA : Array Slot} {Zq : State → Prop}, Ctx M p R s m args meth c g → c.maxLocals = lsA.size → cells ≤ R.cells → slots ≤ R.slots → lv_has lsA (miL M) (ls.map (fun q => (q.1, tr g q.2))) → W p l e R s m args below meth c H locs cells slots Zq (F0 m pc' lsA (st'.map (tr g))) → W p l e R s m args below meth c H locs cells slots Zq (F0 m pc lsA (st.map (tr g)))) (k : V M N1 pc' ls st' N σ Q) : V M N1 pc ls st N σ Q := by
  intro p l e R s m args below meth c g N0 H locs lsA Zq C hW hS hN hl hret
  have m1 := SL_mono hN.2.1
  exact h C (by rw [C.2.2.1, hl.1]) (by omega) (by omega) hl (k p l e R s m args below meth c g N0 H locs lsA Zq C hW hS hN hl hret)
theorem V_br {P1 P2 : Prop} {t1 t2 : Nat} {st' : List Value} (h : ∀ {p : Program} {l : Launch} {e : Env} {R : Room} {s : State} {m : MethodId} {args : Array Value} {below : List Frame} {meth : Method} {c : Code} {g : Gam} {H : Heap} {locs : List Loc} {cells slots : Nat} {lsA : Array Slot} {Zq : State → Prop}, Ctx M p R s m args meth c g → (P1 → W p l e R s m args below meth c H locs cells slots Zq (F0 m t1 lsA (st'.map (tr g)))) → (P2 → W p l e R s m args below meth c H locs cells slots Zq (F0 m t2 lsA (st'.map (tr g)))) → W p l e R s m args below meth c H locs cells slots Zq (F0 m pc lsA (st.map (tr g)))) (k1 : P1 → V M N1 t1 ls st' N σ Q) (k2 : P2 → V M N1 t2 ls st' N σ Q) : V M N1 pc ls st N σ Q := by
  intro p l e R s m args below meth c g N0 H locs lsA Zq C hW hS hN hl hret
  exact h C (fun q => k1 q p l e R s m args below meth c g N0 H locs lsA Zq C hW hS hN hl hret) (fun q => k2 q p l e R s m args below meth c g N0 H locs lsA Zq C hW hS hN hl hret)
theorem V_iconst {n : Int} (hd : decode (miB M) pc = .ok (.iconst n, 1)) (k : V M N1 (pc + 1) ls (zI n :: st) N σ Q) : V M N1 pc ls st N σ Q := V_lift (fun C _ _ _ _ k => lv_iconst C.1 C.2.1 hd rfl k) k
theorem zi_8 {n : Int} (h : -128 ≤ n ∧ n < 128) : (Int8.ofInt n).toInt32 = Int32.ofInt n := by
  apply Int32.toInt_inj.mp
  rw [zi_to (by omega), Int8.toInt_toInt32, Int8.toInt_ofInt_of_le (by have := h.1; omega) (by have := h.2; omega)]
theorem zi_16 {n : Int} (h : -32768 ≤ n ∧ n < 32768) : (Int16.ofInt n).toInt32 = Int32.ofInt n := by
  apply Int32.toInt_inj.mp
  rw [zi_to (by omega), Int16.toInt_toInt32, Int16.toInt_ofInt_of_le (by have := h.1; omega) (by have := h.2; omega)]
theorem V_bipush {n : Int} (hn : -128 ≤ n ∧ n < 128) (hd : decode (miB M) pc = .ok (.bipush n, 2)) (k : V M N1 (pc + 2) ls (zI n :: st) N σ Q) : V M N1 pc ls st N σ Q := V_lift (fun C _ _ _ _ k => lv_bipush C.1 C.2.1 hd rfl (by rw [zi_8 hn]; exact k)) k
theorem V_sipush {n : Int} (hn : -32768 ≤ n ∧ n < 32768) (hd : decode (miB M) pc = .ok (.sipush n, 3)) (k : V M N1 (pc + 3) ls (zI n :: st) N σ Q) : V M N1 pc ls st N σ Q := V_lift (fun C _ _ _ _ k => lv_sipush C.1 C.2.1 hd rfl (by rw [zi_16 hn]; exact k)) k
theorem V_lconst {n : Fin 2} (hd : decode (miB M) pc = .ok (.lconst n, 1)) (k : V M N1 (pc + 1) ls (.long (Int64.ofNat (n : Nat)) :: st) N σ Q) : V M N1 pc ls st N σ Q := V_lift (fun C _ _ _ _ k => lv_lconst C.1 C.2.1 hd rfl k) k
theorem V_null (hd : decode (miB M) pc = .ok (.aconst_null, 1)) (k : V M N1 (pc + 1) ls (.null :: st) N σ Q) : V M N1 pc ls st N σ Q := V_lift (fun C _ _ _ _ k => lv_null C.1 C.2.1 hd k) k
/-- the local k -/
def lk (k : Nat) : List (Nat × Value) → Option Value
  | [] => none
  | q :: r => if q.1 = k then some q.2 else lk k r
theorem lk_in {k : Nat} {v : Value} : ∀ {l : List (Nat × Value)}, lk k l = some v → (k, v) ∈ l
  | q :: r, h => by
    unfold lk at h
    by_cases e : q.1 = k
    · rw [if_pos e] at h
      rw [← Option.some.inj h, ← e]
      exact List.mem_cons_self
    · rw [if_neg e] at h
      exact List.mem_cons_of_mem _ (lk_in h)
theorem lk_at {g : Gam} {lsA : Array Slot} {nL k : Nat} {v : Value} {l : List (Nat × Value)} (hl : lv_has lsA nL (l.map (fun q => (q.1, tr g q.2)))) (h : lk k l = some v) : lsA[k]? = some (.val (tr g v)) :=
  hl.2.2 (k, tr g v) (List.mem_map.mpr ⟨(k, v), lk_in h, rfl⟩)
theorem V_iload_n {k : Fin 4} {e : Int} (hd : decode (miB M) pc = .ok (.iload_n k, 1)) (hv : lk (k : Nat) ls = some (zI e)) (k : V M N1 (pc + 1) ls (zI e :: st) N σ Q) : V M N1 pc ls st N σ Q := V_lift (fun C _ _ _ hl k => lv_iload_n C.1 C.2.1 hd rfl (lk_at hl hv) k) k
theorem V_aload_n {k : Fin 4} {v : Value} (hd : decode (miB M) pc = .ok (.aload_n k, 1)) (hv : lk (k : Nat) ls = some v) (hr : (∃ i, v = .ref i) ∨ v = .null ∨ ∃ i, v = .retAddr i) (k : V M N1 (pc + 1) ls (v :: st) N σ Q) : V M N1 pc ls st N σ Q := by
  rcases hr with ⟨j, rfl⟩ | rfl | ⟨j, rfl⟩
  · exact V_lift (fun C _ _ _ hl k => lv_aload_n C.1 C.2.1 hd rfl (lk_at hl hv) k) k
  · exact V_lift (fun C _ _ _ hl k => lv_aload_nN C.1 C.2.1 hd rfl (lk_at hl hv) k) k
  · exact V_lift (fun C _ _ _ hl k => lv_aload_n C.1 C.2.1 hd rfl (lk_at hl hv) k) k
theorem V_lload_n {k : Fin 4} {x : Int64} (hd : decode (miB M) pc = .ok (.lload_n k, 1)) (hv : lk (k : Nat) ls = some (.long x)) (k : V M N1 (pc + 1) ls (.long x :: st) N σ Q) : V M N1 pc ls st N σ Q := V_lift (fun C _ _ _ hl k => lv_lload_n C.1 C.2.1 hd rfl (lk_at hl hv) k) k
theorem V_iload {i : Nat} {e : Int} (hd : decode (miB M) pc = .ok (.iload i, 2)) (hv : lk i ls = some (zI e)) (k : V M N1 (pc + 2) ls (zI e :: st) N σ Q) : V M N1 pc ls st N σ Q := V_lift (fun C _ _ _ hl k => lv_iload C.1 C.2.1 hd (lk_at hl hv) k) k
theorem V_aload {i : Nat} {v : Value} (hd : decode (miB M) pc = .ok (.aload i, 2)) (hv : lk i ls = some v) (hr : (∃ i, v = .ref i) ∨ v = .null ∨ ∃ i, v = .retAddr i) (k : V M N1 (pc + 2) ls (v :: st) N σ Q) : V M N1 pc ls st N σ Q := by
  rcases hr with ⟨j, rfl⟩ | rfl | ⟨j, rfl⟩
  · exact V_lift (fun C _ _ _ hl k => lv_aload C.1 C.2.1 hd (lk_at hl hv) k) k
  · exact V_lift (fun C _ _ _ hl k => lv_aloadN C.1 C.2.1 hd (lk_at hl hv) k) k
  · exact V_lift (fun C _ _ _ hl k => lv_aload C.1 C.2.1 hd (lk_at hl hv) k) k
theorem V_lload {i : Nat} {x : Int64} (hd : decode (miB M) pc = .ok (.lload i, 2)) (hv : lk i ls = some (.long x)) (k : V M N1 (pc + 2) ls (.long x :: st) N σ Q) : V M N1 pc ls st N σ Q := V_lift (fun C _ _ _ hl k => lv_lload C.1 C.2.1 hd (lk_at hl hv) k) k
/-- a local set: what overlaps it goes -/
def lrm (k : Nat) : List (Nat × Value) → List (Nat × Value)
  | [] => []
  | q :: r => if q.1 = k ∨ (q.1 + 1 = k ∧ q.2.category = 2) then lrm k r else q :: lrm k r
def lins (k : Nat) (v : Value) : List (Nat × Value) → List (Nat × Value)
  | [] => [(k, v)]
  | q :: r => if k < q.1 then (k, v) :: q :: r else q :: lins k v r
def lset (k : Nat) (v : Value) (l : List (Nat × Value)) : List (Nat × Value) := lins k v (lrm k l)
def lset2 (k : Nat) (v : Value) (l : List (Nat × Value)) : List (Nat × Value) := lins k v (lrm k (lrm (k + 1) l))
theorem lins_in {k : Nat} {v : Value} {q : Nat × Value} : ∀ {l : List (Nat × Value)}, q ∈ lins k v l → q = (k, v) ∨ q ∈ l
  | [], h => Or.inl (List.mem_singleton.mp h)
  | a :: r, h => by
    unfold lins at h
    split at h
    · rcases List.mem_cons.mp h with e | e
      · exact Or.inl e
      · exact Or.inr e
    · rcases List.mem_cons.mp h with e | e
      · exact Or.inr (e ▸ List.mem_cons_self)
      · rcases lins_in e with e | e
        · exact Or.inl e
        · exact Or.inr (List.mem_cons_of_mem _ e)
theorem lrm_in {k : Nat} {q : Nat × Value} : ∀ {l : List (Nat × Value)}, q ∈ lrm k l → q ∈ l ∧ ¬ (q.1 = k ∨ (q.1 + 1 = k ∧ q.2.category = 2))
  | a :: r, h => by
    unfold lrm at h
    split at h
    · obtain ⟨h1, h2⟩ := lrm_in h
      exact ⟨List.mem_cons_of_mem _ h1, h2⟩
    · next hn =>
      rcases List.mem_cons.mp h with e | e
      · rw [e]; exact ⟨List.mem_cons_self, hn⟩
      · obtain ⟨h1, h2⟩ := lrm_in e
        exact ⟨List.mem_cons_of_mem _ h1, h2⟩
theorem lset_has {g : Gam} {lsA : Array Slot} {nL k : Nat} {v : Value} {l : List (Nat × Value)} (h : lv_has lsA nL ((k, tr g v) :: (l.map (fun q => (q.1, tr g q.2))).filter (fun q => !(q.1 == k) && !(q.1 + 1 == k && q.2.category == 2)))) : lv_has lsA nL ((lset k v l).map (fun q => (q.1, tr g q.2))) := by
  refine ⟨h.1, h.2.1, fun q hq => ?_⟩
  obtain ⟨x, hx, rfl⟩ := List.mem_map.mp hq
  rcases lins_in hx with e | e
  · subst e
    exact h.2.2 _ List.mem_cons_self
  · obtain ⟨h1, h2⟩ := lrm_in e
    refine h.2.2 _ (List.mem_cons_of_mem _ (List.mem_filter.mpr ⟨List.mem_map.mpr ⟨x, h1, rfl⟩, ?_⟩))
    simp only [tr_cat]
    have a1 : (x.1 == k) = false := by simpa using fun z => h2 (Or.inl z)
    have a2 : (x.1 + 1 == k && x.2.category == 2) = false := by
      cases hq : (x.1 + 1 == k && x.2.category == 2) with
      | false => rfl
      | true =>
        simp only [Bool.and_eq_true, beq_iff_eq] at hq
        exact absurd (Or.inr hq) h2
    rw [a1, a2]
    rfl
theorem lset2_has {g : Gam} {lsA : Array Slot} {nL k : Nat} {v : Value} {l : List (Nat × Value)} (h : lv_has lsA nL ((k, tr g v) :: (l.map (fun q => (q.1, tr g q.2))).filter (fun q => !(q.1 == k) && (!(q.1 == k + 1) && !(q.1 + 1 == k && q.2.category == 2))))) : lv_has lsA nL ((lset2 k v l).map (fun q => (q.1, tr g q.2))) := by
  refine ⟨h.1, h.2.1, fun q hq => ?_⟩
  obtain ⟨x, hx, rfl⟩ := List.mem_map.mp hq
  rcases lins_in hx with e | e
  · subst e
    exact h.2.2 _ List.mem_cons_self
  · obtain ⟨h1, h2⟩ := lrm_in e
    obtain ⟨h3, h4⟩ := lrm_in h1
    refine h.2.2 _ (List.mem_cons_of_mem _ (List.mem_filter.mpr ⟨List.mem_map.mpr ⟨x, h3, rfl⟩, ?_⟩))
    simp only [tr_cat]
    have a1 : (x.1 == k) = false := by simpa using fun z => h2 (Or.inl z)
    have a3 : (x.1 == k + 1) = false := by simpa using fun z => h4 (Or.inl z)
    have a2 : (x.1 + 1 == k && x.2.category == 2) = false := by
      cases hq : (x.1 + 1 == k && x.2.category == 2) with
      | false => rfl
      | true =>
        simp only [Bool.and_eq_true, beq_iff_eq] at hq
        exact absurd (Or.inr hq) h2
    rw [a1, a2, a3]
    rfl
theorem V_istore_n {k : Fin 4} {e : Int} (hd : decode (miB M) pc = .ok (.istore_n k, 1)) (hn : (k : Nat) < miL M) (kk : V M N1 (pc + 1) (lset (k : Nat) (zI e) ls) st N σ Q) : V M N1 pc ls (zI e :: st) N σ Q := by
  intro p l e R s m args below meth c g N0 H locs lsA Zq C hW hS hN hl hret
  exact lv_istore_n C.1 C.2.1 hd rfl hl hn rfl (fun ls' h => kk p l e R s m args below meth c g N0 H locs ls' Zq C hW hS hN (lset_has h) hret)
theorem V_astore_n {k : Fin 4} {v : Value} (hd : decode (miB M) pc = .ok (.astore_n k, 1)) (hr : (∃ i, v = .ref i) ∨ v = .null ∨ ∃ i, v = .retAddr i) (hn : (k : Nat) < miL M) (kk : V M N1 (pc + 1) (lset (k : Nat) v ls) st N σ Q) : V M N1 pc ls (v :: st) N σ Q := by
  intro p l e R s m args below meth c g N0 H locs lsA Zq C hW hS hN hl hret
  rcases hr with ⟨j, rfl⟩ | rfl | ⟨j, rfl⟩
  · exact lv_astore_n C.1 C.2.1 hd rfl hl hn rfl (fun ls' h => kk p l e R s m args below meth c g N0 H locs ls' Zq C hW hS hN (lset_has (v := .ref j) h) hret)
  · exact lv_astore_nN C.1 C.2.1 hd rfl hl hn rfl (fun ls' h => kk p l e R s m args below meth c g N0 H locs ls' Zq C hW hS hN (lset_has (v := .null) h) hret)
  · exact lv_astore_n C.1 C.2.1 hd rfl hl hn rfl (fun ls' h => kk p l e R s m args below meth c g N0 H locs ls' Zq C hW hS hN (lset_has (v := .retAddr j) h) hret)
theorem V_lstore_n {k : Fin 4} {x : Int64} (hd : decode (miB M) pc = .ok (.lstore_n k, 1)) (hn : (k : Nat) + 1 < miL M) (kk : V M N1 (pc + 1) (lset2 (k : Nat) (.long x) ls) st N σ Q) : V M N1 pc ls (.long x :: st) N σ Q := by
  intro p l e R s m args below meth c g N0 H locs lsA Zq C hW hS hN hl hret
  exact lv_lstore_n C.1 C.2.1 hd rfl hl hn rfl (fun ls' h => kk p l e R s m args below meth c g N0 H locs ls' Zq C hW hS hN (lset2_has (v := .long x) h) hret)
theorem V_istore {i : Nat} {e : Int} (hd : decode (miB M) pc = .ok (.istore i, 2)) (hn : i < miL M) (kk : V M N1 (pc + 2) (lset i (zI e) ls) st N σ Q) : V M N1 pc ls (zI e :: st) N σ Q := by
  intro p l e R s m args below meth c g N0 H locs lsA Zq C hW hS hN hl hret
  exact lv_istore C.1 C.2.1 hd hl hn rfl (fun ls' h => kk p l e R s m args below meth c g N0 H locs ls' Zq C hW hS hN (lset_has h) hret)
theorem V_astore {i : Nat} {v : Value} (hd : decode (miB M) pc = .ok (.astore i, 2)) (hr : (∃ i, v = .ref i) ∨ v = .null ∨ ∃ i, v = .retAddr i) (hn : i < miL M) (kk : V M N1 (pc + 2) (lset i v ls) st N σ Q) : V M N1 pc ls (v :: st) N σ Q := by
  intro p l e R s m args below meth c g N0 H locs lsA Zq C hW hS hN hl hret
  rcases hr with ⟨j, rfl⟩ | rfl | ⟨j, rfl⟩
  · exact lv_astore C.1 C.2.1 hd hl hn rfl (fun ls' h => kk p l e R s m args below meth c g N0 H locs ls' Zq C hW hS hN (lset_has (v := .ref j) h) hret)
  · exact lv_astoreN C.1 C.2.1 hd hl hn rfl (fun ls' h => kk p l e R s m args below meth c g N0 H locs ls' Zq C hW hS hN (lset_has (v := .null) h) hret)
  · exact lv_astore C.1 C.2.1 hd hl hn rfl (fun ls' h => kk p l e R s m args below meth c g N0 H locs ls' Zq C hW hS hN (lset_has (v := .retAddr j) h) hret)
theorem V_lstore {i : Nat} {x : Int64} (hd : decode (miB M) pc = .ok (.lstore i, 2)) (hn : i + 1 < miL M) (kk : V M N1 (pc + 2) (lset2 i (.long x) ls) st N σ Q) : V M N1 pc ls (.long x :: st) N σ Q := by
  intro p l e R s m args below meth c g N0 H locs lsA Zq C hW hS hN hl hret
  exact lv_lstore C.1 C.2.1 hd hl hn rfl (fun ls' h => kk p l e R s m args below meth c g N0 H locs ls' Zq C hW hS hN (lset2_has (v := .long x) h) hret)
theorem lk_place {g : Gam} {k : Nat} {v : Value} {l : List (Nat × Value)} (h : lk k l = some v) : ∃ j : Nat, (l.map (fun q => (q.1, tr g q.2)))[j]? = some (k, tr g v) := by
  obtain ⟨j, hj⟩ := List.getElem?_of_mem (lk_in h)
  exact ⟨j, by rw [List.getElem?_map, hj]; rfl⟩
theorem V_iinc {i : Nat} {n e : Int} (hd : decode (miB M) pc = .ok (.iinc i n, 3)) (hv : lk i ls = some (zI e)) (hn : i < miL M) (kk : V M N1 (pc + 3) (lset i (zI (e + n)) ls) st N σ Q) : V M N1 pc ls st N σ Q := by
  intro p l e' R s m args below meth c g N0 H locs lsA Zq C hW hS hN hl hret
  obtain ⟨j, hj⟩ := lk_place (g := g) hv
  exact lv_iinc (k := j) (x := Int32.ofInt e) C.1 C.2.1 hd hl hj rfl hn rfl (fun ls' h => kk p l e' R s m args below meth c g N0 H locs ls' Zq C hW hS hN (lset_has (v := zI (e + n)) (by rw [zi_add] at h; exact h)) hret)
theorem V_iadd {x y : Int} (hd : decode (miB M) pc = .ok (.iadd, 1)) (k : V M N1 (pc + 1) ls (zI (x + y) :: st) N σ Q) : V M N1 pc ls (zI y :: zI x :: st) N σ Q := V_lift (fun C _ _ _ _ k => lv_iadd C.1 C.2.1 hd (by rw [zi_add]; exact k)) k
theorem V_isub {x y : Int} (hd : decode (miB M) pc = .ok (.isub, 1)) (k : V M N1 (pc + 1) ls (zI (x - y) :: st) N σ Q) : V M N1 pc ls (zI y :: zI x :: st) N σ Q := V_lift (fun C _ _ _ _ k => lv_isub C.1 C.2.1 hd (by rw [zi_sub]; exact k)) k
theorem V_imul {x y : Int} (hd : decode (miB M) pc = .ok (.imul, 1)) (k : V M N1 (pc + 1) ls (zI (x * y) :: st) N σ Q) : V M N1 pc ls (zI y :: zI x :: st) N σ Q := V_lift (fun C _ _ _ _ k => lv_imul C.1 C.2.1 hd (by rw [zi_mul]; exact k)) k
def ba (x y : Int) : Int := (Int32.ofInt x &&& Int32.ofInt y).toInt
theorem V_iand {x y : Int} (hd : decode (miB M) pc = .ok (.iand, 1)) (k : V M N1 (pc + 1) ls (zI (ba x y) :: st) N σ Q) : V M N1 pc ls (zI y :: zI x :: st) N σ Q := V_lift (fun C _ _ _ _ k => lv_iand C.1 C.2.1 hd (by unfold ba at k; rw [show zI ((Int32.ofInt x &&& Int32.ofInt y).toInt) = Value.int (Int32.ofInt x &&& Int32.ofInt y) from congrArg Value.int (zi_of _)] at k; exact k)) k
theorem zi_nz {y : Int} (hy : 0 < y ∧ y < 2147483648) : ¬ Int32.ofInt y = 0 := fun z => by
  have h := congrArg Int32.toInt z
  rw [zi_to (by omega)] at h
  have h5 : (0 : Int32).toInt = 0 := by decide
  omega
theorem V_idiv {x y : Int} (hd : decode (miB M) pc = .ok (.idiv, 1)) (hx : 0 ≤ x ∧ x < 2147483648) (hy : 0 < y ∧ y < 2147483648) (k : V M N1 (pc + 1) ls (zI (x / y) :: st) N σ Q) : V M N1 pc ls (zI y :: zI x :: st) N σ Q := V_lift (fun C _ _ _ _ k => lv_idiv C.1 C.2.1 hd (zi_nz hy) (by rw [zi_div hx hy]; exact k)) k
theorem V_irem {x y : Int} (hd : decode (miB M) pc = .ok (.irem, 1)) (hx : 0 ≤ x ∧ x < 2147483648) (hy : 0 < y ∧ y < 2147483648) (k : V M N1 (pc + 1) ls (zI (x % y) :: st) N σ Q) : V M N1 pc ls (zI y :: zI x :: st) N σ Q := V_lift (fun C _ _ _ _ k => lv_irem C.1 C.2.1 hd (zi_nz hy) (by rw [zi_rem hx hy]; exact k)) k
theorem V_ineg {x : Int} (hd : decode (miB M) pc = .ok (.ineg, 1)) (k : V M N1 (pc + 1) ls (zI (-x) :: st) N σ Q) : V M N1 pc ls (zI x :: st) N σ Q := V_lift (fun C _ _ _ _ k => lv_ineg C.1 C.2.1 hd (by rw [zi_neg]; exact k)) k
theorem V_i2c {x : Int} (hx : 0 ≤ x ∧ x < 65536) (hd : decode (miB M) pc = .ok (.i2c, 1)) (k : V M N1 (pc + 1) ls (zI x :: st) N σ Q) : V M N1 pc ls (zI x :: st) N σ Q := V_lift (fun C _ _ _ _ k => lv_i2c C.1 C.2.1 hd rfl (by rw [zi_i2c hx]; exact k)) k
theorem V_l2i {x : Int64} (hd : decode (miB M) pc = .ok (.l2i, 1)) (k : V M N1 (pc + 1) ls (zI x.toInt32.toInt :: st) N σ Q) : V M N1 pc ls (.long x :: st) N σ Q := V_lift (fun C _ _ _ _ k => lv_l2i C.1 C.2.1 hd rfl (by rw [show zI x.toInt32.toInt = Value.int x.toInt32 from congrArg Value.int (zi_of _)] at k; exact k)) k
theorem V_land {x y : Int64} (hd : decode (miB M) pc = .ok (.land, 1)) (k : V M N1 (pc + 1) ls (.long (x &&& y) :: st) N σ Q) : V M N1 pc ls (.long y :: .long x :: st) N σ Q := V_lift (fun C _ _ _ _ k => lv_land C.1 C.2.1 hd k) k
theorem V_lshr {x : Int64} {y : Int} (hd : decode (miB M) pc = .ok (.lshr, 1)) (k : V M N1 (pc + 1) ls (.long (x >>> ((Int32.ofInt y).toInt64 &&& 63)) :: st) N σ Q) : V M N1 pc ls (zI y :: .long x :: st) N σ Q := V_lift (fun C _ _ _ _ k => lv_lshr C.1 C.2.1 hd rfl k) k
theorem V_lcmp {x y : Int64} (hd : decode (miB M) pc = .ok (.lcmp, 1)) (k : V M N1 (pc + 1) ls (zI (lg_cmp x y).toInt :: st) N σ Q) : V M N1 pc ls (.long y :: .long x :: st) N σ Q := V_lift (fun C _ _ _ _ k => W.lcmp C.1 C.2.1 hd (by rw [show zI (lg_cmp x y).toInt = Value.int (lg_cmp x y) from congrArg Value.int (zi_of _)] at k; exact k)) k
theorem V_dup {v : Value} (hd : decode (miB M) pc = .ok (.dup, 1)) (hc : v.category = 1) (k : V M N1 (pc + 1) ls (v :: v :: st) N σ Q) : V M N1 pc ls (v :: st) N σ Q := V_lift (fun C _ _ _ _ k => lv_dup C.1 C.2.1 hd (by rw [tr_cat]; exact hc) k) k
theorem V_pop {v : Value} (hd : decode (miB M) pc = .ok (.pop, 1)) (hc : v.category = 1) (k : V M N1 (pc + 1) ls st N σ Q) : V M N1 pc ls (v :: st) N σ Q := V_lift (fun C _ _ _ _ k => lv_pop C.1 C.2.1 hd (by rw [tr_cat]; exact hc) k) k
theorem V_dup2 {v w : Value} (hd : decode (miB M) pc = .ok (.dup2, 1)) (hc : v.category = 1) (hc2 : w.category = 1) (k : V M N1 (pc + 1) ls (v :: w :: v :: w :: st) N σ Q) : V M N1 pc ls (v :: w :: st) N σ Q := V_lift (fun C _ _ _ _ k => lv_dup2_11 C.1 C.2.1 hd (by rw [tr_cat]; exact hc) (by rw [tr_cat]; exact hc2) k) k
def tg (pc : Nat) (off : Int) : Nat := ((pc : Int) + off).toNat
theorem tg_ok {pc : Nat} {off : Int} (h : 0 ≤ (pc : Int) + off) : (pc : Int) + off = (tg pc off : Int) := by unfold tg; omega
theorem V_goto {off : Int} (hd : decode (miB M) pc = .ok (.goto off, 3)) (ht : 0 ≤ (pc : Int) + off) (k : V M N1 (tg pc off) ls st N σ Q) : V M N1 pc ls st N σ Q := V_lift (fun C _ _ _ _ k => lv_goto C.1 C.2.1 hd (tg_ok ht) k) k
theorem z0 : -2147483648 ≤ (0:Int) ∧ (0:Int) < 2147483648 := by decide
theorem V_if_eq {x off : Int} (hd : decode (miB M) pc = .ok (.ifCond .eq off, 3)) (ht : 0 ≤ (pc : Int) + off) (hx : -2147483648 ≤ x ∧ x < 2147483648) (kt : x = 0 → V M N1 (tg pc off) ls st N σ Q) (kf : ¬ x = 0 → V M N1 (pc + 3) ls st N σ Q) : V M N1 pc ls (zI x :: st) N σ Q := V_br (fun C k1 k2 => lv_if_eq C.1 C.2.1 hd (tg_ok ht) (fun q => k1 ((zi_eq hx z0).mp q)) (fun q => k2 (fun z => q ((zi_eq hx z0).mpr z)))) kt kf
theorem V_if_ne {x off : Int} (hd : decode (miB M) pc = .ok (.ifCond .ne off, 3)) (ht : 0 ≤ (pc : Int) + off) (hx : -2147483648 ≤ x ∧ x < 2147483648) (kt : ¬ x = 0 → V M N1 (tg pc off) ls st N σ Q) (kf : x = 0 → V M N1 (pc + 3) ls st N σ Q) : V M N1 pc ls (zI x :: st) N σ Q := V_br (fun C k1 k2 => lv_if_ne C.1 C.2.1 hd (tg_ok ht) (fun q => k1 (fun z => q ((zi_eq hx z0).mpr z))) (fun q => k2 ((zi_eq hx z0).mp q))) kt kf
theorem V_if_lt {x off : Int} (hd : decode (miB M) pc = .ok (.ifCond .lt off, 3)) (ht : 0 ≤ (pc : Int) + off) (hx : -2147483648 ≤ x ∧ x < 2147483648) (kt : x < 0 → V M N1 (tg pc off) ls st N σ Q) (kf : ¬ x < 0 → V M N1 (pc + 3) ls st N σ Q) : V M N1 pc ls (zI x :: st) N σ Q := V_br (fun C k1 k2 => lv_if_lt C.1 C.2.1 hd (tg_ok ht) (fun q => k1 ((zi_lt hx z0).mp q)) (fun q => k2 (fun z => q ((zi_lt hx z0).mpr z)))) kt kf
theorem V_if_ge {x off : Int} (hd : decode (miB M) pc = .ok (.ifCond .ge off, 3)) (ht : 0 ≤ (pc : Int) + off) (hx : -2147483648 ≤ x ∧ x < 2147483648) (kt : 0 ≤ x → V M N1 (tg pc off) ls st N σ Q) (kf : ¬ 0 ≤ x → V M N1 (pc + 3) ls st N σ Q) : V M N1 pc ls (zI x :: st) N σ Q := V_br (fun C k1 k2 => lv_if_ge C.1 C.2.1 hd (tg_ok ht) (fun q => k1 ((zi_le z0 hx).mp q)) (fun q => k2 (fun z => q ((zi_le z0 hx).mpr z)))) kt kf
theorem V_if_gt {x off : Int} (hd : decode (miB M) pc = .ok (.ifCond .gt off, 3)) (ht : 0 ≤ (pc : Int) + off) (hx : -2147483648 ≤ x ∧ x < 2147483648) (kt : 0 < x → V M N1 (tg pc off) ls st N σ Q) (kf : ¬ 0 < x → V M N1 (pc + 3) ls st N σ Q) : V M N1 pc ls (zI x :: st) N σ Q := V_br (fun C k1 k2 => lv_if_gt C.1 C.2.1 hd (tg_ok ht) (fun q => k1 ((zi_lt z0 hx).mp q)) (fun q => k2 (fun z => q ((zi_lt z0 hx).mpr z)))) kt kf
theorem V_if_le {x off : Int} (hd : decode (miB M) pc = .ok (.ifCond .le off, 3)) (ht : 0 ≤ (pc : Int) + off) (hx : -2147483648 ≤ x ∧ x < 2147483648) (kt : x ≤ 0 → V M N1 (tg pc off) ls st N σ Q) (kf : ¬ x ≤ 0 → V M N1 (pc + 3) ls st N σ Q) : V M N1 pc ls (zI x :: st) N σ Q := V_br (fun C k1 k2 => lv_if_le C.1 C.2.1 hd (tg_ok ht) (fun q => k1 ((zi_le hx z0).mp q)) (fun q => k2 (fun z => q ((zi_le hx z0).mpr z)))) kt kf
theorem V_icmp_eq {x y off : Int} (hd : decode (miB M) pc = .ok (.if_icmp .eq off, 3)) (ht : 0 ≤ (pc : Int) + off) (hx : -2147483648 ≤ x ∧ x < 2147483648) (hy : -2147483648 ≤ y ∧ y < 2147483648) (kt : x = y → V M N1 (tg pc off) ls st N σ Q) (kf : ¬ x = y → V M N1 (pc + 3) ls st N σ Q) : V M N1 pc ls (zI y :: zI x :: st) N σ Q := V_br (fun C k1 k2 => lv_icmp_eq C.1 C.2.1 hd (tg_ok ht) (fun q => k1 ((zi_eq hx hy).mp q)) (fun q => k2 (fun z => q ((zi_eq hx hy).mpr z)))) kt kf
theorem V_icmp_ne {x y off : Int} (hd : decode (miB M) pc = .ok (.if_icmp .ne off, 3)) (ht : 0 ≤ (pc : Int) + off) (hx : -2147483648 ≤ x ∧ x < 2147483648) (hy : -2147483648 ≤ y ∧ y < 2147483648) (kt : ¬ x = y → V M N1 (tg pc off) ls st N σ Q) (kf : x = y → V M N1 (pc + 3) ls st N σ Q) : V M N1 pc ls (zI y :: zI x :: st) N σ Q := V_br (fun C k1 k2 => lv_icmp_ne C.1 C.2.1 hd (tg_ok ht) (fun q => k1 (fun z => q ((zi_eq hx hy).mpr z))) (fun q => k2 ((zi_eq hx hy).mp q))) kt kf
theorem V_icmp_lt {x y off : Int} (hd : decode (miB M) pc = .ok (.if_icmp .lt off, 3)) (ht : 0 ≤ (pc : Int) + off) (hx : -2147483648 ≤ x ∧ x < 2147483648) (hy : -2147483648 ≤ y ∧ y < 2147483648) (kt : x < y → V M N1 (tg pc off) ls st N σ Q) (kf : ¬ x < y → V M N1 (pc + 3) ls st N σ Q) : V M N1 pc ls (zI y :: zI x :: st) N σ Q := V_br (fun C k1 k2 => lv_icmp_lt C.1 C.2.1 hd (tg_ok ht) (fun q => k1 ((zi_lt hx hy).mp q)) (fun q => k2 (fun z => q ((zi_lt hx hy).mpr z)))) kt kf
theorem V_icmp_ge {x y off : Int} (hd : decode (miB M) pc = .ok (.if_icmp .ge off, 3)) (ht : 0 ≤ (pc : Int) + off) (hx : -2147483648 ≤ x ∧ x < 2147483648) (hy : -2147483648 ≤ y ∧ y < 2147483648) (kt : y ≤ x → V M N1 (tg pc off) ls st N σ Q) (kf : ¬ y ≤ x → V M N1 (pc + 3) ls st N σ Q) : V M N1 pc ls (zI y :: zI x :: st) N σ Q := V_br (fun C k1 k2 => lv_icmp_ge C.1 C.2.1 hd (tg_ok ht) (fun q => k1 ((zi_le hy hx).mp q)) (fun q => k2 (fun z => q ((zi_le hy hx).mpr z)))) kt kf
theorem V_icmp_gt {x y off : Int} (hd : decode (miB M) pc = .ok (.if_icmp .gt off, 3)) (ht : 0 ≤ (pc : Int) + off) (hx : -2147483648 ≤ x ∧ x < 2147483648) (hy : -2147483648 ≤ y ∧ y < 2147483648) (kt : y < x → V M N1 (tg pc off) ls st N σ Q) (kf : ¬ y < x → V M N1 (pc + 3) ls st N σ Q) : V M N1 pc ls (zI y :: zI x :: st) N σ Q := V_br (fun C k1 k2 => lv_icmp_gt C.1 C.2.1 hd (tg_ok ht) (fun q => k1 ((zi_lt hy hx).mp q)) (fun q => k2 (fun z => q ((zi_lt hy hx).mpr z)))) kt kf
theorem V_icmp_le {x y off : Int} (hd : decode (miB M) pc = .ok (.if_icmp .le off, 3)) (ht : 0 ≤ (pc : Int) + off) (hx : -2147483648 ≤ x ∧ x < 2147483648) (hy : -2147483648 ≤ y ∧ y < 2147483648) (kt : x ≤ y → V M N1 (tg pc off) ls st N σ Q) (kf : ¬ x ≤ y → V M N1 (pc + 3) ls st N σ Q) : V M N1 pc ls (zI y :: zI x :: st) N σ Q := V_br (fun C k1 k2 => lv_icmp_le C.1 C.2.1 hd (tg_ok ht) (fun q => k1 ((zi_le hx hy).mp q)) (fun q => k2 (fun z => q ((zi_le hx hy).mpr z)))) kt kf
def acmpOK : Value → Prop
  | .ref _ => True
  | .null => True
  | _ => False
def rvO : Value → Option Nat
  | .ref i => some i
  | _ => none
theorem tr_O {g : Gam} {v : Value} (h : acmpOK v) : tr g v = va_rf ((rvO v).map (fun i => gz g + i)) := by
  cases v <;> first | rfl | exact h.elim
theorem rvO_inj {g : Gam} {v w : Value} (h1 : acmpOK v) (h2 : acmpOK w) : (rvO v).map (fun i => gz g + i) = (rvO w).map (fun i => gz g + i) ↔ v = w := by
  cases v <;> cases w <;> simp_all [acmpOK, rvO]
theorem V_acmp_eq {v w : Value} {off : Int} (hd : decode (miB M) pc = .ok (.if_acmp .eq off, 3)) (ht : 0 ≤ (pc : Int) + off) (h1 : acmpOK v) (h2 : acmpOK w) (kt : v = w → V M N1 (tg pc off) ls st N σ Q) (kf : ¬ v = w → V M N1 (pc + 3) ls st N σ Q) : V M N1 pc ls (w :: v :: st) N σ Q := by
  refine V_br (P1 := v = w) (P2 := ¬ v = w) (fun {p l e R s m args below meth c g H locs cells slots lsA Zq} C k1 k2 => ?_) kt kf
  show W p l e R s m args below meth c H locs cells slots Zq (F0 m pc lsA (tr g w :: tr g v :: st.map (tr g)))
  rw [tr_O h1, tr_O h2]
  exact lv_acmp_eq C.1 C.2.1 hd (tg_ok ht) (fun q => k1 ((rvO_inj h1 h2).mp q)) (fun q => k2 (fun z => q ((rvO_inj h1 h2).mpr z)))
theorem V_acmp_ne {v w : Value} {off : Int} (hd : decode (miB M) pc = .ok (.if_acmp .ne off, 3)) (ht : 0 ≤ (pc : Int) + off) (h1 : acmpOK v) (h2 : acmpOK w) (kt : ¬ v = w → V M N1 (tg pc off) ls st N σ Q) (kf : v = w → V M N1 (pc + 3) ls st N σ Q) : V M N1 pc ls (w :: v :: st) N σ Q := by
  refine V_br (P1 := ¬ v = w) (P2 := v = w) (fun {p l e R s m args below meth c g H locs cells slots lsA Zq} C k1 k2 => ?_) kt kf
  show W p l e R s m args below meth c H locs cells slots Zq (F0 m pc lsA (tr g w :: tr g v :: st.map (tr g)))
  rw [tr_O h1, tr_O h2]
  exact lv_acmp_ne C.1 C.2.1 hd (tg_ok ht) (fun q => k1 (fun z => q ((rvO_inj h1 h2).mpr z))) (fun q => k2 ((rvO_inj h1 h2).mp q))
theorem V_ifnull {v : Value} {off : Int} (hd : decode (miB M) pc = .ok (.ifnull off, 3)) (ht : 0 ≤ (pc : Int) + off) (h1 : acmpOK v) (kt : v = .null → V M N1 (tg pc off) ls st N σ Q) (kf : ¬ v = .null → V M N1 (pc + 3) ls st N σ Q) : V M N1 pc ls (v :: st) N σ Q := by
  refine V_br (P1 := v = .null) (P2 := ¬ v = .null) (fun C k1 k2 => ?_) kt kf
  cases v with
  | ref x => exact lv_ifnull C.1 C.2.1 hd (k2 (fun z => by cases z))
  | null => exact lv_ifnullN C.1 C.2.1 hd (tg_ok ht) (k1 rfl)
  | _ => exact h1.elim
theorem V_ifnonnull {v : Value} {off : Int} (hd : decode (miB M) pc = .ok (.ifnonnull off, 3)) (ht : 0 ≤ (pc : Int) + off) (h1 : acmpOK v) (kt : ¬ v = .null → V M N1 (tg pc off) ls st N σ Q) (kf : v = .null → V M N1 (pc + 3) ls st N σ Q) : V M N1 pc ls (v :: st) N σ Q := by
  refine V_br (P1 := ¬ v = .null) (P2 := v = .null) (fun C k1 k2 => ?_) kt kf
  cases v with
  | ref x => exact lv_ifnonnull C.1 C.2.1 hd (tg_ok ht) (k1 (fun z => by cases z))
  | null => exact lv_ifnonnullN C.1 C.2.1 hd (k2 rfl)
  | _ => exact h1.elim
theorem V_table {dflt lo hi x : Int} {offs : Array Int} {len : Nat} (hd : decode (miB M) pc = .ok (.tableswitch dflt lo hi offs, len)) (h0 : 0 ≤ (pc : Int) + dflt) (h1 : (offs.toList.all (fun o => decide (0 ≤ (pc : Int) + o))) = true) (h2 : hi - lo + 1 = (offs.size : Int)) (hx : -2147483648 ≤ x ∧ x < 2147483648)
    (k1 : (x < lo ∨ hi < x) → V M N1 (tg pc dflt) ls st N σ Q) (k2 : ∀ j : Nat, ∀ o : Int, x = lo + (j : Int) → offs[j]? = some o → V M N1 (tg pc o) ls st N σ Q) : V M N1 pc ls (zI x :: st) N σ Q := by
  by_cases hq : x < lo ∨ hi < x
  · exact V_lift (fun C _ _ _ _ k => lv_tableOut C.1 C.2.1 hd (by rw [zi_to hx]; exact hq) (tg_ok h0) k) (k1 hq)
  · have a1 : ¬ x < lo := fun z => hq (Or.inl z)
    have a2 : ¬ hi < x := fun z => hq (Or.inr z)
    have hj : (x - lo).toNat < offs.size := by omega
    have ho : offs[(x - lo).toNat]? = some (offs[(x - lo).toNat]'hj) := Array.getElem?_eq_getElem hj
    refine V_lift (fun C _ _ _ _ k => lv_tableIn C.1 C.2.1 hd (by rw [zi_to hx]; exact a1) (by rw [zi_to hx]; exact a2) (by rw [zi_to hx]; exact ho) (tg_ok ?_) k) (k2 _ _ (by omega) ho)
    exact of_decide_eq_true (List.all_eq_true.mp h1 _ (by rw [Array.mem_toList_iff]; exact Array.getElem_mem hj))
theorem V_lookup {dflt x : Int} {ps : Array (Int × Int)} {len : Nat} {off : Int} (hd : decode (miB M) pc = .ok (.lookupswitch dflt ps, len)) (hp : (ps.toList.zip (ps.toList.drop 1)).all (fun (a, next) => a.1 < next.1) = true) (hx : -2147483648 ≤ x ∧ x < 2147483648) (ho : Op.lookupswitch.offset ps.toList dflt x = off) (ht : 0 ≤ (pc : Int) + off) (k : V M N1 (tg pc off) ls st N σ Q) : V M N1 pc ls (zI x :: st) N σ Q := V_lift (fun C _ _ _ _ k => lv_lookup C.1 C.2.1 hd hp (by rw [zi_to hx]; exact ho) (tg_ok ht) k) k
theorem V_ldc {i : Nat} {v : Int32} {e : Int} (hc : cnIR (miC M) i = some v) (he : Int32.ofInt e = v) (hd : decode (miB M) pc = .ok (.ldc i, 2)) (k : V M N1 (pc + 2) ls (zI e :: st) N σ Q) : V M N1 pc ls st N σ Q := V_lift (fun C _ _ _ _ k => lv_ldc C.1 C.2.1 C.2.2.2.1 (C.2.2.2.2.1 _ (cnIOK hc)) hd (by rw [← he]; exact k)) k
theorem V_ldc2 {i : Nat} {v : Int64} (hc : cnLR (miC M) i = some v) (hd : decode (miB M) pc = .ok (.ldc2_w i, 3)) (k : V M N1 (pc + 3) ls (.long v :: st) N σ Q) : V M N1 pc ls st N σ Q := V_lift (fun C _ _ _ _ k => lv_ldc2 C.1 C.2.1 C.2.2.2.1 (C.2.2.2.2.1 _ (cnLOK hc)) hd k) k
theorem V_objInit {i b : Nat} (ho : othR (miC M) i = some 0) (hlv : 1 ≤ miV M) (hc : (st.map fun v => v.category).sum ≤ 8) (hd : decode (miB M) pc = .ok (.invokespecial i, 3)) (k : V M N1 (pc + 3) ls st N σ Q) : V M N1 pc ls (.ref b :: st) N σ Q := by
  refine V_lift (fun {p l e R s m args below meth c g H locs cells slots lsA Zq} C hs _ _ _ k => ?_) k
  have h1 := C.2.2.2.2.2.2.1
  have h2 := C.2.2.2.2.2.2.2.1
  exact W.objInit C.1 C.2.1 C.2.2.2.1 (C.2.2.2.2.1 _ (othOK ho)) (C.2.2.2.2.1 _ uoO) (C.2.2.2.2.1 _ uoC) rfl hs.symm rfl hd (by omega) (by rw [tr_sum]; show 2 * 0 + _ + 12 ≤ _; omega) k
theorem V_min {i : Nat} {x y : Int} (ho : othR (miC M) i = some 2) (hlv : 1 ≤ miV M) (hc : (st.map fun v => v.category).sum ≤ 8) (hd : decode (miB M) pc = .ok (.invokestatic i, 3)) (hx : -2147483648 ≤ x ∧ x < 2147483648) (hy : -2147483648 ≤ y ∧ y < 2147483648) (k : V M N1 (pc + 3) ls (zI (if y < x then y else x) :: st) N σ Q) : V M N1 pc ls (zI y :: zI x :: st) N σ Q := by
  refine V_lift (fun {p l e R s m args below meth c g H locs cells slots lsA Zq} C hs hc1 hs1 _ k => ?_) k
  have h1 := C.2.2.2.2.2.2.1
  have h2 := C.2.2.2.2.2.2.2.1
  exact va_mmin C.1 C.2.1 hs C.2.2.2.1 (C.2.2.2.2.1 _ (othOK ho)) (C.2.2.2.2.1 _ umminS) (C.2.2.2.2.1 _ umI) (C.2.2.2.2.1 _ umminC) (by omega) (by rw [tr_sum]; omega) hc1 hs1 hd (by rw [show (if Int32.ofInt y < Int32.ofInt x then Int32.ofInt y else Int32.ofInt x) = Int32.ofInt (if y < x then y else x) by simp only [zi_lt hy hx]; split <;> rfl]; exact k)
theorem V_max {i : Nat} {x y : Int} (ho : othR (miC M) i = some 3) (hlv : 1 ≤ miV M) (hc : (st.map fun v => v.category).sum ≤ 8) (hd : decode (miB M) pc = .ok (.invokestatic i, 3)) (hx : -2147483648 ≤ x ∧ x < 2147483648) (hy : -2147483648 ≤ y ∧ y < 2147483648) (k : V M N1 (pc + 3) ls (zI (if x < y then y else x) :: st) N σ Q) : V M N1 pc ls (zI y :: zI x :: st) N σ Q := by
  refine V_lift (fun {p l e R s m args below meth c g H locs cells slots lsA Zq} C hs hc1 hs1 _ k => ?_) k
  have h1 := C.2.2.2.2.2.2.1
  have h2 := C.2.2.2.2.2.2.2.1
  exact va_mmax C.1 C.2.1 hs C.2.2.2.1 (C.2.2.2.2.1 _ (othOK ho)) (C.2.2.2.2.1 _ ummaxS) (C.2.2.2.2.1 _ umI) (C.2.2.2.2.1 _ ummaxC) (by omega) (by rw [tr_sum]; omega) hc1 hs1 hd (by rw [show (if Int32.ofInt x < Int32.ofInt y then Int32.ofInt y else Int32.ofInt x) = Int32.ofInt (if x < y then y else x) by simp only [zi_lt hx hy]; split <;> rfl]; exact k)
end ROWS
