/-! NUMBERS: a machine int that is named by a whole number -/
abbrev zI (e : Int) : Value := .int (Int32.ofInt e)
def zf (f : Int → Int) : Nat → Int32 := fun k => Int32.ofInt (f (k : Int))
theorem zi_to {e : Int} (h : -2147483648 ≤ e ∧ e < 2147483648) : (Int32.ofInt e).toInt = e := Int32.toInt_ofInt_of_le (by have := h.1; omega) (by have := h.2; omega)
theorem zi_of (x : Int32) : Int32.ofInt x.toInt = x := Int32.ofInt_toInt x
theorem zi_rg (x : Int32) : -2147483648 ≤ x.toInt ∧ x.toInt < 2147483648 := ⟨by have := x.le_toInt; omega, by have := x.toInt_lt; omega⟩
theorem zi_eq {x y : Int} (hx : -2147483648 ≤ x ∧ x < 2147483648) (hy : -2147483648 ≤ y ∧ y < 2147483648) : Int32.ofInt x = Int32.ofInt y ↔ x = y := by
  rw [← Int32.toInt_inj, zi_to hx, zi_to hy]
theorem zi_lt {x y : Int} (hx : -2147483648 ≤ x ∧ x < 2147483648) (hy : -2147483648 ≤ y ∧ y < 2147483648) : Int32.ofInt x < Int32.ofInt y ↔ x < y := by
  rw [Int32.lt_iff_toInt_lt, zi_to hx, zi_to hy]
theorem zi_le {x y : Int} (hx : -2147483648 ≤ x ∧ x < 2147483648) (hy : -2147483648 ≤ y ∧ y < 2147483648) : Int32.ofInt x ≤ Int32.ofInt y ↔ x ≤ y := by
  rw [Int32.le_iff_toInt_le, zi_to hx, zi_to hy]
theorem zi_add (x y : Int) : Int32.ofInt x + Int32.ofInt y = Int32.ofInt (x + y) := (Int32.ofInt_add x y).symm
theorem zi_mul (x y : Int) : Int32.ofInt x * Int32.ofInt y = Int32.ofInt (x * y) := (Int32.ofInt_mul x y).symm
theorem zi_neg (x : Int) : - Int32.ofInt x = Int32.ofInt (-x) := (Int32.ofInt_neg x).symm
theorem zi_sub (x y : Int) : Int32.ofInt x - Int32.ofInt y = Int32.ofInt (x - y) := (Int32.ofInt_sub x y).symm
theorem zi_div {x y : Int} (hx : 0 ≤ x ∧ x < 2147483648) (hy : 0 < y ∧ y < 2147483648) : Int32.ofInt x / Int32.ofInt y = Int32.ofInt (x / y) := by
  have h2 : x / y ≤ x := Int.ediv_le_self y hx.1
  have h3 : 0 ≤ x / y := Int.ediv_nonneg hx.1 (by omega)
  apply Int32.toInt_inj.mp
  rw [Int32.toInt_div_of_ne_right _ _ (by
    intro z
    have hz := congrArg Int32.toInt z
    rw [zi_to (by omega)] at hz
    have h5 : (-1 : Int32).toInt = -1 := by decide
    omega), zi_to (by omega), zi_to (by omega), zi_to (by omega), Int.tdiv_eq_ediv_of_nonneg hx.1]
theorem zi_rem {x y : Int} (hx : 0 ≤ x ∧ x < 2147483648) (hy : 0 < y ∧ y < 2147483648) : Int32.ofInt x - Int32.ofInt x / Int32.ofInt y * Int32.ofInt y = Int32.ofInt (x % y) := by
  rw [zi_div hx hy, zi_mul, zi_sub, Int.emod_def, Int.mul_comm]
theorem zi_cl {e : Int} (h : 0 ≤ e ∧ e < 2147483648) : (((Int32.ofInt e).toNatClampNeg : Nat) : Int) = e := by
  show (((Int32.ofInt e).toInt.toNat : Nat) : Int) = e
  rw [zi_to (by omega)]
  omega
theorem zi_in {e : Int} {n : Nat} (h0 : 0 ≤ e) (h1 : e < (n : Int)) (hn : n < 2147483648) : vp_in (Int32.ofInt e) n := by
  rw [vp_in_iff, zi_to (by omega)]
  exact ⟨h0, h1⟩
theorem zf_cl {f : Int → Int} {e : Int} (h : 0 ≤ e ∧ e < 2147483648) : zf f (Int32.ofInt e).toNatClampNeg = Int32.ofInt (f e) := by
  unfold zf
  rw [zi_cl h]
theorem zi_char {e : Int} (h : 0 ≤ e ∧ e < 65536) : vp_nar .char (Int32.ofInt e) = Int32.ofInt e := by
  obtain ⟨n, rfl⟩ := Int.eq_ofNat_of_zero_le h.1
  have h2 := pk_charN (q := n) (by omega)
  exact Value.int.inj h2.1
theorem zi_i2c {e : Int} (h : 0 ≤ e ∧ e < 65536) : ((Int32.ofInt e).toUInt32 % 65536).toInt32 = Int32.ofInt e := by
  obtain ⟨n, rfl⟩ := Int.eq_ofNat_of_zero_le h.1
  rw [pk_char]
  have h3 : (nI n).toBitVec.toNat = n := pk_tn (by omega)
  show nI ((nI n).toBitVec.toNat % 65536) = _
  rw [h3, Nat.mod_eq_of_lt (by omega)]
  rfl
theorem zi_and {e : Int} (h : 0 ≤ e ∧ e < 2147483648) (m : Nat) (k : Nat) (hm : (nI m).toBitVec.toNat = 2 ^ k - 1) : Int32.ofInt e &&& Int32.ofInt (m : Int) = Int32.ofInt (e % (2 ^ k : Nat)) := by
  obtain ⟨n, rfl⟩ := Int.eq_ofNat_of_zero_le h.1
  have h3 := pk_andN (n := n) (by omega) k hm
  exact h3
/-! THE ABSTRACT STORE: object ids in the order of making; ints, references, the script -/
abbrev Sto : Type := (Nat → Int → Int) × (Nat → Int → Option Nat) × Nat × (Nat → Int32)
abbrev Rho : Type := (Nat → Nat) × Nat × (Nat → Int32)
abbrev Gam : Type := va_G × (Nat → ClassId) × Nat × Rho
def gD (g : Gam) : va_G := g.1
def gC (g : Gam) : Nat → ClassId := g.2.1
def gz (g : Gam) : Nat := g.2.2.1
def gr (g : Gam) : Rho := g.2.2.2
def tr (g : Gam) : Value → Value
  | .ref i => .ref (gz g + i)
  | .retAddr k => .ref ((gr g).1 k)
  | v => v
theorem tr_cat (g : Gam) (v : Value) : (tr g v).category = v.category := by cases v <;> rfl
theorem tr_sum (g : Gam) (l : List Value) : ((l.map (tr g)).map fun v => v.category).sum = (l.map fun v => v.category).sum := by
  rw [List.map_map]
  congr 1
  apply List.map_congr_left
  intro v _
  exact tr_cat g v
/-- the cells of a machine, by their place behind it -/
def shM : Nat → Nat × Nat := fun k => match k with
  | 0 => (0, 4)
  | 1 => (0, 6)
  | 2 => (1, 4)
  | 3 => (1, 4)
  | 4 => (1, 4)
  | 5 => (0, 5)
  | 6 => (4, 10)
  | 17 => (0, 3)
  | 18 => (1, 9)
  | 19 => (1, 16)
  | 20 => (1, 16)
  | 21 => (1, 16)
  | 22 => (1, 6)
  | _ => (0, 1)
/-- what each cell is: (0, class), (1, length) ints, (2, length) chars, (3 + class, length) references -/
def sh (i : Nat) : Nat × Nat :=
  if i = 0 then (0, 7) else if i < 47 then shM ((i - 1) % 23) else if i = 47 then (0, 0) else if i = 48 then (7, 4) else if i < 141 then shM ((i - 49) % 23)
  else if i = 141 then (0, 2) else if i = 142 then (2, 100) else if i = 143 then (0, 1) else if i = 144 then (0, 8) else if i = 145 then (1, 185) else if i = 146 then (1, 740) else if i = 147 then (1, 185) else if i = 148 then (1, 100) else (1, 5)
def szs (i : Nat) : Nat := if (sh i).1 = 0 then nFs (sh i).2 else (sh i).2
def SL : Nat → Nat
  | 0 => 0
  | n + 1 => SL n + szs n
theorem SL_mono {a b : Nat} (h : a ≤ b) : SL a ≤ SL b := by
  induction b with
  | zero => rw [Nat.le_zero.mp h]; exact Nat.le_refl _
  | succ b ih =>
    rcases Nat.lt_or_ge a (b + 1) with q | q
    · exact Nat.le_trans (ih (by omega)) (Nat.le_add_right _ _)
    · rw [Nat.le_antisymm h q]; exact Nat.le_refl _
def isRf : FieldType → Bool
  | .object _ => true
  | .array _ => true
  | _ => false
def rv : Option Nat → Value
  | some i => .ref i
  | none => .null
/-- the value of field k of object i of class ci -/
def gv (σ : Sto) (i ci k : Nat) : Value := if isRf (tyXs ci k) = true then rv (σ.2.1 i (k : Int)) else zI (σ.1 i (k : Int))
theorem tr_rv (g : Gam) (r : Option Nat) : tr g (rv r) = va_rf (r.map (fun i => gz g + i)) := by cases r <;> rfl
def cel (g : Gam) (σ : Sto) (i : Nat) : va_E := match sh i with
  | (0, ci) => .inr (ci, (List.range (nFs ci)).map (fun k => tr g (gv σ i ci k)))
  | (1, n) => .inl (gC g 0, n, .inl (zf (σ.1 i)))
  | (2, n) => .inl (gC g 1, n, .inl (zf (σ.1 i)))
  | (k + 3, n) => .inl (gC g (k + 2), n, .inr (.inr (.inr (.inr (fun j => (σ.2.1 i (j : Int)).map (fun i => gz g + i))))))
theorem cel_o {g : Gam} {σ : Sto} {i ci : Nat} (h : sh i = (0, ci)) : cel g σ i = .inr (ci, (List.range (nFs ci)).map (fun k => tr g (gv σ i ci k))) := by unfold cel; rw [h]
theorem cel_i {g : Gam} {σ : Sto} {i n : Nat} (h : sh i = (1, n)) : cel g σ i = .inl (gC g 0, n, .inl (zf (σ.1 i))) := by unfold cel; rw [h]
theorem cel_c {g : Gam} {σ : Sto} {i n : Nat} (h : sh i = (2, n)) : cel g σ i = .inl (gC g 1, n, .inl (zf (σ.1 i))) := by unfold cel; rw [h]
theorem cel_q {g : Gam} {σ : Sto} {i k n : Nat} (h : sh i = (k + 3, n)) : cel g σ i = .inl (gC g (k + 2), n, .inr (.inr (.inr (.inr (fun j => (σ.2.1 i (j : Int)).map (fun i => gz g + i)))))) := by unfold cel; rw [h]
def wl (g : Gam) (N : Nat) (σ : Sto) : va_W := (List.range N).map (fun i => (gz g + i, cel g σ i))
theorem wl_at {g : Gam} {N : Nat} {σ : Sto} {i : Nat} (h : i < N) : (wl g N σ)[i]? = some (gz g + i, cel g σ i) := by simp [wl, h]
theorem wl_of {g : Gam} {N : Nat} {σ : Sto} {i : Nat} {q : Nat × va_E} (h : (wl g N σ)[i]? = some q) : i < N ∧ q = (gz g + i, cel g σ i) := by
  rcases Nat.lt_or_ge i N with hi | hi
  · rw [wl_at hi] at h
    exact ⟨hi, (Option.some.inj h).symm⟩
  · rw [List.getElem?_eq_none (by simp [wl]; exact hi)] at h
    cases h
theorem wl_D (g : Gam) (N : Nat) (σ : Sto) : va_D (fun q => gz g ≤ q) (wl g N σ) := by
  refine ⟨fun i j p q hi hj e => ?_, fun k q h => ?_⟩
  · obtain ⟨-, rfl⟩ := wl_of hi
    obtain ⟨-, rfl⟩ := wl_of hj
    exact Nat.add_left_cancel e
  · obtain ⟨-, rfl⟩ := wl_of h
    exact Nat.le_add_right _ _
/-- a store that differs at one cell -/
theorem wl_set {g : Gam} {N : Nat} {σ σ' : Sto} {i : Nat} {e : va_E} (he : cel g σ' i = e) (ho : ∀ j, j ≠ i → cel g σ' j = cel g σ j) : (wl g N σ).set i (gz g + i, e) = wl g N σ' := by
  apply List.ext_getElem?
  intro j
  by_cases hj : i = j
  · subst hj
    rcases Nat.lt_or_ge i N with h | h
    · rw [List.getElem?_set_self (by simp [wl, h]), wl_at h, he]
    · rw [List.getElem?_eq_none (by simp [wl, h]), List.getElem?_eq_none (by simp [wl, h])]
  · rw [List.getElem?_set_ne hj]
    rcases Nat.lt_or_ge j N with h | h
    · rw [wl_at h, wl_at h, ho j (Ne.symm hj)]
    · rw [List.getElem?_eq_none (by simp [wl, h]), List.getElem?_eq_none (by simp [wl, h])]
theorem wl_push {g : Gam} {N : Nat} {σ : Sto} : wl g (N + 1) σ = wl g N σ ++ [(gz g + N, cel g σ N)] := by
  simp [wl, List.range_succ]
def Wd (g : Gam) (N : Nat) (σ : Sto) (H : Heap) : Prop := (gr g).2 = σ.2.2 ∧ va_P (gD g) vwCl (wl g N σ) H
def tyL (cs : Nat → ClassId) : List (ClassId × FieldType) := [(cs 0, .int), (cs 1, .char), (cs 3, .object RX1), (cs 6, .object RX4)]
/-! WHAT STAYS: the statics, the script, the literals -/
def stN : Nat → String := fun j => match j with
  | 0 => "FIRST_SETTING"
  | 1 => "LEAST_SETTING"
  | _ => "GREATEST_SETTING"
def stV : Nat → Nat → Int32 := fun j k => match j with
  | 0 => (match k with | 0 => 2 | 1 => 1 | 2 => 3 | 3 => 30 | 4 => 0 | _ => 250)
  | 1 => (match k with | 0 => 1 | 1 => 0 | 2 => 0 | 3 => 2 | 4 => 0 | _ => 1)
  | _ => (match k with | 0 => 20 | 1 => 20 | 2 => 20 | 3 => 100 | 4 => 500 | _ => 1000)
def RO (g : Gam) (U : State) (H : Heap) : Prop :=
  (∀ j, j < 3 → va_Z RX7 (stN j) "[I" (.ref ((gr g).1 j)) (fun q => gz g ≤ q) U H ∧ va_T .int ((gr g).1 j) 6 (fun k => .int (stV j k)) (fun q => gz g ≤ q) U H) ∧
  (va_X ((gr g).1 3) (gr g).2.1 (gr g).2.2 U H ∧ (gr g).1 3 < gz g) ∧ True
def Cx (g : Gam) (U : State) (H : Heap) : Prop := va_K (gD g) vwCl (tyL (gC g)) U ∧ (∀ w ∈ nestL, va_Nw w U) ∧ va_Nw (.fieldLinkNest RX4 43 RX7 "FIRST_SETTING" "[I" RX7) U ∧ va_AO RX1 U ∧ va_AO RX4 U ∧ RO g U H
theorem nest_warm {s U : State} (hW : s.WarmedH U.vm) : ∀ w ∈ nestL, va_Nw w s → va_Nw w U := by
  intro w hw h
  simp only [nestL, List.mem_cons, List.not_mem_nil, or_false] at hw
  rcases hw with e | e | e | e | e | e | e | e | e <;> subst e <;> exact va_Nw.warmM hW h
theorem RO.warm {g : Gam} {s U : State} {H : Heap} (hW : s.WarmedH U.vm) (h : RO g s H) : RO g U H := by
  obtain ⟨h1, ⟨h2, h3⟩, -⟩ := h
  have hA := State.WarmedH.alike hW
  exact ⟨fun j hj => ⟨va_Z.moved hA (h1 j hj).1, va_T.moved hA (h1 j hj).2⟩, ⟨va_X.moved hA h2, h3⟩, trivial⟩
theorem RO.kept {g : Gam} {U : State} {H H1 : Heap} (h : RO g U H) (hz : gz g ≤ H.size) (hq : ∀ a : Nat, a < H.size → ¬ gz g ≤ a → H1[a]? = H[a]?) : RO g U H1 := by
  obtain ⟨h1, ⟨h2, h3⟩, -⟩ := h
  exact ⟨fun j hj => ⟨va_Z.kept (h1 j hj).1 hq, va_T.kept (h1 j hj).2 hq⟩, ⟨h2.kept (hq _ (by omega) (by omega)), h3⟩, trivial⟩
theorem Cx.warm {g : Gam} {s U : State} {H : Heap} (hW : s.WarmedH U.vm) (h : Cx g s H) : Cx g U H := by
  obtain ⟨h1, h2, h3, h4, h5, h6⟩ := h
  have hA := State.WarmedH.alike hW
  exact ⟨va_K.moved hA h1, fun w hw => nest_warm hW w hw (h2 w hw), va_Nw.warmF hW h3, va_AO.moved hA h4, va_AO.moved hA h5, h6.warm hW⟩
theorem Cx.kept {g : Gam} {U : State} {H H1 : Heap} (h : Cx g U H) (hz : gz g ≤ H.size) (hq : ∀ a : Nat, a < H.size → ¬ gz g ≤ a → H1[a]? = H[a]?) : Cx g U H1 := ⟨h.1, h.2.1, h.2.2.1, h.2.2.2.1, h.2.2.2.2.1, h.2.2.2.2.2.kept hz hq⟩
/-! THE JUDGMENT -/
def Ctx (M : MI) (p : Program) (R : Room) (s : State) (m : MethodId) (args : Array Value) (meth : Method) (c : Code) (g : Gam) : Prop :=
  p.tables.exec = Jvm.exec ∧ c.code = miB M ∧ c.maxLocals = miL M ∧ s.vm.findClass (RXs (miC M)) = some m.cls ∧ (∀ w ∈ UW, w.before args s = true) ∧ ((miN M).name = "<init>" → meth.name = "<init>") ∧ miV M ≤ R.frames ∧ 33 * miV M + 33 ≤ R.locals ∧ Cx g s s.heap ∧ gz g ≤ s.heap.size
def rtOK (M : MI) (pc : Nat) (v : Option Value) : Prop := match v with
  | none => decode (miB M) pc = .ok (.return_, 1) ∧ miR M = none
  | some (.int x) => decode (miB M) pc = .ok (.ireturn, 1) ∧ ∃ ty, miR M = some ty ∧ narrow ty (.int x) = .int x
  | some (.long _) => decode (miB M) pc = .ok (.lreturn, 1) ∧ miR M = some .long
  | some (.float _) => False
  | some (.double _) => False
  | some _ => decode (miB M) pc = .ok (.areturn, 1) ∧ ∃ n, miR M = some (.object n)
def V (M : MI) (N1 pc : Nat) (ls : List (Nat × Value)) (st : List Value) (N : Nat) (σ : Sto) (Q : Option Value → Sto → Prop) : Prop :=
  ∀ (p : Program) (l : Launch) (e : Env) (R : Room) (s : State) (m : MethodId) (args : Array Value) (below : List Frame) (meth : Method) (c : Code) (g : Gam) (N0 : Nat) (H : Heap) (locs : List Loc) (lsA : Array Slot) (Zq : State → Prop),
    Ctx M p R s m args meth c g → Wd g N σ H → va_S (fun q => gz g ≤ q) s.heap H locs → (N0 ≤ N ∧ N ≤ N1 ∧ N1 - N0 ≤ R.cells ∧ SL N1 - SL N0 ≤ R.slots ∧ s.heap.size = gz g + N0) → lv_has lsA (miL M) (ls.map (fun q => (q.1, tr g q.2))) →
    (∀ (v : Option Value) (σ' : Sto) (H' : Heap) (locs' : List Loc) (lsA' : Array Slot) (pc' : Nat), Q v σ' → Wd g N1 σ' H' → va_S (fun q => gz g ≤ q) s.heap H' locs' → rtOK M pc' v → W p l e R s m args below meth c H' locs' (N1 - N0) (SL N1 - SL N0) Zq (F0 m pc' lsA' (v.toList.map (tr g)))) →
    W p l e R s m args below meth c H locs (N - N0) (SL N - SL N0) Zq (F0 m pc lsA (st.map (tr g)))
def Wx (M : MI) : List Cond := Cond.code (miN M) (miB M) (miL M) (miR M) :: UW
def rmM (M : MI) (N N1 : Nat) : Room := { frames := miV M, cells := N1 - N, slots := SL N1 - SL N, locals := 33 * miV M + 33 }
def PP (g : Gam) (N : Nat) (σ : Sto) (U : State) : Prop := Wd g N σ U.heap ∧ Cx g U U.heap ∧ U.heap.size = gz g + N
def QQ (g : Gam) (N1 : Nat) (Q : Option Value → Sto → Prop) : Array Value → State → Outcome → State → Prop := fun _ st o t => (∃ (v : Option Value) (σ' : Sto), o = .returned (v.map (tr g)) ∧ Q v σ' ∧ Wd g N1 σ' t.heap) ∧ va_F (fun q => gz g ≤ q) st t
/-- a method's contract: from this store and these arguments it returns, with Q of its answer and the store -/
def Con (M : MI) (N N1 : Nat) (σ : Sto) (av : List Value) (Q : Option Value → Sto → Prop) : Prop :=
  N ≤ N1 ∧ ∀ (l : Launch) (g : Gam), Met l (miN M) (Wx M) (rmM M N N1) (va_Pc (av.map (tr g)) (PP g N σ)) (QQ g N1 Q) (N1 - N) (SL N1 - SL N) (fun q => gz g ≤ q)
