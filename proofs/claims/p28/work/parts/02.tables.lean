def UW : List Cond := lw_tbl.filter goodWord
theorem uw {w : Cond} (i : Nat) (h : lw_tbl[i]? = some w) (g : goodWord w = true) : w ∈ UW := List.mem_filter.mpr ⟨List.mem_of_getElem? h, g⟩
theorem uwT {w : Cond} (h : w ∈ UW) : w ∈ lw_tbl := (List.mem_filter.mp h).1
theorem uwG : GoodIn UW UW := fun _ h => ⟨h, good_of_word (List.mem_filter.mp h).2⟩
theorem uwL {ws : List Cond} (is : List Nat) (h : is.map (fun i => lw_tbl[i]?) = ws.map some) (g : ws.all goodWord = true) : ∀ w ∈ ws, w ∈ UW := by
  intro w hw
  have h1 : some w ∈ ws.map some := List.mem_map.mpr ⟨w, hw, rfl⟩
  rw [← h] at h1
  obtain ⟨i, -, hi⟩ := List.mem_map.mp h1
  exact uw i hi (List.all_eq_true.mp g w hw)
def RXs : Nat → String := fun c => match c with
  | 0 => RX0
  | 1 => RX1
  | 2 => RX2
  | 3 => RX3
  | 4 => RX4
  | 5 => RX5
  | 6 => RX6
  | 7 => RX7
  | _ => RL
def TXs : Nat → u_T := fun c => match c with
  | 0 => TX0
  | 1 => TX1
  | 2 => TX2
  | 3 => TX3
  | 4 => TX4
  | 5 => TX5
  | 6 => TX6
  | _ => TX7
def nFs : Nat → Nat := fun c => match c with
  | 0 => 2
  | 1 => 15
  | 2 => 6
  | 3 => 6
  | 4 => 9
  | 5 => 4
  | 6 => 3
  | 7 => 6
  | _ => 0
def tyXs : Nat → Nat → FieldType := fun c => match c with
  | 0 => tyX0
  | 1 => tyX1
  | 2 => tyX2
  | 3 => tyX3
  | 4 => tyX4
  | 5 => tyX5
  | 6 => tyX6
  | _ => tyX7
theorem lt8 {P : Nat → Prop} (h0 : P 0) (h1 : P 1) (h2 : P 2) (h3 : P 3) (h4 : P 4) (h5 : P 5) (h6 : P 6) (h7 : P 7) : ∀ c, c < 8 → P c := by
  intro c hc
  rcases (show c = 0 ∨ c = 1 ∨ c = 2 ∨ c = 3 ∨ c = 4 ∨ c = 5 ∨ c = 6 ∨ c = 7 by omega) with h | h | h | h | h | h | h | h <;> subst h <;> assumption
theorem clAt : ∀ c, c < 8 → vwCl[c]? = some (RXs c, TXs c, nFs c) := lt8 rfl rfl rfl rfl rfl rfl rfl rfl
theorem tyOk : ∀ c, c < 8 → ∀ k, k < nFs c → parseFieldDescriptor (TXs c k).2.2.1 = some (tyXs c k) := lt8 tyX0_ok tyX1_ok tyX2_ok tyX3_ok tyX4_ok tyX5_ok tyX6_ok tyX7_ok
theorem nmOk : ∀ c, c < 8 → ∀ a, a < nFs c → ∀ b, b < nFs c → a ≠ b → (TXs c a).2.1 ≠ (TXs c b).2.1 := lt8 nmX0 nmX1 nmX2 nmX3 nmX4 nmX5 nmX6 nmX7
theorem layU0 : ∀ w ∈ u_ws RX0 TX0 2, w ∈ UW := uwL [227, 229] (by decide +kernel) (by decide +kernel)
theorem layU1 : ∀ w ∈ u_ws RX1 TX1 15, w ∈ UW := uwL [93, 95, 97, 99, 101, 103, 105, 107, 109, 111, 113, 115, 117, 119, 121] (by decide +kernel) (by decide +kernel)
theorem layU2 : ∀ w ∈ u_ws RX2 TX2 6, w ∈ UW := uwL [247, 249, 251, 253, 255, 257] (by decide +kernel) (by decide +kernel)
theorem layU3 : ∀ w ∈ u_ws RX3 TX3 6, w ∈ UW := uwL [158, 160, 162, 164, 166, 168] (by decide +kernel) (by decide +kernel)
theorem layU4 : ∀ w ∈ u_ws RX4 TX4 9, w ∈ UW := uwL [196, 198, 200, 202, 204, 206, 208, 210, 212] (by decide +kernel) (by decide +kernel)
theorem layU5 : ∀ w ∈ u_ws RX5 TX5 4, w ∈ UW := uwL [131, 133, 135, 137] (by decide +kernel) (by decide +kernel)
theorem layU6 : ∀ w ∈ u_ws RX6 TX6 3, w ∈ UW := uwL [42, 44, 46] (by decide +kernel) (by decide +kernel)
theorem layU7 : ∀ w ∈ u_ws RX7 TX7 6, w ∈ UW := uwL [269, 271, 273, 275, 277, 279] (by decide +kernel) (by decide +kernel)
theorem layUW : ∀ c, c < 8 → ∀ w ∈ u_ws (RXs c) (TXs c) (nFs c), w ∈ UW := lt8 layU0 layU1 layU2 layU3 layU4 layU5 layU6 layU7
theorem insU0 : Cond.instantiable RX0 2 ∈ UW := uw 216 (by decide +kernel) rfl
theorem iniU0 : Cond.initialized RX0 ∈ UW := uw 9 (by decide +kernel) rfl
theorem insU1 : Cond.instantiable RX1 15 ∈ UW := uw 58 (by decide +kernel) rfl
theorem iniU1 : Cond.initialized RX1 ∈ UW := uw 6 (by decide +kernel) rfl
theorem insU2 : Cond.instantiable RX2 6 ∈ UW := uw 233 (by decide +kernel) rfl
theorem iniU2 : Cond.initialized RX2 ∈ UW := uw 10 (by decide +kernel) rfl
theorem insU3 : Cond.instantiable RX3 6 ∈ UW := uw 141 (by decide +kernel) rfl
theorem iniU3 : Cond.initialized RX3 ∈ UW := uw 7 (by decide +kernel) rfl
theorem insU4 : Cond.instantiable RX4 9 ∈ UW := uw 25 (by decide +kernel) rfl
theorem iniU4 : Cond.initialized RX4 ∈ UW := uw 3 (by decide +kernel) rfl
theorem insU5 : Cond.instantiable RX5 4 ∈ UW := uw 51 (by decide +kernel) rfl
theorem iniU5 : Cond.initialized RX5 ∈ UW := uw 5 (by decide +kernel) rfl
theorem insU6 : Cond.instantiable RX6 3 ∈ UW := uw 31 (by decide +kernel) rfl
theorem iniU6 : Cond.initialized RX6 ∈ UW := uw 4 (by decide +kernel) rfl
theorem insU7 : Cond.instantiable RX7 6 ∈ UW := uw 17 (by decide +kernel) rfl
theorem iniU7 : Cond.initialized RX7 ∈ UW := uw 2 (by decide +kernel) rfl
theorem insUW : ∀ c, c < 8 → Cond.instantiable (RXs c) (nFs c) ∈ UW := lt8 insU0 insU1 insU2 insU3 insU4 insU5 insU6 insU7
theorem iniUW : ∀ c, c < 8 → Cond.initialized (RXs c) ∈ UW := lt8 iniU0 iniU1 iniU2 iniU3 iniU4 iniU5 iniU6 iniU7
def fldL : List (Nat × Nat × Nat × Nat × Nat) := [(0, 11, 0, 0, 224), (0, 18, 0, 1, 225), (1, 9, 1, 1, 67), (1, 15, 1, 2, 68), (1, 18, 1, 3, 69), (1, 21, 1, 4, 71), (1, 24, 1, 5, 73), (1, 27, 1, 6, 74), (1, 31, 1, 7, 75), (1, 34, 1, 8, 76), (1, 37, 1, 9, 78), (1, 40, 1, 10, 79), (1, 43, 1, 11, 81), (1, 46, 1, 12, 84), (1, 49, 1, 13, 87), (1, 52, 1, 14, 91), (1, 55, 1, 0, 63), (2, 9, 2, 0, 238), (2, 15, 2, 1, 239), (2, 23, 4, 3, 184), (2, 29, 4, 1, 179), (2, 39, 2, 2, 241), (2, 42, 2, 3, 242), (2, 45, 2, 5, 245), (2, 48, 2, 4, 243), (3, 9, 3, 0, 146), (3, 15, 3, 1, 148), (3, 18, 3, 2, 150), (3, 21, 3, 3, 152), (3, 30, 3, 4, 154), (3, 34, 3, 5, 156), (4, 12, 4, 0, 176), (4, 21, 4, 1, 178), (4, 28, 4, 2, 181), (4, 32, 4, 3, 183), (4, 36, 4, 4, 186), (4, 40, 4, 6, 190), (4, 62, 4, 5, 188), (4, 65, 4, 7, 192), (4, 68, 4, 8, 194), (4, 108, 1, 8, 77), (4, 111, 1, 3, 70), (4, 114, 1, 4, 72), (4, 127, 1, 0, 65), (4, 130, 5, 3, 130), (4, 150, 3, 5, 157), (4, 153, 1, 13, 89), (4, 159, 1, 14, 92), (5, 11, 5, 0, 124), (5, 17, 5, 3, 129), (5, 22, 5, 1, 125), (5, 25, 5, 2, 127), (5, 32, 1, 0, 64), (5, 35, 1, 12, 85), (5, 39, 1, 11, 82), (5, 54, 1, 10, 80), (5, 57, 1, 13, 90), (6, 9, 6, 0, 36), (6, 15, 6, 1, 38), (6, 18, 6, 2, 40), (7, 12, 7, 0, 263), (7, 16, 7, 1, 264), (7, 22, 7, 2, 265), (7, 29, 7, 3, 266), (7, 36, 7, 4, 267), (7, 48, 4, 0, 177), (7, 52, 6, 2, 41), (7, 69, 6, 0, 37), (7, 72, 6, 1, 39), (7, 79, 4, 4, 187), (7, 83, 4, 5, 189), (7, 92, 4, 3, 185), (7, 107, 7, 5, 268), (7, 110, 4, 1, 180), (7, 128, 1, 12, 86), (7, 136, 1, 13, 88), (7, 142, 4, 2, 182), (7, 152, 1, 11, 83), (7, 161, 1, 0, 66), (7, 164, 3, 0, 147), (7, 178, 5, 1, 126), (7, 184, 5, 2, 128), (7, 187, 4, 8, 195), (7, 190, 4, 6, 191), (7, 193, 4, 7, 193), (7, 196, 3, 4, 155), (7, 199, 0, 1, 226), (7, 202, 2, 1, 240), (7, 208, 3, 1, 149), (7, 211, 3, 2, 151), (7, 214, 3, 3, 153), (7, 234, 2, 5, 246), (7, 237, 2, 4, 244)]
def fldR (c i : Nat) : Option (Nat × Nat) := (fldL.find? (fun e => e.1 == c && e.2.1 == i)).map (fun e => (e.2.2.1, e.2.2.2.1))
def fldB (e : Nat × Nat × Nat × Nat × Nat) : Bool := decide (e.2.2.1 < 8) && decide (e.2.2.2.1 < nFs e.2.2.1) && decide (lw_tbl[e.2.2.2.2]? = some (Cond.fieldLink (RXs e.1) e.2.1 (TXs e.2.2.1 e.2.2.2.1).1 (TXs e.2.2.1 e.2.2.2.1).2.1 (TXs e.2.2.1 e.2.2.2.1).2.2.1))
theorem fldBs : fldL.all fldB = true := by decide +kernel
theorem fldOK {c i ci k : Nat} (h : fldR c i = some (ci, k)) : ci < 8 ∧ k < nFs ci ∧ Cond.fieldLink (RXs c) i (TXs ci k).1 (TXs ci k).2.1 (TXs ci k).2.2.1 ∈ UW := by
  unfold fldR at h
  cases hf : fldL.find? (fun e => e.1 == c && e.2.1 == i) with
  | none => rw [hf] at h; cases h
  | some e =>
    rw [hf] at h
    have h1 := List.find?_some hf
    have h2 := List.all_eq_true.mp fldBs e (List.mem_of_find?_eq_some hf)
    obtain ⟨a, b, d, f, q⟩ := e
    simp only [Option.map_some, Option.some.injEq, Prod.mk.injEq] at h
    simp only [Bool.and_eq_true, beq_iff_eq] at h1
    obtain ⟨rfl, rfl⟩ := h1
    obtain ⟨rfl, rfl⟩ := h
    simp only [fldB, Bool.and_eq_true, decide_eq_true_eq] at h2
    exact ⟨h2.1.1, h2.1.2, uw q h2.2 rfl⟩
theorem fr_0 : fldR 0 11 = some (0, 0) ∧ fldR 0 18 = some (0, 1) := ⟨rfl, rfl⟩
theorem fr_1 : fldR 1 9 = some (1, 1) ∧ fldR 1 15 = some (1, 2) ∧ fldR 1 18 = some (1, 3) ∧ fldR 1 21 = some (1, 4) ∧ fldR 1 24 = some (1, 5) ∧ fldR 1 27 = some (1, 6) ∧ fldR 1 31 = some (1, 7) ∧ fldR 1 34 = some (1, 8) ∧ fldR 1 37 = some (1, 9) ∧ fldR 1 40 = some (1, 10) ∧ fldR 1 43 = some (1, 11) ∧ fldR 1 46 = some (1, 12) ∧ fldR 1 49 = some (1, 13) ∧ fldR 1 52 = some (1, 14) ∧ fldR 1 55 = some (1, 0) := ⟨rfl, rfl, rfl, rfl, rfl, rfl, rfl, rfl, rfl, rfl, rfl, rfl, rfl, rfl, rfl⟩
theorem fr_2 : fldR 2 9 = some (2, 0) ∧ fldR 2 15 = some (2, 1) ∧ fldR 2 23 = some (4, 3) ∧ fldR 2 29 = some (4, 1) ∧ fldR 2 39 = some (2, 2) ∧ fldR 2 42 = some (2, 3) ∧ fldR 2 45 = some (2, 5) ∧ fldR 2 48 = some (2, 4) := ⟨rfl, rfl, rfl, rfl, rfl, rfl, rfl, rfl⟩
theorem fr_3 : fldR 3 9 = some (3, 0) ∧ fldR 3 15 = some (3, 1) ∧ fldR 3 18 = some (3, 2) ∧ fldR 3 21 = some (3, 3) ∧ fldR 3 30 = some (3, 4) ∧ fldR 3 34 = some (3, 5) := ⟨rfl, rfl, rfl, rfl, rfl, rfl⟩
theorem fr_4 : fldR 4 12 = some (4, 0) ∧ fldR 4 21 = some (4, 1) ∧ fldR 4 28 = some (4, 2) ∧ fldR 4 32 = some (4, 3) ∧ fldR 4 36 = some (4, 4) ∧ fldR 4 40 = some (4, 6) ∧ fldR 4 62 = some (4, 5) ∧ fldR 4 65 = some (4, 7) ∧ fldR 4 68 = some (4, 8) ∧ fldR 4 108 = some (1, 8) ∧ fldR 4 111 = some (1, 3) ∧ fldR 4 114 = some (1, 4) ∧ fldR 4 127 = some (1, 0) ∧ fldR 4 130 = some (5, 3) ∧ fldR 4 150 = some (3, 5) ∧ fldR 4 153 = some (1, 13) ∧ fldR 4 159 = some (1, 14) := ⟨rfl, rfl, rfl, rfl, rfl, rfl, rfl, rfl, rfl, rfl, rfl, rfl, rfl, rfl, rfl, rfl, rfl⟩
theorem fr_5 : fldR 5 11 = some (5, 0) ∧ fldR 5 17 = some (5, 3) ∧ fldR 5 22 = some (5, 1) ∧ fldR 5 25 = some (5, 2) ∧ fldR 5 32 = some (1, 0) ∧ fldR 5 35 = some (1, 12) ∧ fldR 5 39 = some (1, 11) ∧ fldR 5 54 = some (1, 10) ∧ fldR 5 57 = some (1, 13) := ⟨rfl, rfl, rfl, rfl, rfl, rfl, rfl, rfl, rfl⟩
theorem fr_6 : fldR 6 9 = some (6, 0) ∧ fldR 6 15 = some (6, 1) ∧ fldR 6 18 = some (6, 2) := ⟨rfl, rfl, rfl⟩
theorem fr_7 : fldR 7 12 = some (7, 0) ∧ fldR 7 16 = some (7, 1) ∧ fldR 7 22 = some (7, 2) ∧ fldR 7 29 = some (7, 3) ∧ fldR 7 36 = some (7, 4) ∧ fldR 7 48 = some (4, 0) ∧ fldR 7 52 = some (6, 2) ∧ fldR 7 69 = some (6, 0) ∧ fldR 7 72 = some (6, 1) ∧ fldR 7 79 = some (4, 4) ∧ fldR 7 83 = some (4, 5) ∧ fldR 7 92 = some (4, 3) ∧ fldR 7 107 = some (7, 5) ∧ fldR 7 110 = some (4, 1) ∧ fldR 7 128 = some (1, 12) ∧ fldR 7 136 = some (1, 13) ∧ fldR 7 142 = some (4, 2) ∧ fldR 7 152 = some (1, 11) ∧ fldR 7 161 = some (1, 0) ∧ fldR 7 164 = some (3, 0) ∧ fldR 7 178 = some (5, 1) ∧ fldR 7 184 = some (5, 2) ∧ fldR 7 187 = some (4, 8) ∧ fldR 7 190 = some (4, 6) ∧ fldR 7 193 = some (4, 7) ∧ fldR 7 196 = some (3, 4) ∧ fldR 7 199 = some (0, 1) ∧ fldR 7 202 = some (2, 1) ∧ fldR 7 208 = some (3, 1) ∧ fldR 7 211 = some (3, 2) ∧ fldR 7 214 = some (3, 3) ∧ fldR 7 234 = some (2, 5) ∧ fldR 7 237 = some (2, 4) := ⟨rfl, rfl, rfl, rfl, rfl, rfl, rfl, rfl, rfl, rfl, rfl, rfl, rfl, rfl, rfl, rfl, rfl, rfl, rfl, rfl, rfl, rfl, rfl, rfl, rfl, rfl, rfl, rfl, rfl, rfl, rfl, rfl, rfl⟩
abbrev MI : Type := MethodName × ByteArray × Nat × Option FieldType × Nat × Nat
def miN (M : MI) : MethodName := M.1
def miB (M : MI) : ByteArray := M.2.1
def miL (M : MI) : Nat := M.2.2.1
def miR (M : MI) : Option FieldType := M.2.2.2.1
def miC (M : MI) : Nat := M.2.2.2.2.1
def miV (M : MI) : Nat := M.2.2.2.2.2
def mOK (M : MI) : Prop := plainName (miN M).cls = true ∧ Cond.code (miN M) (miB M) (miL M) (miR M) ∈ UW ∧ (miN M).cls = RXs (miC M) ∧ miL M ≤ 14
theorem mOKi {M : MI} (i : Nat) (h1 : plainName (miN M).cls = true) (h2 : lw_tbl[i]? = some (Cond.code (miN M) (miB M) (miL M) (miR M))) (h3 : (miN M).cls = RXs (miC M)) (h4 : miL M ≤ 14) : mOK M := ⟨h1, uw i h2 rfl, h3, h4⟩
def M_X0_init : MI := (yX0_init, cX0_init, 2, (Option.none : Option FieldType), 0, 4)
theorem I_X0_init : miB M_X0_init = cX0_init ∧ miL M_X0_init = 2 ∧ miR M_X0_init = (Option.none : Option FieldType) ∧ miC M_X0_init = 0 ∧ miV M_X0_init = 4 := ⟨rfl, rfl, rfl, rfl, rfl⟩
theorem ok_X0_init : mOK M_X0_init := mOKi 219 (by decide +kernel) (by decide +kernel) rfl (by decide +kernel)
def M_X0_keep : MI := (yX0_keep, cX0_keep, 2, (Option.none : Option FieldType), 0, 3)
theorem I_X0_keep : miB M_X0_keep = cX0_keep ∧ miL M_X0_keep = 2 ∧ miR M_X0_keep = (Option.none : Option FieldType) ∧ miC M_X0_keep = 0 ∧ miV M_X0_keep = 3 := ⟨rfl, rfl, rfl, rfl, rfl⟩
theorem ok_X0_keep : mOK M_X0_keep := mOKi 501 (by decide +kernel) (by decide +kernel) rfl (by decide +kernel)
def M_X0_dropOldest : MI := (yX0_dropOldest, cX0_dropOldest, 3, (Option.none : Option FieldType), 0, 0)
theorem I_X0_dropOldest : miB M_X0_dropOldest = cX0_dropOldest ∧ miL M_X0_dropOldest = 3 ∧ miR M_X0_dropOldest = (Option.none : Option FieldType) ∧ miC M_X0_dropOldest = 0 ∧ miV M_X0_dropOldest = 0 := ⟨rfl, rfl, rfl, rfl, rfl⟩
theorem ok_X0_dropOldest : mOK M_X0_dropOldest := mOKi 505 (by decide +kernel) (by decide +kernel) rfl (by decide +kernel)
def M_X0_restore : MI := (yX0_restore, cX0_restore, 2, (Option.some FieldType.boolean), 0, 3)
theorem I_X0_restore : miB M_X0_restore = cX0_restore ∧ miL M_X0_restore = 2 ∧ miR M_X0_restore = (Option.some FieldType.boolean) ∧ miC M_X0_restore = 0 ∧ miV M_X0_restore = 3 := ⟨rfl, rfl, rfl, rfl, rfl⟩
theorem ok_X0_restore : mOK M_X0_restore := mOKi 320 (by decide +kernel) (by decide +kernel) rfl (by decide +kernel)
def M_X1_init : MI := (yX1_init, cX1_init, 1, (Option.none : Option FieldType), 1, 1)
theorem I_X1_init : miB M_X1_init = cX1_init ∧ miL M_X1_init = 1 ∧ miR M_X1_init = (Option.none : Option FieldType) ∧ miC M_X1_init = 1 ∧ miV M_X1_init = 1 := ⟨rfl, rfl, rfl, rfl, rfl⟩
theorem ok_X1_init : mOK M_X1_init := mOKi 61 (by decide +kernel) (by decide +kernel) rfl (by decide +kernel)
def M_X1_describe : MI := (yX1_describe, cX1_describe, 6, (Option.none : Option FieldType), 1, 0)
theorem I_X1_describe : miB M_X1_describe = cX1_describe ∧ miL M_X1_describe = 6 ∧ miR M_X1_describe = (Option.none : Option FieldType) ∧ miC M_X1_describe = 1 ∧ miV M_X1_describe = 0 := ⟨rfl, rfl, rfl, rfl, rfl⟩
theorem ok_X1_describe : mOK M_X1_describe := mOKi 534 (by decide +kernel) (by decide +kernel) rfl (by decide +kernel)
def M_X1_copyFrom : MI := (yX1_copyFrom, cX1_copyFrom, 2, (Option.none : Option FieldType), 1, 0)
theorem I_X1_copyFrom : miB M_X1_copyFrom = cX1_copyFrom ∧ miL M_X1_copyFrom = 2 ∧ miR M_X1_copyFrom = (Option.none : Option FieldType) ∧ miC M_X1_copyFrom = 1 ∧ miV M_X1_copyFrom = 0 := ⟨rfl, rfl, rfl, rfl, rfl⟩
theorem ok_X1_copyFrom : mOK M_X1_copyFrom := mOKi 337 (by decide +kernel) (by decide +kernel) rfl (by decide +kernel)
def M_X1_isInRange : MI := (yX1_isInRange, cX1_isInRange, 1, (Option.some FieldType.boolean), 1, 1)
theorem I_X1_isInRange : miB M_X1_isInRange = cX1_isInRange ∧ miL M_X1_isInRange = 1 ∧ miR M_X1_isInRange = (Option.some FieldType.boolean) ∧ miC M_X1_isInRange = 1 ∧ miV M_X1_isInRange = 1 := ⟨rfl, rfl, rfl, rfl, rfl⟩
theorem ok_X1_isInRange : mOK M_X1_isInRange := mOKi 538 (by decide +kernel) (by decide +kernel) rfl (by decide +kernel)
def M_X1_isOn : MI := (yX1_isOn, cX1_isOn, 3, (Option.some FieldType.boolean), 1, 0)
theorem I_X1_isOn : miB M_X1_isOn = cX1_isOn ∧ miL M_X1_isOn = 3 ∧ miR M_X1_isOn = (Option.some FieldType.boolean) ∧ miC M_X1_isOn = 1 ∧ miV M_X1_isOn = 0 := ⟨rfl, rfl, rfl, rfl, rfl⟩
theorem ok_X1_isOn : mOK M_X1_isOn := mOKi 406 (by decide +kernel) (by decide +kernel) rfl (by decide +kernel)
def M_X1_staplingRefusal : MI := (yX1_staplingRefusal, cX1_staplingRefusal, 3, (Option.some FieldType.int), 1, 0)
theorem I_X1_staplingRefusal : miB M_X1_staplingRefusal = cX1_staplingRefusal ∧ miL M_X1_staplingRefusal = 3 ∧ miR M_X1_staplingRefusal = (Option.some FieldType.int) ∧ miC M_X1_staplingRefusal = 1 ∧ miV M_X1_staplingRefusal = 0 := ⟨rfl, rfl, rfl, rfl, rfl⟩
theorem ok_X1_staplingRefusal : mOK M_X1_staplingRefusal := mOKi 543 (by decide +kernel) (by decide +kernel) rfl (by decide +kernel)
def M_X1_hasSetToStaple : MI := (yX1_hasSetToStaple, cX1_hasSetToStaple, 1, (Option.some FieldType.boolean), 1, 0)
theorem I_X1_hasSetToStaple : miB M_X1_hasSetToStaple = cX1_hasSetToStaple ∧ miL M_X1_hasSetToStaple = 1 ∧ miR M_X1_hasSetToStaple = (Option.some FieldType.boolean) ∧ miC M_X1_hasSetToStaple = 1 ∧ miV M_X1_hasSetToStaple = 0 := ⟨rfl, rfl, rfl, rfl, rfl⟩
theorem ok_X1_hasSetToStaple : mOK M_X1_hasSetToStaple := mOKi 440 (by decide +kernel) (by decide +kernel) rfl (by decide +kernel)
def M_X1_isFinished : MI := (yX1_isFinished, cX1_isFinished, 1, (Option.some FieldType.boolean), 1, 0)
theorem I_X1_isFinished : miB M_X1_isFinished = cX1_isFinished ∧ miL M_X1_isFinished = 1 ∧ miR M_X1_isFinished = (Option.some FieldType.boolean) ∧ miC M_X1_isFinished = 1 ∧ miV M_X1_isFinished = 0 := ⟨rfl, rfl, rfl, rfl, rfl⟩
theorem ok_X1_isFinished : mOK M_X1_isFinished := mOKi 468 (by decide +kernel) (by decide +kernel) rfl (by decide +kernel)
def M_X1_nextSheet : MI := (yX1_nextSheet, cX1_nextSheet, 1, (Option.some FieldType.int), 1, 0)
theorem I_X1_nextSheet : miB M_X1_nextSheet = cX1_nextSheet ∧ miL M_X1_nextSheet = 1 ∧ miR M_X1_nextSheet = (Option.some FieldType.int) ∧ miC M_X1_nextSheet = 1 ∧ miV M_X1_nextSheet = 0 := ⟨rfl, rfl, rfl, rfl, rfl⟩
theorem ok_X1_nextSheet : mOK M_X1_nextSheet := mOKi 375 (by decide +kernel) (by decide +kernel) rfl (by decide +kernel)
def M_X1_nextCopy : MI := (yX1_nextCopy, cX1_nextCopy, 1, (Option.some FieldType.int), 1, 0)
theorem I_X1_nextCopy : miB M_X1_nextCopy = cX1_nextCopy ∧ miL M_X1_nextCopy = 1 ∧ miR M_X1_nextCopy = (Option.some FieldType.int) ∧ miC M_X1_nextCopy = 1 ∧ miV M_X1_nextCopy = 0 := ⟨rfl, rfl, rfl, rfl, rfl⟩
theorem ok_X1_nextCopy : mOK M_X1_nextCopy := mOKi 379 (by decide +kernel) (by decide +kernel) rfl (by decide +kernel)
def M_X1_sidesOfNextSheet : MI := (yX1_sidesOfNextSheet, cX1_sidesOfNextSheet, 2, (Option.some FieldType.int), 1, 1)
theorem I_X1_sidesOfNextSheet : miB M_X1_sidesOfNextSheet = cX1_sidesOfNextSheet ∧ miL M_X1_sidesOfNextSheet = 2 ∧ miR M_X1_sidesOfNextSheet = (Option.some FieldType.int) ∧ miC M_X1_sidesOfNextSheet = 1 ∧ miV M_X1_sidesOfNextSheet = 1 := ⟨rfl, rfl, rfl, rfl, rfl⟩
theorem ok_X1_sidesOfNextSheet : mOK M_X1_sidesOfNextSheet := mOKi 490 (by decide +kernel) (by decide +kernel) rfl (by decide +kernel)
def M_X1_property : MI := (yX1_property, cX1_property, 2, (Option.some FieldType.int), 1, 1)
theorem I_X1_property : miB M_X1_property = cX1_property ∧ miL M_X1_property = 2 ∧ miR M_X1_property = (Option.some FieldType.int) ∧ miC M_X1_property = 1 ∧ miV M_X1_property = 1 := ⟨rfl, rfl, rfl, rfl, rfl⟩
theorem ok_X1_property : mOK M_X1_property := mOKi 371 (by decide +kernel) (by decide +kernel) rfl (by decide +kernel)
def M_X2_init : MI := (yX2_init, cX2_init, 1, (Option.none : Option FieldType), 2, 1)
theorem I_X2_init : miB M_X2_init = cX2_init ∧ miL M_X2_init = 1 ∧ miR M_X2_init = (Option.none : Option FieldType) ∧ miC M_X2_init = 2 ∧ miV M_X2_init = 1 := ⟨rfl, rfl, rfl, rfl, rfl⟩
theorem ok_X2_init : mOK M_X2_init := mOKi 236 (by decide +kernel) (by decide +kernel) rfl (by decide +kernel)
def M_X2_append : MI := (yX2_append, cX2_append, 2, (Option.none : Option FieldType), 2, 1)
theorem I_X2_append : miB M_X2_append = cX2_append ∧ miL M_X2_append = 2 ∧ miR M_X2_append = (Option.none : Option FieldType) ∧ miC M_X2_append = 2 ∧ miV M_X2_append = 1 := ⟨rfl, rfl, rfl, rfl, rfl⟩
theorem ok_X2_append : mOK M_X2_append := mOKi 615 (by decide +kernel) (by decide +kernel) rfl (by decide +kernel)
def M_X2_examine : MI := (yX2_examine, cX2_examine, 6, (Option.none : Option FieldType), 2, 9)
theorem I_X2_examine : miB M_X2_examine = cX2_examine ∧ miL M_X2_examine = 6 ∧ miR M_X2_examine = (Option.none : Option FieldType) ∧ miC M_X2_examine = 2 ∧ miV M_X2_examine = 9 := ⟨rfl, rfl, rfl, rfl, rfl⟩
theorem ok_X2_examine : mOK M_X2_examine := mOKi 624 (by decide +kernel) (by decide +kernel) rfl (by decide +kernel)
def M_X2_reasonOfNext : MI := (yX2_reasonOfNext, cX2_reasonOfNext, 4, (Option.some FieldType.int), 2, 8)
theorem I_X2_reasonOfNext : miB M_X2_reasonOfNext = cX2_reasonOfNext ∧ miL M_X2_reasonOfNext = 4 ∧ miR M_X2_reasonOfNext = (Option.some FieldType.int) ∧ miC M_X2_reasonOfNext = 2 ∧ miV M_X2_reasonOfNext = 8 := ⟨rfl, rfl, rfl, rfl, rfl⟩
theorem ok_X2_reasonOfNext : mOK M_X2_reasonOfNext := mOKi 629 (by decide +kernel) (by decide +kernel) rfl (by decide +kernel)
def M_X2_readJob : MI := (yX2_readJob, cX2_readJob, 7, (Option.some FieldType.boolean), 2, 7)
theorem I_X2_readJob : miB M_X2_readJob = cX2_readJob ∧ miL M_X2_readJob = 7 ∧ miR M_X2_readJob = (Option.some FieldType.boolean) ∧ miC M_X2_readJob = 2 ∧ miV M_X2_readJob = 7 := ⟨rfl, rfl, rfl, rfl, rfl⟩
theorem ok_X2_readJob : mOK M_X2_readJob := mOKi 633 (by decide +kernel) (by decide +kernel) rfl (by decide +kernel)
def M_X2_readNumber : MI := (yX2_readNumber, cX2_readNumber, 4, (Option.some FieldType.int), 2, 6)
theorem I_X2_readNumber : miB M_X2_readNumber = cX2_readNumber ∧ miL M_X2_readNumber = 4 ∧ miR M_X2_readNumber = (Option.some FieldType.int) ∧ miC M_X2_readNumber = 2 ∧ miV M_X2_readNumber = 6 := ⟨rfl, rfl, rfl, rfl, rfl⟩
theorem ok_X2_readNumber : mOK M_X2_readNumber := mOKi 638 (by decide +kernel) (by decide +kernel) rfl (by decide +kernel)
def M_X2_digitAtPlace : MI := (yX2_digitAtPlace, cX2_digitAtPlace, 2, (Option.some FieldType.int), 2, 0)
theorem I_X2_digitAtPlace : miB M_X2_digitAtPlace = cX2_digitAtPlace ∧ miL M_X2_digitAtPlace = 2 ∧ miR M_X2_digitAtPlace = (Option.some FieldType.int) ∧ miC M_X2_digitAtPlace = 2 ∧ miV M_X2_digitAtPlace = 0 := ⟨rfl, rfl, rfl, rfl, rfl⟩
theorem ok_X2_digitAtPlace : mOK M_X2_digitAtPlace := mOKi 642 (by decide +kernel) (by decide +kernel) rfl (by decide +kernel)
def M_X2_readHow : MI := (yX2_readHow, cX2_readHow, 2, (Option.some FieldType.int), 2, 6)
theorem I_X2_readHow : miB M_X2_readHow = cX2_readHow ∧ miL M_X2_readHow = 2 ∧ miR M_X2_readHow = (Option.some FieldType.int) ∧ miC M_X2_readHow = 2 ∧ miV M_X2_readHow = 6 := ⟨rfl, rfl, rfl, rfl, rfl⟩
theorem ok_X2_readHow : mOK M_X2_readHow := mOKi 699 (by decide +kernel) (by decide +kernel) rfl (by decide +kernel)
def M_X2_readSize : MI := (yX2_readSize, cX2_readSize, 2, (Option.some FieldType.int), 2, 6)
theorem I_X2_readSize : miB M_X2_readSize = cX2_readSize ∧ miL M_X2_readSize = 2 ∧ miR M_X2_readSize = (Option.some FieldType.int) ∧ miC M_X2_readSize = 2 ∧ miV M_X2_readSize = 6 := ⟨rfl, rfl, rfl, rfl, rfl⟩
theorem ok_X2_readSize : mOK M_X2_readSize := mOKi 707 (by decide +kernel) (by decide +kernel) rfl (by decide +kernel)
def M_X2_readKind : MI := (yX2_readKind, cX2_readKind, 2, (Option.some FieldType.int), 2, 6)
theorem I_X2_readKind : miB M_X2_readKind = cX2_readKind ∧ miL M_X2_readKind = 2 ∧ miR M_X2_readKind = (Option.some FieldType.int) ∧ miC M_X2_readKind = 2 ∧ miV M_X2_readKind = 6 := ⟨rfl, rfl, rfl, rfl, rfl⟩
theorem ok_X2_readKind : mOK M_X2_readKind := mOKi 718 (by decide +kernel) (by decide +kernel) rfl (by decide +kernel)
def M_X2_sizeWord : MI := (yX2_sizeWord, cX2_sizeWord, 1, (Option.some (FieldType.object "java/lang/String")), 2, 0)
theorem I_X2_sizeWord : miB M_X2_sizeWord = cX2_sizeWord ∧ miL M_X2_sizeWord = 1 ∧ miR M_X2_sizeWord = (Option.some (FieldType.object "java/lang/String")) ∧ miC M_X2_sizeWord = 2 ∧ miV M_X2_sizeWord = 0 := ⟨rfl, rfl, rfl, rfl, rfl⟩
theorem ok_X2_sizeWord : mOK M_X2_sizeWord := mOKi 710 (by decide +kernel) (by decide +kernel) rfl (by decide +kernel)
def M_X2_kindWord : MI := (yX2_kindWord, cX2_kindWord, 1, (Option.some (FieldType.object "java/lang/String")), 2, 0)
theorem I_X2_kindWord : miB M_X2_kindWord = cX2_kindWord ∧ miL M_X2_kindWord = 1 ∧ miR M_X2_kindWord = (Option.some (FieldType.object "java/lang/String")) ∧ miC M_X2_kindWord = 2 ∧ miV M_X2_kindWord = 0 := ⟨rfl, rfl, rfl, rfl, rfl⟩
theorem ok_X2_kindWord : mOK M_X2_kindWord := mOKi 721 (by decide +kernel) (by decide +kernel) rfl (by decide +kernel)
def M_X2_skips : MI := (yX2_skips, cX2_skips, 4, (Option.some FieldType.boolean), 2, 5)
theorem I_X2_skips : miB M_X2_skips = cX2_skips ∧ miL M_X2_skips = 4 ∧ miR M_X2_skips = (Option.some FieldType.boolean) ∧ miC M_X2_skips = 2 ∧ miV M_X2_skips = 5 := ⟨rfl, rfl, rfl, rfl, rfl⟩
theorem ok_X2_skips : mOK M_X2_skips := mOKi 646 (by decide +kernel) (by decide +kernel) rfl (by decide +kernel)
def M_X3_init : MI := (yX3_init, cX3_init, 1, (Option.none : Option FieldType), 3, 1)
theorem I_X3_init : miB M_X3_init = cX3_init ∧ miL M_X3_init = 1 ∧ miR M_X3_init = (Option.none : Option FieldType) ∧ miC M_X3_init = 3 ∧ miV M_X3_init = 1 := ⟨rfl, rfl, rfl, rfl, rfl⟩
theorem ok_X3_init : mOK M_X3_init := mOKi 144 (by decide +kernel) (by decide +kernel) rfl (by decide +kernel)
def M_X3_copyFrom : MI := (yX3_copyFrom, cX3_copyFrom, 2, (Option.none : Option FieldType), 3, 1)
theorem I_X3_copyFrom : miB M_X3_copyFrom = cX3_copyFrom ∧ miL M_X3_copyFrom = 2 ∧ miR M_X3_copyFrom = (Option.none : Option FieldType) ∧ miC M_X3_copyFrom = 3 ∧ miV M_X3_copyFrom = 1 := ⟨rfl, rfl, rfl, rfl, rfl⟩
theorem ok_X3_copyFrom : mOK M_X3_copyFrom := mOKi 341 (by decide +kernel) (by decide +kernel) rfl (by decide +kernel)
def M_X3_add : MI := (yX3_add, cX3_add, 3, (Option.none : Option FieldType), 3, 1)
theorem I_X3_add : miB M_X3_add = cX3_add ∧ miL M_X3_add = 3 ∧ miR M_X3_add = (Option.none : Option FieldType) ∧ miC M_X3_add = 3 ∧ miV M_X3_add = 1 := ⟨rfl, rfl, rfl, rfl, rfl⟩
theorem ok_X3_add : mOK M_X3_add := mOKi 459 (by decide +kernel) (by decide +kernel) rfl (by decide +kernel)
def M_X3_addTakenSheet : MI := (yX3_addTakenSheet, cX3_addTakenSheet, 4, (Option.none : Option FieldType), 3, 2)
theorem I_X3_addTakenSheet : miB M_X3_addTakenSheet = cX3_addTakenSheet ∧ miL M_X3_addTakenSheet = 4 ∧ miR M_X3_addTakenSheet = (Option.none : Option FieldType) ∧ miC M_X3_addTakenSheet = 3 ∧ miV M_X3_addTakenSheet = 2 := ⟨rfl, rfl, rfl, rfl, rfl⟩
theorem ok_X3_addTakenSheet : mOK M_X3_addTakenSheet := mOKi 485 (by decide +kernel) (by decide +kernel) rfl (by decide +kernel)
def M_X4_init : MI := (yX4_init, cX4_init, 1, (Option.none : Option FieldType), 4, 3)
theorem I_X4_init : miB M_X4_init = cX4_init ∧ miL M_X4_init = 1 ∧ miR M_X4_init = (Option.none : Option FieldType) ∧ miC M_X4_init = 4 ∧ miV M_X4_init = 3 := ⟨rfl, rfl, rfl, rfl, rfl⟩
theorem ok_X4_init : mOK M_X4_init := mOKi 28 (by decide +kernel) (by decide +kernel) rfl (by decide +kernel)
def M_X4_copyFrom : MI := (yX4_copyFrom, cX4_copyFrom, 2, (Option.none : Option FieldType), 4, 2)
theorem I_X4_copyFrom : miB M_X4_copyFrom = cX4_copyFrom ∧ miL M_X4_copyFrom = 2 ∧ miR M_X4_copyFrom = (Option.none : Option FieldType) ∧ miC M_X4_copyFrom = 4 ∧ miV M_X4_copyFrom = 2 := ⟨rfl, rfl, rfl, rfl, rfl⟩
theorem ok_X4_copyFrom : mOK M_X4_copyFrom := mOKi 324 (by decide +kernel) (by decide +kernel) rfl (by decide +kernel)
def M_X4_letGoBy : MI := (yX4_letGoBy, cX4_letGoBy, 4, (Option.none : Option FieldType), 4, 6)
theorem I_X4_letGoBy : miB M_X4_letGoBy = cX4_letGoBy ∧ miL M_X4_letGoBy = 4 ∧ miR M_X4_letGoBy = (Option.none : Option FieldType) ∧ miC M_X4_letGoBy = 4 ∧ miV M_X4_letGoBy = 6 := ⟨rfl, rfl, rfl, rfl, rfl⟩
theorem ok_X4_letGoBy : mOK M_X4_letGoBy := mOKi 586 (by decide +kernel) (by decide +kernel) rfl (by decide +kernel)
def M_X4_ticksUntilGone : MI := (yX4_ticksUntilGone, cX4_ticksUntilGone, 5, (Option.some FieldType.int), 4, 6)
theorem I_X4_ticksUntilGone : miB M_X4_ticksUntilGone = cX4_ticksUntilGone ∧ miL M_X4_ticksUntilGone = 5 ∧ miR M_X4_ticksUntilGone = (Option.some FieldType.int) ∧ miC M_X4_ticksUntilGone = 4 ∧ miV M_X4_ticksUntilGone = 6 := ⟨rfl, rfl, rfl, rfl, rfl⟩
theorem ok_X4_ticksUntilGone : mOK M_X4_ticksUntilGone := mOKi 607 (by decide +kernel) (by decide +kernel) rfl (by decide +kernel)
def M_X4_findWork : MI := (yX4_findWork, cX4_findWork, 4, (Option.some FieldType.int), 4, 5)
theorem I_X4_findWork : miB M_X4_findWork = cX4_findWork ∧ miL M_X4_findWork = 4 ∧ miR M_X4_findWork = (Option.some FieldType.int) ∧ miC M_X4_findWork = 4 ∧ miV M_X4_findWork = 5 := ⟨rfl, rfl, rfl, rfl, rfl⟩
theorem ok_X4_findWork : mOK M_X4_findWork := mOKi 428 (by decide +kernel) (by decide +kernel) rfl (by decide +kernel)
def M_X4_stopReason : MI := (yX4_stopReason, cX4_stopReason, 2, (Option.some FieldType.int), 4, 1)
theorem I_X4_stopReason : miB M_X4_stopReason = cX4_stopReason ∧ miL M_X4_stopReason = 2 ∧ miR M_X4_stopReason = (Option.some FieldType.int) ∧ miC M_X4_stopReason = 4 ∧ miV M_X4_stopReason = 1 := ⟨rfl, rfl, rfl, rfl, rfl⟩
theorem ok_X4_stopReason : mOK M_X4_stopReason := mOKi 436 (by decide +kernel) (by decide +kernel) rfl (by decide +kernel)
def M_X4_beginSheet : MI := (yX4_beginSheet, cX4_beginSheet, 3, (Option.none : Option FieldType), 4, 3)
theorem I_X4_beginSheet : miB M_X4_beginSheet = cX4_beginSheet ∧ miL M_X4_beginSheet = 3 ∧ miR M_X4_beginSheet = (Option.none : Option FieldType) ∧ miC M_X4_beginSheet = 4 ∧ miV M_X4_beginSheet = 3 := ⟨rfl, rfl, rfl, rfl, rfl⟩
theorem ok_X4_beginSheet : mOK M_X4_beginSheet := mOKi 476 (by decide +kernel) (by decide +kernel) rfl (by decide +kernel)
def M_X4_beginStapling : MI := (yX4_beginStapling, cX4_beginStapling, 2, (Option.none : Option FieldType), 4, 4)
theorem I_X4_beginStapling : miB M_X4_beginStapling = cX4_beginStapling ∧ miL M_X4_beginStapling = 2 ∧ miR M_X4_beginStapling = (Option.none : Option FieldType) ∧ miC M_X4_beginStapling = 4 ∧ miV M_X4_beginStapling = 4 := ⟨rfl, rfl, rfl, rfl, rfl⟩
theorem ok_X4_beginStapling : mOK M_X4_beginStapling := mOKi 448 (by decide +kernel) (by decide +kernel) rfl (by decide +kernel)
def M_X4_goOnWorking : MI := (yX4_goOnWorking, cX4_goOnWorking, 3, (Option.some FieldType.int), 4, 5)
theorem I_X4_goOnWorking : miB M_X4_goOnWorking = cX4_goOnWorking ∧ miL M_X4_goOnWorking = 3 ∧ miR M_X4_goOnWorking = (Option.some FieldType.int) ∧ miC M_X4_goOnWorking = 4 ∧ miV M_X4_goOnWorking = 5 := ⟨rfl, rfl, rfl, rfl, rfl⟩
theorem ok_X4_goOnWorking : mOK M_X4_goOnWorking := mOKi 591 (by decide +kernel) (by decide +kernel) rfl (by decide +kernel)
def M_X4_finishWork : MI := (yX4_finishWork, cX4_finishWork, 3, (Option.none : Option FieldType), 4, 4)
theorem I_X4_finishWork : miB M_X4_finishWork = cX4_finishWork ∧ miL M_X4_finishWork = 3 ∧ miR M_X4_finishWork = (Option.none : Option FieldType) ∧ miC M_X4_finishWork = 4 ∧ miV M_X4_finishWork = 4 := ⟨rfl, rfl, rfl, rfl, rfl⟩
theorem ok_X4_finishWork : mOK M_X4_finishWork := mOKi 595 (by decide +kernel) (by decide +kernel) rfl (by decide +kernel)
def M_X4_finishSheet : MI := (yX4_finishSheet, cX4_finishSheet, 3, (Option.none : Option FieldType), 4, 3)
theorem I_X4_finishSheet : miB M_X4_finishSheet = cX4_finishSheet ∧ miL M_X4_finishSheet = 3 ∧ miR M_X4_finishSheet = (Option.none : Option FieldType) ∧ miC M_X4_finishSheet = 4 ∧ miV M_X4_finishSheet = 3 := ⟨rfl, rfl, rfl, rfl, rfl⟩
theorem ok_X4_finishSheet : mOK M_X4_finishSheet := mOKi 599 (by decide +kernel) (by decide +kernel) rfl (by decide +kernel)
def M_X4_finishStapling : MI := (yX4_finishStapling, cX4_finishStapling, 3, (Option.none : Option FieldType), 4, 3)
theorem I_X4_finishStapling : miB M_X4_finishStapling = cX4_finishStapling ∧ miL M_X4_finishStapling = 3 ∧ miR M_X4_finishStapling = (Option.none : Option FieldType) ∧ miC M_X4_finishStapling = 4 ∧ miV M_X4_finishStapling = 3 := ⟨rfl, rfl, rfl, rfl, rfl⟩
theorem ok_X4_finishStapling : mOK M_X4_finishStapling := mOKi 452 (by decide +kernel) (by decide +kernel) rfl (by decide +kernel)
def M_X4_removeIfFinished : MI := (yX4_removeIfFinished, cX4_removeIfFinished, 2, (Option.none : Option FieldType), 4, 2)
theorem I_X4_removeIfFinished : miB M_X4_removeIfFinished = cX4_removeIfFinished ∧ miL M_X4_removeIfFinished = 2 ∧ miR M_X4_removeIfFinished = (Option.none : Option FieldType) ∧ miC M_X4_removeIfFinished = 4 ∧ miV M_X4_removeIfFinished = 2 := ⟨rfl, rfl, rfl, rfl, rfl⟩
theorem ok_X4_removeIfFinished : mOK M_X4_removeIfFinished := mOKi 464 (by decide +kernel) (by decide +kernel) rfl (by decide +kernel)
def M_X4_interrupt : MI := (yX4_interrupt, cX4_interrupt, 2, (Option.none : Option FieldType), 4, 3)
theorem I_X4_interrupt : miB M_X4_interrupt = cX4_interrupt ∧ miL M_X4_interrupt = 2 ∧ miR M_X4_interrupt = (Option.none : Option FieldType) ∧ miC M_X4_interrupt = 4 ∧ miV M_X4_interrupt = 3 := ⟨rfl, rfl, rfl, rfl, rfl⟩
theorem ok_X4_interrupt : mOK M_X4_interrupt := mOKi 563 (by decide +kernel) (by decide +kernel) rfl (by decide +kernel)
def M_X4_giveUpWorkOf : MI := (yX4_giveUpWorkOf, cX4_giveUpWorkOf, 2, (Option.none : Option FieldType), 4, 2)
theorem I_X4_giveUpWorkOf : miB M_X4_giveUpWorkOf = cX4_giveUpWorkOf ∧ miL M_X4_giveUpWorkOf = 2 ∧ miR M_X4_giveUpWorkOf = (Option.none : Option FieldType) ∧ miC M_X4_giveUpWorkOf = 4 ∧ miV M_X4_giveUpWorkOf = 2 := ⟨rfl, rfl, rfl, rfl, rfl⟩
theorem ok_X4_giveUpWorkOf : mOK M_X4_giveUpWorkOf := mOKi 567 (by decide +kernel) (by decide +kernel) rfl (by decide +kernel)
def M_X4_lackingSheets : MI := (yX4_lackingSheets, cX4_lackingSheets, 5, (Option.some FieldType.int), 4, 2)
theorem I_X4_lackingSheets : miB M_X4_lackingSheets = cX4_lackingSheets ∧ miL M_X4_lackingSheets = 5 ∧ miR M_X4_lackingSheets = (Option.some FieldType.int) ∧ miC M_X4_lackingSheets = 4 ∧ miV M_X4_lackingSheets = 2 := ⟨rfl, rfl, rfl, rfl, rfl⟩
theorem ok_X4_lackingSheets : mOK M_X4_lackingSheets := mOKi 398 (by decide +kernel) (by decide +kernel) rfl (by decide +kernel)
def M_X5_init : MI := (yX5_init, cX5_init, 2, (Option.none : Option FieldType), 5, 2)
theorem I_X5_init : miB M_X5_init = cX5_init ∧ miL M_X5_init = 2 ∧ miR M_X5_init = (Option.none : Option FieldType) ∧ miC M_X5_init = 5 ∧ miV M_X5_init = 2 := ⟨rfl, rfl, rfl, rfl, rfl⟩
theorem ok_X5_init : mOK M_X5_init := mOKi 54 (by decide +kernel) (by decide +kernel) rfl (by decide +kernel)
def M_X5_copyFrom : MI := (yX5_copyFrom, cX5_copyFrom, 3, (Option.none : Option FieldType), 5, 1)
theorem I_X5_copyFrom : miB M_X5_copyFrom = cX5_copyFrom ∧ miL M_X5_copyFrom = 3 ∧ miR M_X5_copyFrom = (Option.none : Option FieldType) ∧ miC M_X5_copyFrom = 5 ∧ miV M_X5_copyFrom = 1 := ⟨rfl, rfl, rfl, rfl, rfl⟩
theorem ok_X5_copyFrom : mOK M_X5_copyFrom := mOKi 333 (by decide +kernel) (by decide +kernel) rfl (by decide +kernel)
def M_X5_room : MI := (yX5_room, cX5_room, 1, (Option.some FieldType.int), 5, 0)
theorem I_X5_room : miB M_X5_room = cX5_room ∧ miL M_X5_room = 1 ∧ miR M_X5_room = (Option.some FieldType.int) ∧ miC M_X5_room = 5 ∧ miV M_X5_room = 0 := ⟨rfl, rfl, rfl, rfl, rfl⟩
theorem ok_X5_room : mOK M_X5_room := mOKi 547 (by decide +kernel) (by decide +kernel) rfl (by decide +kernel)
def M_X5_append : MI := (yX5_append, cX5_append, 3, (Option.some FieldType.int), 5, 1)
theorem I_X5_append : miB M_X5_append = cX5_append ∧ miL M_X5_append = 3 ∧ miR M_X5_append = (Option.some FieldType.int) ∧ miC M_X5_append = 5 ∧ miV M_X5_append = 1 := ⟨rfl, rfl, rfl, rfl, rfl⟩
theorem ok_X5_append : mOK M_X5_append := mOKi 551 (by decide +kernel) (by decide +kernel) rfl (by decide +kernel)
def M_X5_find : MI := (yX5_find, cX5_find, 3, (Option.some (FieldType.object "PrintRoom$Job")), 5, 0)
theorem I_X5_find : miB M_X5_find = cX5_find ∧ miL M_X5_find = 3 ∧ miR M_X5_find = (Option.some (FieldType.object "PrintRoom$Job")) ∧ miC M_X5_find = 5 ∧ miV M_X5_find = 0 := ⟨rfl, rfl, rfl, rfl, rfl⟩
theorem ok_X5_find : mOK M_X5_find := mOKi 367 (by decide +kernel) (by decide +kernel) rfl (by decide +kernel)
def M_X5_remove : MI := (yX5_remove, cX5_remove, 4, (Option.none : Option FieldType), 5, 0)
theorem I_X5_remove : miB M_X5_remove = cX5_remove ∧ miL M_X5_remove = 4 ∧ miR M_X5_remove = (Option.none : Option FieldType) ∧ miC M_X5_remove = 5 ∧ miV M_X5_remove = 0 := ⟨rfl, rfl, rfl, rfl, rfl⟩
theorem ok_X5_remove : mOK M_X5_remove := mOKi 472 (by decide +kernel) (by decide +kernel) rfl (by decide +kernel)
def M_X5_heldJobs : MI := (yX5_heldJobs, cX5_heldJobs, 3, (Option.some FieldType.int), 5, 0)
theorem I_X5_heldJobs : miB M_X5_heldJobs = cX5_heldJobs ∧ miL M_X5_heldJobs = 3 ∧ miR M_X5_heldJobs = (Option.some FieldType.int) ∧ miC M_X5_heldJobs = 5 ∧ miV M_X5_heldJobs = 0 := ⟨rfl, rfl, rfl, rfl, rfl⟩
theorem ok_X5_heldJobs : mOK M_X5_heldJobs := mOKi 308 (by decide +kernel) (by decide +kernel) rfl (by decide +kernel)
def M_X5_isAhead : MI := (yX5_isAhead, cX5_isAhead, 3, (Option.some FieldType.boolean), 5, 0)
theorem I_X5_isAhead : miB M_X5_isAhead = cX5_isAhead ∧ miL M_X5_isAhead = 3 ∧ miR M_X5_isAhead = (Option.some FieldType.boolean) ∧ miC M_X5_isAhead = 5 ∧ miV M_X5_isAhead = 0 := ⟨rfl, rfl, rfl, rfl, rfl⟩
theorem ok_X5_isAhead : mOK M_X5_isAhead := mOKi 297 (by decide +kernel) (by decide +kernel) rfl (by decide +kernel)
def M_X5_jobsAheadOf : MI := (yX5_jobsAheadOf, cX5_jobsAheadOf, 4, (Option.some FieldType.int), 5, 1)
theorem I_X5_jobsAheadOf : miB M_X5_jobsAheadOf = cX5_jobsAheadOf ∧ miL M_X5_jobsAheadOf = 4 ∧ miR M_X5_jobsAheadOf = (Option.some FieldType.int) ∧ miC M_X5_jobsAheadOf = 5 ∧ miV M_X5_jobsAheadOf = 1 := ⟨rfl, rfl, rfl, rfl, rfl⟩
theorem ok_X5_jobsAheadOf : mOK M_X5_jobsAheadOf := mOKi 293 (by decide +kernel) (by decide +kernel) rfl (by decide +kernel)
def M_X5_at : MI := (yX5_at, cX5_at, 3, (Option.some (FieldType.object "PrintRoom$Job")), 5, 2)
theorem I_X5_at : miB M_X5_at = cX5_at ∧ miL M_X5_at = 3 ∧ miR M_X5_at = (Option.some (FieldType.object "PrintRoom$Job")) ∧ miC M_X5_at = 5 ∧ miV M_X5_at = 2 := ⟨rfl, rfl, rfl, rfl, rfl⟩
theorem ok_X5_at : mOK M_X5_at := mOKi 289 (by decide +kernel) (by decide +kernel) rfl (by decide +kernel)
def M_X5_next : MI := (yX5_next, cX5_next, 3, (Option.some (FieldType.object "PrintRoom$Job")), 5, 1)
theorem I_X5_next : miB M_X5_next = cX5_next ∧ miL M_X5_next = 3 ∧ miR M_X5_next = (Option.some (FieldType.object "PrintRoom$Job")) ∧ miC M_X5_next = 5 ∧ miV M_X5_next = 1 := ⟨rfl, rfl, rfl, rfl, rfl⟩
theorem ok_X5_next : mOK M_X5_next := mOKi 432 (by decide +kernel) (by decide +kernel) rfl (by decide +kernel)
def M_X5_sheetsToPrint : MI := (yX5_sheetsToPrint, cX5_sheetsToPrint, 5, (Option.some FieldType.int), 5, 1)
theorem I_X5_sheetsToPrint : miB M_X5_sheetsToPrint = cX5_sheetsToPrint ∧ miL M_X5_sheetsToPrint = 5 ∧ miR M_X5_sheetsToPrint = (Option.some FieldType.int) ∧ miC M_X5_sheetsToPrint = 5 ∧ miV M_X5_sheetsToPrint = 1 := ⟨rfl, rfl, rfl, rfl, rfl⟩
theorem ok_X5_sheetsToPrint : mOK M_X5_sheetsToPrint := mOKi 402 (by decide +kernel) (by decide +kernel) rfl (by decide +kernel)
def M_X6_init : MI := (yX6_init, cX6_init, 1, (Option.none : Option FieldType), 6, 1)
theorem I_X6_init : miB M_X6_init = cX6_init ∧ miL M_X6_init = 1 ∧ miR M_X6_init = (Option.none : Option FieldType) ∧ miC M_X6_init = 6 ∧ miV M_X6_init = 1 := ⟨rfl, rfl, rfl, rfl, rfl⟩
theorem ok_X6_init : mOK M_X6_init := mOKi 34 (by decide +kernel) (by decide +kernel) rfl (by decide +kernel)
def M_X6_copyFrom : MI := (yX6_copyFrom, cX6_copyFrom, 2, (Option.none : Option FieldType), 6, 1)
theorem I_X6_copyFrom : miB M_X6_copyFrom = cX6_copyFrom ∧ miL M_X6_copyFrom = 2 ∧ miR M_X6_copyFrom = (Option.none : Option FieldType) ∧ miC M_X6_copyFrom = 6 ∧ miV M_X6_copyFrom = 1 := ⟨rfl, rfl, rfl, rfl, rfl⟩
theorem ok_X6_copyFrom : mOK M_X6_copyFrom := mOKi 328 (by decide +kernel) (by decide +kernel) rfl (by decide +kernel)
def M_X6_change : MI := (yX6_change, cX6_change, 5, (Option.some FieldType.int), 6, 1)
theorem I_X6_change : miB M_X6_change = cX6_change ∧ miL M_X6_change = 5 ∧ miR M_X6_change = (Option.some FieldType.int) ∧ miC M_X6_change = 6 ∧ miV M_X6_change = 1 := ⟨rfl, rfl, rfl, rfl, rfl⟩
theorem ok_X6_change : mOK M_X6_change := mOKi 513 (by decide +kernel) (by decide +kernel) rfl (by decide +kernel)
def M_X6_sheetsOf : MI := (yX6_sheetsOf, cX6_sheetsOf, 5, (Option.some FieldType.int), 6, 0)
theorem I_X6_sheetsOf : miB M_X6_sheetsOf = cX6_sheetsOf ∧ miL M_X6_sheetsOf = 5 ∧ miR M_X6_sheetsOf = (Option.some FieldType.int) ∧ miC M_X6_sheetsOf = 6 ∧ miV M_X6_sheetsOf = 0 := ⟨rfl, rfl, rfl, rfl, rfl⟩
theorem ok_X6_sheetsOf : mOK M_X6_sheetsOf := mOKi 387 (by decide +kernel) (by decide +kernel) rfl (by decide +kernel)
def M_X6_lowestWith : MI := (yX6_lowestWith, cX6_lowestWith, 4, (Option.some FieldType.int), 6, 0)
theorem I_X6_lowestWith : miB M_X6_lowestWith = cX6_lowestWith ∧ miL M_X6_lowestWith = 4 ∧ miR M_X6_lowestWith = (Option.some FieldType.int) ∧ miC M_X6_lowestWith = 6 ∧ miV M_X6_lowestWith = 0 := ⟨rfl, rfl, rfl, rfl, rfl⟩
theorem ok_X6_lowestWith : mOK M_X6_lowestWith := mOKi 444 (by decide +kernel) (by decide +kernel) rfl (by decide +kernel)
def M_X6_takeSheet : MI := (yX6_takeSheet, cX6_takeSheet, 4, (Option.none : Option FieldType), 6, 1)
theorem I_X6_takeSheet : miB M_X6_takeSheet = cX6_takeSheet ∧ miL M_X6_takeSheet = 4 ∧ miR M_X6_takeSheet = (Option.none : Option FieldType) ∧ miC M_X6_takeSheet = 6 ∧ miV M_X6_takeSheet = 1 := ⟨rfl, rfl, rfl, rfl, rfl⟩
theorem ok_X6_takeSheet : mOK M_X6_takeSheet := mOKi 480 (by decide +kernel) (by decide +kernel) rfl (by decide +kernel)
def M_X7_init : MI := (yX7_init, cX7_init, 1, (Option.none : Option FieldType), 7, 5)
theorem I_X7_init : miB M_X7_init = cX7_init ∧ miL M_X7_init = 1 ∧ miR M_X7_init = (Option.none : Option FieldType) ∧ miC M_X7_init = 7 ∧ miV M_X7_init = 5 := ⟨rfl, rfl, rfl, rfl, rfl⟩
theorem ok_X7_init : mOK M_X7_init := mOKi 20 (by decide +kernel) (by decide +kernel) rfl (by decide +kernel)
def M_X7_fill : MI := (yX7_fill, cX7_fill, 4, (Option.some FieldType.int), 7, 4)
theorem I_X7_fill : miB M_X7_fill = cX7_fill ∧ miL M_X7_fill = 4 ∧ miR M_X7_fill = (Option.some FieldType.int) ∧ miC M_X7_fill = 7 ∧ miV M_X7_fill = 4 := ⟨rfl, rfl, rfl, rfl, rfl⟩
theorem ok_X7_fill : mOK M_X7_fill := mOKi 497 (by decide +kernel) (by decide +kernel) rfl (by decide +kernel)
def M_X7_load : MI := (yX7_load, cX7_load, 4, (Option.some FieldType.int), 7, 4)
theorem I_X7_load : miB M_X7_load = cX7_load ∧ miL M_X7_load = 4 ∧ miR M_X7_load = (Option.some FieldType.int) ∧ miC M_X7_load = 7 ∧ miV M_X7_load = 4 := ⟨rfl, rfl, rfl, rfl, rfl⟩
theorem ok_X7_load : mOK M_X7_load := mOKi 509 (by decide +kernel) (by decide +kernel) rfl (by decide +kernel)
def M_X7_tray : MI := (yX7_tray, cX7_tray, 4, (Option.some FieldType.int), 7, 1)
theorem I_X7_tray : miB M_X7_tray = cX7_tray ∧ miL M_X7_tray = 4 ∧ miR M_X7_tray = (Option.some FieldType.int) ∧ miC M_X7_tray = 7 ∧ miV M_X7_tray = 1 := ⟨rfl, rfl, rfl, rfl, rfl⟩
theorem ok_X7_tray : mOK M_X7_tray := mOKi 383 (by decide +kernel) (by decide +kernel) rfl (by decide +kernel)
def M_X7_staples : MI := (yX7_staples, cX7_staples, 3, (Option.some FieldType.int), 7, 4)
theorem I_X7_staples : miB M_X7_staples = cX7_staples ∧ miL M_X7_staples = 3 ∧ miR M_X7_staples = (Option.some FieldType.int) ∧ miC M_X7_staples = 7 ∧ miV M_X7_staples = 4 := ⟨rfl, rfl, rfl, rfl, rfl⟩
theorem ok_X7_staples : mOK M_X7_staples := mOKi 518 (by decide +kernel) (by decide +kernel) rfl (by decide +kernel)
def M_X7_emptyBin : MI := (yX7_emptyBin, cX7_emptyBin, 2, (Option.some FieldType.int), 7, 4)
theorem I_X7_emptyBin : miB M_X7_emptyBin = cX7_emptyBin ∧ miL M_X7_emptyBin = 2 ∧ miR M_X7_emptyBin = (Option.some FieldType.int) ∧ miC M_X7_emptyBin = 7 ∧ miV M_X7_emptyBin = 4 := ⟨rfl, rfl, rfl, rfl, rfl⟩
theorem ok_X7_emptyBin : mOK M_X7_emptyBin := mOKi 751 (by decide +kernel) (by decide +kernel) rfl (by decide +kernel)
def M_X7_set : MI := (yX7_set, cX7_set, 4, (Option.some FieldType.int), 7, 4)
theorem I_X7_set : miB M_X7_set = cX7_set ∧ miL M_X7_set = 4 ∧ miR M_X7_set = (Option.some FieldType.int) ∧ miC M_X7_set = 7 ∧ miV M_X7_set = 4 := ⟨rfl, rfl, rfl, rfl, rfl⟩
theorem ok_X7_set : mOK M_X7_set := mOKi 522 (by decide +kernel) (by decide +kernel) rfl (by decide +kernel)
def M_X7_job : MI := (yX7_job, cX7_job, 7, (Option.some FieldType.int), 7, 4)
theorem I_X7_job : miB M_X7_job = cX7_job ∧ miL M_X7_job = 7 ∧ miR M_X7_job = (Option.some FieldType.int) ∧ miC M_X7_job = 7 ∧ miV M_X7_job = 4 := ⟨rfl, rfl, rfl, rfl, rfl⟩
theorem ok_X7_job : mOK M_X7_job := mOKi 530 (by decide +kernel) (by decide +kernel) rfl (by decide +kernel)
def M_X7_refusal : MI := (yX7_refusal, cX7_refusal, 1, (Option.some FieldType.int), 7, 0)
theorem I_X7_refusal : miB M_X7_refusal = cX7_refusal ∧ miL M_X7_refusal = 1 ∧ miR M_X7_refusal = (Option.some FieldType.int) ∧ miC M_X7_refusal = 7 ∧ miV M_X7_refusal = 0 := ⟨rfl, rfl, rfl, rfl, rfl⟩
theorem ok_X7_refusal : mOK M_X7_refusal := mOKi 555 (by decide +kernel) (by decide +kernel) rfl (by decide +kernel)
def M_X7_hold : MI := (yX7_hold, cX7_hold, 5, (Option.some FieldType.int), 7, 4)
theorem I_X7_hold : miB M_X7_hold = cX7_hold ∧ miL M_X7_hold = 5 ∧ miR M_X7_hold = (Option.some FieldType.int) ∧ miC M_X7_hold = 7 ∧ miV M_X7_hold = 4 := ⟨rfl, rfl, rfl, rfl, rfl⟩
theorem ok_X7_hold : mOK M_X7_hold := mOKi 559 (by decide +kernel) (by decide +kernel) rfl (by decide +kernel)
def M_X7_cancel : MI := (yX7_cancel, cX7_cancel, 4, (Option.some FieldType.int), 7, 4)
theorem I_X7_cancel : miB M_X7_cancel = cX7_cancel ∧ miL M_X7_cancel = 4 ∧ miR M_X7_cancel = (Option.some FieldType.int) ∧ miC M_X7_cancel = 7 ∧ miV M_X7_cancel = 4 := ⟨rfl, rfl, rfl, rfl, rfl⟩
theorem ok_X7_cancel : mOK M_X7_cancel := mOKi 571 (by decide +kernel) (by decide +kernel) rfl (by decide +kernel)
def M_X7_priority : MI := (yX7_priority, cX7_priority, 5, (Option.some FieldType.int), 7, 4)
theorem I_X7_priority : miB M_X7_priority = cX7_priority ∧ miL M_X7_priority = 5 ∧ miR M_X7_priority = (Option.some FieldType.int) ∧ miC M_X7_priority = 7 ∧ miV M_X7_priority = 4 := ⟨rfl, rfl, rfl, rfl, rfl⟩
theorem ok_X7_priority : mOK M_X7_priority := mOKi 577 (by decide +kernel) (by decide +kernel) rfl (by decide +kernel)
def M_X7_jobInfo : MI := (yX7_jobInfo, cX7_jobInfo, 4, (Option.some FieldType.int), 7, 2)
theorem I_X7_jobInfo : miB M_X7_jobInfo = cX7_jobInfo ∧ miL M_X7_jobInfo = 4 ∧ miR M_X7_jobInfo = (Option.some FieldType.int) ∧ miC M_X7_jobInfo = 7 ∧ miV M_X7_jobInfo = 2 := ⟨rfl, rfl, rfl, rfl, rfl⟩
theorem ok_X7_jobInfo : mOK M_X7_jobInfo := mOKi 363 (by decide +kernel) (by decide +kernel) rfl (by decide +kernel)
def M_X7_queued : MI := (yX7_queued, cX7_queued, 3, (Option.some FieldType.int), 7, 3)
theorem I_X7_queued : miB M_X7_queued = cX7_queued ∧ miL M_X7_queued = 3 ∧ miR M_X7_queued = (Option.some FieldType.int) ∧ miC M_X7_queued = 7 ∧ miV M_X7_queued = 3 := ⟨rfl, rfl, rfl, rfl, rfl⟩
theorem ok_X7_queued : mOK M_X7_queued := mOKi 285 (by decide +kernel) (by decide +kernel) rfl (by decide +kernel)
def M_X7_run : MI := (yX7_run, cX7_run, 3, (Option.some FieldType.int), 7, 7)
theorem I_X7_run : miB M_X7_run = cX7_run ∧ miL M_X7_run = 3 ∧ miR M_X7_run = (Option.some FieldType.int) ∧ miC M_X7_run = 7 ∧ miV M_X7_run = 7 := ⟨rfl, rfl, rfl, rfl, rfl⟩
theorem ok_X7_run : mOK M_X7_run := mOKi 581 (by decide +kernel) (by decide +kernel) rfl (by decide +kernel)
def M_X7_stop : MI := (yX7_stop, cX7_stop, 1, (Option.some FieldType.int), 7, 6)
theorem I_X7_stop : miB M_X7_stop = cX7_stop ∧ miL M_X7_stop = 1 ∧ miR M_X7_stop = (Option.some FieldType.int) ∧ miC M_X7_stop = 7 ∧ miV M_X7_stop = 6 := ⟨rfl, rfl, rfl, rfl, rfl⟩
theorem ok_X7_stop : mOK M_X7_stop := mOKi 423 (by decide +kernel) (by decide +kernel) rfl (by decide +kernel)
def M_X7_count : MI := (yX7_count, cX7_count, 2, (Option.some FieldType.int), 7, 2)
theorem I_X7_count : miB M_X7_count = cX7_count ∧ miL M_X7_count = 2 ∧ miR M_X7_count = (Option.some FieldType.int) ∧ miC M_X7_count = 7 ∧ miV M_X7_count = 2 := ⟨rfl, rfl, rfl, rfl, rfl⟩
theorem ok_X7_count : mOK M_X7_count := mOKi 301 (by decide +kernel) (by decide +kernel) rfl (by decide +kernel)
def M_X7_account : MI := (yX7_account, cX7_account, 2, (Option.some FieldType.int), 7, 1)
theorem I_X7_account : miB M_X7_account = cX7_account ∧ miL M_X7_account = 2 ∧ miR M_X7_account = (Option.some FieldType.int) ∧ miC M_X7_account = 7 ∧ miV M_X7_account = 1 := ⟨rfl, rfl, rfl, rfl, rfl⟩
theorem ok_X7_account : mOK M_X7_account := mOKi 359 (by decide +kernel) (by decide +kernel) rfl (by decide +kernel)
def M_X7_paper : MI := (yX7_paper, cX7_paper, 4, (Option.some FieldType.int), 7, 1)
theorem I_X7_paper : miB M_X7_paper = cX7_paper ∧ miL M_X7_paper = 4 ∧ miR M_X7_paper = (Option.some FieldType.int) ∧ miC M_X7_paper = 7 ∧ miV M_X7_paper = 1 := ⟨rfl, rfl, rfl, rfl, rfl⟩
theorem ok_X7_paper : mOK M_X7_paper := mOKi 416 (by decide +kernel) (by decide +kernel) rfl (by decide +kernel)
def M_X7_lacking : MI := (yX7_lacking, cX7_lacking, 3, (Option.some FieldType.int), 7, 3)
theorem I_X7_lacking : miB M_X7_lacking = cX7_lacking ∧ miL M_X7_lacking = 3 ∧ miR M_X7_lacking = (Option.some FieldType.int) ∧ miC M_X7_lacking = 7 ∧ miV M_X7_lacking = 3 := ⟨rfl, rfl, rfl, rfl, rfl⟩
theorem ok_X7_lacking : mOK M_X7_lacking := mOKi 391 (by decide +kernel) (by decide +kernel) rfl (by decide +kernel)
def M_X7_ticksTo : MI := (yX7_ticksTo, cX7_ticksTo, 2, (Option.some FieldType.int), 7, 7)
theorem I_X7_ticksTo : miB M_X7_ticksTo = cX7_ticksTo ∧ miL M_X7_ticksTo = 2 ∧ miR M_X7_ticksTo = (Option.some FieldType.int) ∧ miC M_X7_ticksTo = 7 ∧ miV M_X7_ticksTo = 7 := ⟨rfl, rfl, rfl, rfl, rfl⟩
theorem ok_X7_ticksTo : mOK M_X7_ticksTo := mOKi 603 (by decide +kernel) (by decide +kernel) rfl (by decide +kernel)
def M_X7_undo : MI := (yX7_undo, cX7_undo, 1, (Option.some FieldType.int), 7, 4)
theorem I_X7_undo : miB M_X7_undo = cX7_undo ∧ miL M_X7_undo = 1 ∧ miR M_X7_undo = (Option.some FieldType.int) ∧ miC M_X7_undo = 7 ∧ miV M_X7_undo = 4 := ⟨rfl, rfl, rfl, rfl, rfl⟩
theorem ok_X7_undo : mOK M_X7_undo := mOKi 316 (by decide +kernel) (by decide +kernel) rfl (by decide +kernel)
def M_X7_type : MI := (yX7_type, cX7_type, 2, (Option.some FieldType.int), 7, 2)
theorem I_X7_type : miB M_X7_type = cX7_type ∧ miL M_X7_type = 2 ∧ miR M_X7_type = (Option.some FieldType.int) ∧ miC M_X7_type = 7 ∧ miV M_X7_type = 2 := ⟨rfl, rfl, rfl, rfl, rfl⟩
theorem ok_X7_type : mOK M_X7_type := mOKi 611 (by decide +kernel) (by decide +kernel) rfl (by decide +kernel)
def M_X7_fault : MI := (yX7_fault, cX7_fault, 2, (Option.some FieldType.int), 7, 10)
theorem I_X7_fault : miB M_X7_fault = cX7_fault ∧ miL M_X7_fault = 2 ∧ miR M_X7_fault = (Option.some FieldType.int) ∧ miC M_X7_fault = 7 ∧ miV M_X7_fault = 10 := ⟨rfl, rfl, rfl, rfl, rfl⟩
theorem ok_X7_fault : mOK M_X7_fault := mOKi 620 (by decide +kernel) (by decide +kernel) rfl (by decide +kernel)
def M_X7_settingAt : MI := (yX7_settingAt, cX7_settingAt, 2, (Option.some FieldType.int), 7, 1)
theorem I_X7_settingAt : miB M_X7_settingAt = cX7_settingAt ∧ miL M_X7_settingAt = 2 ∧ miR M_X7_settingAt = (Option.some FieldType.int) ∧ miC M_X7_settingAt = 7 ∧ miV M_X7_settingAt = 1 := ⟨rfl, rfl, rfl, rfl, rfl⟩
theorem ok_X7_settingAt : mOK M_X7_settingAt := mOKi 312 (by decide +kernel) (by decide +kernel) rfl (by decide +kernel)
def M_X7_isWithin : MI := (yX7_isWithin, cX7_isWithin, 3, (Option.some FieldType.boolean), 7, 0)
theorem I_X7_isWithin : miB M_X7_isWithin = cX7_isWithin ∧ miL M_X7_isWithin = 3 ∧ miR M_X7_isWithin = (Option.some FieldType.boolean) ∧ miC M_X7_isWithin = 7 ∧ miV M_X7_isWithin = 0 := ⟨rfl, rfl, rfl, rfl, rfl⟩
theorem ok_X7_isWithin : mOK M_X7_isWithin := mOKi 419 (by decide +kernel) (by decide +kernel) rfl (by decide +kernel)
def M_X7_isBelow : MI := (yX7_isBelow, cX7_isBelow, 2, (Option.some FieldType.boolean), 7, 0)
theorem I_X7_isBelow : miB M_X7_isBelow = cX7_isBelow ∧ miL M_X7_isBelow = 2 ∧ miR M_X7_isBelow = (Option.some FieldType.boolean) ∧ miC M_X7_isBelow = 7 ∧ miV M_X7_isBelow = 0 := ⟨rfl, rfl, rfl, rfl, rfl⟩
theorem ok_X7_isBelow : mOK M_X7_isBelow := mOKi 304 (by decide +kernel) (by decide +kernel) rfl (by decide +kernel)
def M_X7_isPaper : MI := (yX7_isPaper, cX7_isPaper, 2, (Option.some FieldType.boolean), 7, 1)
theorem I_X7_isPaper : miB M_X7_isPaper = cX7_isPaper ∧ miL M_X7_isPaper = 2 ∧ miR M_X7_isPaper = (Option.some FieldType.boolean) ∧ miC M_X7_isPaper = 7 ∧ miV M_X7_isPaper = 1 := ⟨rfl, rfl, rfl, rfl, rfl⟩
theorem ok_X7_isPaper : mOK M_X7_isPaper := mOKi 394 (by decide +kernel) (by decide +kernel) rfl (by decide +kernel)
def M_L_cell : MI := (yL_cell, cL_cell, 3, (Option.some FieldType.int), 8, 0)
theorem I_L_cell : miB M_L_cell = cL_cell ∧ miL M_L_cell = 3 ∧ miR M_L_cell = (Option.some FieldType.int) ∧ miC M_L_cell = 8 ∧ miV M_L_cell = 0 := ⟨rfl, rfl, rfl, rfl, rfl⟩
theorem ok_L_cell : mOK M_L_cell := mOKi 345 (by decide +kernel) (by decide +kernel) rfl (by decide +kernel)
def M_L_low : MI := (yL_low, cL_low, 2, (Option.some FieldType.int), 8, 0)
theorem I_L_low : miB M_L_low = cL_low ∧ miL M_L_low = 2 ∧ miR M_L_low = (Option.some FieldType.int) ∧ miC M_L_low = 8 ∧ miV M_L_low = 0 := ⟨rfl, rfl, rfl, rfl, rfl⟩
theorem ok_L_low : mOK M_L_low := mOKi 349 (by decide +kernel) (by decide +kernel) rfl (by decide +kernel)
def M_L_print : MI := (yL_print, cL_print, 6, (Option.some FieldType.long), 8, 7)
theorem I_L_print : miB M_L_print = cL_print ∧ miL M_L_print = 6 ∧ miR M_L_print = (Option.some FieldType.long) ∧ miC M_L_print = 8 ∧ miV M_L_print = 7 := ⟨rfl, rfl, rfl, rfl, rfl⟩
theorem ok_L_print : mOK M_L_print := mOKi 353 (by decide +kernel) (by decide +kernel) rfl (by decide +kernel)
def M_L_refused : MI := (yL_refused, cL_refused, 6, (Option.some FieldType.boolean), 8, 11)
theorem I_L_refused : miB M_L_refused = cL_refused ∧ miL M_L_refused = 6 ∧ miR M_L_refused = (Option.some FieldType.boolean) ∧ miC M_L_refused = 8 ∧ miV M_L_refused = 11 := ⟨rfl, rfl, rfl, rfl, rfl⟩
theorem ok_L_refused : mOK M_L_refused := mOKi 493 (by decide +kernel) (by decide +kernel) rfl (by decide +kernel)
def M_L_areSheets : MI := (yL_areSheets, cL_areSheets, 7, (Option.some FieldType.boolean), 8, 3)
theorem I_L_areSheets : miB M_L_areSheets = cL_areSheets ∧ miL M_L_areSheets = 7 ∧ miR M_L_areSheets = (Option.some FieldType.boolean) ∧ miC M_L_areSheets = 8 ∧ miV M_L_areSheets = 3 := ⟨rfl, rfl, rfl, rfl, rfl⟩
theorem ok_L_areSheets : mOK M_L_areSheets := mOKi 732 (by decide +kernel) (by decide +kernel) rfl (by decide +kernel)
def M_L_areJobs : MI := (yL_areJobs, cL_areJobs, 14, (Option.some FieldType.boolean), 8, 4)
theorem I_L_areJobs : miB M_L_areJobs = cL_areJobs ∧ miL M_L_areJobs = 14 ∧ miR M_L_areJobs = (Option.some FieldType.boolean) ∧ miC M_L_areJobs = 8 ∧ miV M_L_areJobs = 4 := ⟨rfl, rfl, rfl, rfl, rfl⟩
theorem ok_L_areJobs : mOK M_L_areJobs := mOKi 735 (by decide +kernel) (by decide +kernel) rfl (by decide +kernel)
def M_L_isFilled : MI := (yL_isFilled, cL_isFilled, 9, (Option.some FieldType.boolean), 8, 8)
theorem I_L_isFilled : miB M_L_isFilled = cL_isFilled ∧ miL M_L_isFilled = 9 ∧ miR M_L_isFilled = (Option.some FieldType.boolean) ∧ miC M_L_isFilled = 8 ∧ miV M_L_isFilled = 8 := ⟨rfl, rfl, rfl, rfl, rfl⟩
theorem ok_L_isFilled : mOK M_L_isFilled := mOKi 738 (by decide +kernel) (by decide +kernel) rfl (by decide +kernel)
def M_L_isRun : MI := (yL_isRun, cL_isRun, 12, (Option.some FieldType.boolean), 8, 8)
theorem I_L_isRun : miB M_L_isRun = cL_isRun ∧ miL M_L_isRun = 12 ∧ miR M_L_isRun = (Option.some FieldType.boolean) ∧ miC M_L_isRun = 8 ∧ miV M_L_isRun = 8 := ⟨rfl, rfl, rfl, rfl, rfl⟩
theorem ok_L_isRun : mOK M_L_isRun := mOKi 741 (by decide +kernel) (by decide +kernel) rfl (by decide +kernel)
def M_L_isFinished : MI := (yL_isFinished, cL_isFinished, 7, (Option.some FieldType.boolean), 8, 8)
theorem I_L_isFinished : miB M_L_isFinished = cL_isFinished ∧ miL M_L_isFinished = 7 ∧ miR M_L_isFinished = (Option.some FieldType.boolean) ∧ miC M_L_isFinished = 8 ∧ miV M_L_isFinished = 8 := ⟨rfl, rfl, rfl, rfl, rfl⟩
theorem ok_L_isFinished : mOK M_L_isFinished := mOKi 744 (by decide +kernel) (by decide +kernel) rfl (by decide +kernel)
def M_L_acts : MI := (yL_acts, cL_acts, 5, (Option.some FieldType.int), 8, 8)
theorem I_L_acts : miB M_L_acts = cL_acts ∧ miL M_L_acts = 5 ∧ miR M_L_acts = (Option.some FieldType.int) ∧ miC M_L_acts = 8 ∧ miV M_L_acts = 8 := ⟨rfl, rfl, rfl, rfl, rfl⟩
theorem ok_L_acts : mOK M_L_acts := mOKi 747 (by decide +kernel) (by decide +kernel) rfl (by decide +kernel)
def nestL : List Cond := [.methodLinkNest RX4 11 yX6_init RX7, .methodLinkNest RX5 21 yX1_init RX7, .methodLinkNest RX4 27 yX3_init RX7, .methodLinkNest RX7 28 yX2_init RX7, .methodLinkNest RX7 35 yX1_init RX7, .methodLinkNest RX3 37 yX7_isBelow RX7, .methodLinkNest RX6 27 yX7_isBelow RX7, .methodLinkNest RX1 58 yX7_isWithin RX7, .methodLinkNest RX2 19 yX7_isBelow RX7]
def callOK (c i kd n cl lv : Nat) (M : MI) : Prop := mOK M ∧ (parseMethodDescriptor (miN M).desc).map (fun d => d.parameters.length) = some n ∧ Cond.initialized (miN M).cls ∈ UW ∧ ((miN M).cls ≠ "java/lang/invoke/MethodHandle" ∧ (miN M).cls ≠ "java/lang/invoke/VarHandle") ∧ miC M = cl ∧ miV M = lv ∧ (match kd with
  | 0 => Cond.methodLink (RXs c) i (miN M) ∈ UW ∧ Cond.instanceMethod (miN M) ∈ UW ∧ Cond.selects (miN M).cls (miN M) (miN M) ∈ UW
  | 1 => Cond.methodLink (RXs c) i (miN M) ∈ UW ∧ Cond.static (miN M) ∈ UW
  | 2 => Cond.methodLink (RXs c) i (miN M) ∈ UW ∧ Cond.instanceMethod (miN M) ∈ UW ∧ (miN M).name = "<init>" ∧ miR M = none
  | 3 => Cond.methodLinkNest (RXs c) i (miN M) RX7 ∈ nestL ∧ Cond.static (miN M) ∈ UW
  | _ => Cond.methodLinkNest (RXs c) i (miN M) RX7 ∈ nestL ∧ Cond.instanceMethod (miN M) ∈ UW ∧ (miN M).name = "<init>" ∧ miR M = none)
theorem ca_0_17 : callOK 0 17 2 0 4 3 M_X4_init := ⟨ok_X4_init, by decide +kernel, uw 3 (by decide +kernel) rfl, by decide +kernel, rfl, rfl, ⟨uw 223 (by decide +kernel) rfl, uw 27 (by decide +kernel) rfl, rfl, rfl⟩⟩
theorem ca_0_22 : callOK 0 22 0 0 0 0 M_X0_dropOldest := ⟨ok_X0_dropOldest, by decide +kernel, uw 9 (by decide +kernel) rfl, by decide +kernel, rfl, rfl, ⟨uw 502 (by decide +kernel) rfl, uw 503 (by decide +kernel) rfl, uw 504 (by decide +kernel) rfl⟩⟩
theorem ca_0_25 : callOK 0 25 0 1 4 2 M_X4_copyFrom := ⟨ok_X4_copyFrom, by decide +kernel, uw 3 (by decide +kernel) rfl, by decide +kernel, rfl, rfl, ⟨uw 321 (by decide +kernel) rfl, uw 322 (by decide +kernel) rfl, uw 323 (by decide +kernel) rfl⟩⟩
theorem ca_1_58 : callOK 1 58 3 3 7 0 M_X7_isWithin := ⟨ok_X7_isWithin, by decide +kernel, uw 2 (by decide +kernel) rfl, by decide +kernel, rfl, rfl, ⟨List.mem_of_getElem? (i := 7) rfl, uw 418 (by decide +kernel) rfl⟩⟩
theorem ca_1_62 : callOK 1 62 0 0 1 0 M_X1_nextSheet := ⟨ok_X1_nextSheet, by decide +kernel, uw 6 (by decide +kernel) rfl, by decide +kernel, rfl, rfl, ⟨uw 372 (by decide +kernel) rfl, uw 373 (by decide +kernel) rfl, uw 374 (by decide +kernel) rfl⟩⟩
theorem ca_1_66 : callOK 1 66 0 0 1 0 M_X1_nextCopy := ⟨ok_X1_nextCopy, by decide +kernel, uw 6 (by decide +kernel) rfl, by decide +kernel, rfl, rfl, ⟨uw 376 (by decide +kernel) rfl, uw 377 (by decide +kernel) rfl, uw 378 (by decide +kernel) rfl⟩⟩
theorem ca_2_19 : callOK 2 19 3 2 7 0 M_X7_isBelow := ⟨ok_X7_isBelow, by decide +kernel, uw 2 (by decide +kernel) rfl, by decide +kernel, rfl, rfl, ⟨List.mem_of_getElem? (i := 8) rfl, uw 303 (by decide +kernel) rfl⟩⟩
theorem ca_2_33 : callOK 2 33 0 0 5 0 M_X5_room := ⟨ok_X5_room, by decide +kernel, uw 5 (by decide +kernel) rfl, by decide +kernel, rfl, rfl, ⟨uw 625 (by decide +kernel) rfl, uw 545 (by decide +kernel) rfl, uw 546 (by decide +kernel) rfl⟩⟩
theorem ca_2_51 : callOK 2 51 0 3 2 8 M_X2_reasonOfNext := ⟨ok_X2_reasonOfNext, by decide +kernel, uw 10 (by decide +kernel) rfl, by decide +kernel, rfl, rfl, ⟨uw 626 (by decide +kernel) rfl, uw 627 (by decide +kernel) rfl, uw 628 (by decide +kernel) rfl⟩⟩
theorem ca_2_55 : callOK 2 55 0 1 2 7 M_X2_readJob := ⟨ok_X2_readJob, by decide +kernel, uw 10 (by decide +kernel) rfl, by decide +kernel, rfl, rfl, ⟨uw 630 (by decide +kernel) rfl, uw 631 (by decide +kernel) rfl, uw 632 (by decide +kernel) rfl⟩⟩
theorem ca_2_59 : callOK 2 59 0 0 1 1 M_X1_isInRange := ⟨ok_X1_isInRange, by decide +kernel, uw 6 (by decide +kernel) rfl, by decide +kernel, rfl, rfl, ⟨uw 727 (by decide +kernel) rfl, uw 536 (by decide +kernel) rfl, uw 537 (by decide +kernel) rfl⟩⟩
theorem ca_2_65 : callOK 2 65 0 1 1 0 M_X1_staplingRefusal := ⟨ok_X1_staplingRefusal, by decide +kernel, uw 6 (by decide +kernel) rfl, by decide +kernel, rfl, rfl, ⟨uw 728 (by decide +kernel) rfl, uw 541 (by decide +kernel) rfl, uw 542 (by decide +kernel) rfl⟩⟩
theorem ca_2_71 : callOK 2 71 0 1 2 6 M_X2_readNumber := ⟨ok_X2_readNumber, by decide +kernel, uw 10 (by decide +kernel) rfl, by decide +kernel, rfl, rfl, ⟨uw 635 (by decide +kernel) rfl, uw 636 (by decide +kernel) rfl, uw 637 (by decide +kernel) rfl⟩⟩
theorem ca_2_77 : callOK 2 77 0 0 2 6 M_X2_readHow := ⟨ok_X2_readHow, by decide +kernel, uw 10 (by decide +kernel) rfl, by decide +kernel, rfl, rfl, ⟨uw 696 (by decide +kernel) rfl, uw 697 (by decide +kernel) rfl, uw 698 (by decide +kernel) rfl⟩⟩
theorem ca_2_80 : callOK 2 80 0 0 2 6 M_X2_readSize := ⟨ok_X2_readSize, by decide +kernel, uw 10 (by decide +kernel) rfl, by decide +kernel, rfl, rfl, ⟨uw 704 (by decide +kernel) rfl, uw 705 (by decide +kernel) rfl, uw 706 (by decide +kernel) rfl⟩⟩
theorem ca_2_83 : callOK 2 83 0 0 2 6 M_X2_readKind := ⟨ok_X2_readKind, by decide +kernel, uw 10 (by decide +kernel) rfl, by decide +kernel, rfl, rfl, ⟨uw 715 (by decide +kernel) rfl, uw 716 (by decide +kernel) rfl, uw 717 (by decide +kernel) rfl⟩⟩
theorem ca_2_86 : callOK 2 86 0 5 1 0 M_X1_describe := ⟨ok_X1_describe, by decide +kernel, uw 6 (by decide +kernel) rfl, by decide +kernel, rfl, rfl, ⟨uw 726 (by decide +kernel) rfl, uw 532 (by decide +kernel) rfl, uw 533 (by decide +kernel) rfl⟩⟩
theorem ca_2_90 : callOK 2 90 0 0 2 0 M_X2_digitAtPlace := ⟨ok_X2_digitAtPlace, by decide +kernel, uw 10 (by decide +kernel) rfl, by decide +kernel, rfl, rfl, ⟨uw 639 (by decide +kernel) rfl, uw 640 (by decide +kernel) rfl, uw 641 (by decide +kernel) rfl⟩⟩
theorem ca_2_93 : callOK 2 93 0 1 2 5 M_X2_skips := ⟨ok_X2_skips, by decide +kernel, uw 10 (by decide +kernel) rfl, by decide +kernel, rfl, rfl, ⟨uw 643 (by decide +kernel) rfl, uw 644 (by decide +kernel) rfl, uw 645 (by decide +kernel) rfl⟩⟩
theorem ca_2_105 : callOK 2 105 1 1 2 0 M_X2_sizeWord := ⟨ok_X2_sizeWord, by decide +kernel, uw 10 (by decide +kernel) rfl, by decide +kernel, rfl, rfl, ⟨uw 708 (by decide +kernel) rfl, uw 709 (by decide +kernel) rfl⟩⟩
theorem ca_2_109 : callOK 2 109 1 1 2 0 M_X2_kindWord := ⟨ok_X2_kindWord, by decide +kernel, uw 10 (by decide +kernel) rfl, by decide +kernel, rfl, rfl, ⟨uw 719 (by decide +kernel) rfl, uw 720 (by decide +kernel) rfl⟩⟩
theorem ca_3_37 : callOK 3 37 3 2 7 0 M_X7_isBelow := ⟨ok_X7_isBelow, by decide +kernel, uw 2 (by decide +kernel) rfl, by decide +kernel, rfl, rfl, ⟨List.mem_of_getElem? (i := 5) rfl, uw 303 (by decide +kernel) rfl⟩⟩
theorem ca_3_41 : callOK 3 41 0 2 3 1 M_X3_add := ⟨ok_X3_add, by decide +kernel, uw 7 (by decide +kernel) rfl, by decide +kernel, rfl, rfl, ⟨uw 486 (by decide +kernel) rfl, uw 457 (by decide +kernel) rfl, uw 458 (by decide +kernel) rfl⟩⟩
theorem ca_4_11 : callOK 4 11 4 0 6 1 M_X6_init := ⟨ok_X6_init, by decide +kernel, uw 4 (by decide +kernel) rfl, by decide +kernel, rfl, rfl, ⟨List.mem_of_getElem? (i := 0) rfl, uw 33 (by decide +kernel) rfl, rfl, rfl⟩⟩
theorem ca_4_20 : callOK 4 20 2 0 5 2 M_X5_init := ⟨ok_X5_init, by decide +kernel, uw 5 (by decide +kernel) rfl, by decide +kernel, rfl, rfl, ⟨uw 52 (by decide +kernel) rfl, uw 53 (by decide +kernel) rfl, rfl, rfl⟩⟩
theorem ca_4_27 : callOK 4 27 4 0 3 1 M_X3_init := ⟨ok_X3_init, by decide +kernel, uw 7 (by decide +kernel) rfl, by decide +kernel, rfl, rfl, ⟨List.mem_of_getElem? (i := 2) rfl, uw 143 (by decide +kernel) rfl, rfl, rfl⟩⟩
theorem ca_4_52 : callOK 4 52 0 1 6 1 M_X6_copyFrom := ⟨ok_X6_copyFrom, by decide +kernel, uw 4 (by decide +kernel) rfl, by decide +kernel, rfl, rfl, ⟨uw 325 (by decide +kernel) rfl, uw 326 (by decide +kernel) rfl, uw 327 (by decide +kernel) rfl⟩⟩
theorem ca_4_56 : callOK 4 56 0 1 5 1 M_X5_copyFrom := ⟨ok_X5_copyFrom, by decide +kernel, uw 5 (by decide +kernel) rfl, by decide +kernel, rfl, rfl, ⟨uw 330 (by decide +kernel) rfl, uw 331 (by decide +kernel) rfl, uw 332 (by decide +kernel) rfl⟩⟩
theorem ca_4_59 : callOK 4 59 0 1 3 1 M_X3_copyFrom := ⟨ok_X3_copyFrom, by decide +kernel, uw 7 (by decide +kernel) rfl, by decide +kernel, rfl, rfl, ⟨uw 338 (by decide +kernel) rfl, uw 339 (by decide +kernel) rfl, uw 340 (by decide +kernel) rfl⟩⟩
theorem ca_4_71 : callOK 4 71 0 0 4 5 M_X4_findWork := ⟨ok_X4_findWork, by decide +kernel, uw 3 (by decide +kernel) rfl, by decide +kernel, rfl, rfl, ⟨uw 587 (by decide +kernel) rfl, uw 426 (by decide +kernel) rfl, uw 427 (by decide +kernel) rfl⟩⟩
theorem ca_4_75 : callOK 4 75 0 1 4 5 M_X4_goOnWorking := ⟨ok_X4_goOnWorking, by decide +kernel, uw 3 (by decide +kernel) rfl, by decide +kernel, rfl, rfl, ⟨uw 588 (by decide +kernel) rfl, uw 589 (by decide +kernel) rfl, uw 590 (by decide +kernel) rfl⟩⟩
theorem ca_4_79 : callOK 4 79 0 2 3 1 M_X3_add := ⟨ok_X3_add, by decide +kernel, uw 7 (by decide +kernel) rfl, by decide +kernel, rfl, rfl, ⟨uw 456 (by decide +kernel) rfl, uw 457 (by decide +kernel) rfl, uw 458 (by decide +kernel) rfl⟩⟩
theorem ca_4_83 : callOK 4 83 0 1 5 0 M_X5_find := ⟨ok_X5_find, by decide +kernel, uw 5 (by decide +kernel) rfl, by decide +kernel, rfl, rfl, ⟨uw 408 (by decide +kernel) rfl, uw 365 (by decide +kernel) rfl, uw 366 (by decide +kernel) rfl⟩⟩
theorem ca_4_87 : callOK 4 87 0 0 5 1 M_X5_next := ⟨ok_X5_next, by decide +kernel, uw 5 (by decide +kernel) rfl, by decide +kernel, rfl, rfl, ⟨uw 429 (by decide +kernel) rfl, uw 430 (by decide +kernel) rfl, uw 431 (by decide +kernel) rfl⟩⟩
theorem ca_4_91 : callOK 4 91 0 1 4 1 M_X4_stopReason := ⟨ok_X4_stopReason, by decide +kernel, uw 3 (by decide +kernel) rfl, by decide +kernel, rfl, rfl, ⟨uw 433 (by decide +kernel) rfl, uw 434 (by decide +kernel) rfl, uw 435 (by decide +kernel) rfl⟩⟩
theorem ca_4_95 : callOK 4 95 0 0 1 0 M_X1_hasSetToStaple := ⟨ok_X1_hasSetToStaple, by decide +kernel, uw 6 (by decide +kernel) rfl, by decide +kernel, rfl, rfl, ⟨uw 437 (by decide +kernel) rfl, uw 438 (by decide +kernel) rfl, uw 439 (by decide +kernel) rfl⟩⟩
theorem ca_4_101 : callOK 4 101 0 1 4 4 M_X4_beginStapling := ⟨ok_X4_beginStapling, by decide +kernel, uw 3 (by decide +kernel) rfl, by decide +kernel, rfl, rfl, ⟨uw 445 (by decide +kernel) rfl, uw 446 (by decide +kernel) rfl, uw 447 (by decide +kernel) rfl⟩⟩
theorem ca_4_105 : callOK 4 105 0 1 4 3 M_X4_beginSheet := ⟨ok_X4_beginSheet, by decide +kernel, uw 3 (by decide +kernel) rfl, by decide +kernel, rfl, rfl, ⟨uw 473 (by decide +kernel) rfl, uw 474 (by decide +kernel) rfl, uw 475 (by decide +kernel) rfl⟩⟩
theorem ca_4_117 : callOK 4 117 0 2 6 0 M_X6_lowestWith := ⟨ok_X6_lowestWith, by decide +kernel, uw 4 (by decide +kernel) rfl, by decide +kernel, rfl, rfl, ⟨uw 441 (by decide +kernel) rfl, uw 442 (by decide +kernel) rfl, uw 443 (by decide +kernel) rfl⟩⟩
theorem ca_4_121 : callOK 4 121 0 2 6 1 M_X6_takeSheet := ⟨ok_X6_takeSheet, by decide +kernel, uw 4 (by decide +kernel) rfl, by decide +kernel, rfl, rfl, ⟨uw 477 (by decide +kernel) rfl, uw 478 (by decide +kernel) rfl, uw 479 (by decide +kernel) rfl⟩⟩
theorem ca_4_124 : callOK 4 124 0 2 3 2 M_X3_addTakenSheet := ⟨ok_X3_addTakenSheet, by decide +kernel, uw 7 (by decide +kernel) rfl, by decide +kernel, rfl, rfl, ⟨uw 482 (by decide +kernel) rfl, uw 483 (by decide +kernel) rfl, uw 484 (by decide +kernel) rfl⟩⟩
theorem ca_4_133 : callOK 4 133 0 0 1 1 M_X1_sidesOfNextSheet := ⟨ok_X1_sidesOfNextSheet, by decide +kernel, uw 6 (by decide +kernel) rfl, by decide +kernel, rfl, rfl, ⟨uw 487 (by decide +kernel) rfl, uw 488 (by decide +kernel) rfl, uw 489 (by decide +kernel) rfl⟩⟩
theorem ca_4_136 : callOK 4 136 0 1 4 3 M_X4_finishStapling := ⟨ok_X4_finishStapling, by decide +kernel, uw 3 (by decide +kernel) rfl, by decide +kernel, rfl, rfl, ⟨uw 449 (by decide +kernel) rfl, uw 450 (by decide +kernel) rfl, uw 451 (by decide +kernel) rfl⟩⟩
theorem ca_4_144 : callOK 4 144 0 0 4 4 M_X4_finishWork := ⟨ok_X4_finishWork, by decide +kernel, uw 3 (by decide +kernel) rfl, by decide +kernel, rfl, rfl, ⟨uw 592 (by decide +kernel) rfl, uw 593 (by decide +kernel) rfl, uw 594 (by decide +kernel) rfl⟩⟩
theorem ca_4_147 : callOK 4 147 0 1 4 3 M_X4_finishSheet := ⟨ok_X4_finishSheet, by decide +kernel, uw 3 (by decide +kernel) rfl, by decide +kernel, rfl, rfl, ⟨uw 596 (by decide +kernel) rfl, uw 597 (by decide +kernel) rfl, uw 598 (by decide +kernel) rfl⟩⟩
theorem ca_4_156 : callOK 4 156 0 1 4 2 M_X4_removeIfFinished := ⟨ok_X4_removeIfFinished, by decide +kernel, uw 3 (by decide +kernel) rfl, by decide +kernel, rfl, rfl, ⟨uw 461 (by decide +kernel) rfl, uw 462 (by decide +kernel) rfl, uw 463 (by decide +kernel) rfl⟩⟩
theorem ca_4_162 : callOK 4 162 0 0 1 0 M_X1_isFinished := ⟨ok_X1_isFinished, by decide +kernel, uw 6 (by decide +kernel) rfl, by decide +kernel, rfl, rfl, ⟨uw 465 (by decide +kernel) rfl, uw 466 (by decide +kernel) rfl, uw 467 (by decide +kernel) rfl⟩⟩
theorem ca_4_165 : callOK 4 165 0 1 5 0 M_X5_remove := ⟨ok_X5_remove, by decide +kernel, uw 5 (by decide +kernel) rfl, by decide +kernel, rfl, rfl, ⟨uw 469 (by decide +kernel) rfl, uw 470 (by decide +kernel) rfl, uw 471 (by decide +kernel) rfl⟩⟩
theorem ca_4_168 : callOK 4 168 0 1 4 2 M_X4_giveUpWorkOf := ⟨ok_X4_giveUpWorkOf, by decide +kernel, uw 3 (by decide +kernel) rfl, by decide +kernel, rfl, rfl, ⟨uw 564 (by decide +kernel) rfl, uw 565 (by decide +kernel) rfl, uw 566 (by decide +kernel) rfl⟩⟩
theorem ca_4_172 : callOK 4 172 0 2 5 1 M_X5_sheetsToPrint := ⟨ok_X5_sheetsToPrint, by decide +kernel, uw 5 (by decide +kernel) rfl, by decide +kernel, rfl, rfl, ⟨uw 399 (by decide +kernel) rfl, uw 400 (by decide +kernel) rfl, uw 401 (by decide +kernel) rfl⟩⟩
theorem ca_4_175 : callOK 4 175 0 2 6 0 M_X6_sheetsOf := ⟨ok_X6_sheetsOf, by decide +kernel, uw 4 (by decide +kernel) rfl, by decide +kernel, rfl, rfl, ⟨uw 407 (by decide +kernel) rfl, uw 385 (by decide +kernel) rfl, uw 386 (by decide +kernel) rfl⟩⟩
theorem ca_4_178 : callOK 4 178 0 2 1 0 M_X1_isOn := ⟨ok_X1_isOn, by decide +kernel, uw 6 (by decide +kernel) rfl, by decide +kernel, rfl, rfl, ⟨uw 409 (by decide +kernel) rfl, uw 404 (by decide +kernel) rfl, uw 405 (by decide +kernel) rfl⟩⟩
theorem ca_5_21 : callOK 5 21 4 0 1 1 M_X1_init := ⟨ok_X1_init, by decide +kernel, uw 6 (by decide +kernel) rfl, by decide +kernel, rfl, rfl, ⟨List.mem_of_getElem? (i := 1) rfl, uw 60 (by decide +kernel) rfl, rfl, rfl⟩⟩
theorem ca_5_28 : callOK 5 28 0 1 1 0 M_X1_copyFrom := ⟨ok_X1_copyFrom, by decide +kernel, uw 6 (by decide +kernel) rfl, by decide +kernel, rfl, rfl, ⟨uw 334 (by decide +kernel) rfl, uw 335 (by decide +kernel) rfl, uw 336 (by decide +kernel) rfl⟩⟩
theorem ca_5_42 : callOK 5 42 0 2 5 0 M_X5_isAhead := ⟨ok_X5_isAhead, by decide +kernel, uw 5 (by decide +kernel) rfl, by decide +kernel, rfl, rfl, ⟨uw 294 (by decide +kernel) rfl, uw 295 (by decide +kernel) rfl, uw 296 (by decide +kernel) rfl⟩⟩
theorem ca_5_46 : callOK 5 46 0 1 5 1 M_X5_jobsAheadOf := ⟨ok_X5_jobsAheadOf, by decide +kernel, uw 5 (by decide +kernel) rfl, by decide +kernel, rfl, rfl, ⟨uw 290 (by decide +kernel) rfl, uw 291 (by decide +kernel) rfl, uw 292 (by decide +kernel) rfl⟩⟩
theorem ca_5_50 : callOK 5 50 0 2 1 0 M_X1_isOn := ⟨ok_X1_isOn, by decide +kernel, uw 6 (by decide +kernel) rfl, by decide +kernel, rfl, rfl, ⟨uw 403 (by decide +kernel) rfl, uw 404 (by decide +kernel) rfl, uw 405 (by decide +kernel) rfl⟩⟩
theorem ca_6_27 : callOK 6 27 3 2 7 0 M_X7_isBelow := ⟨ok_X7_isBelow, by decide +kernel, uw 2 (by decide +kernel) rfl, by decide +kernel, rfl, rfl, ⟨List.mem_of_getElem? (i := 6) rfl, uw 303 (by decide +kernel) rfl⟩⟩
theorem ca_6_31 : callOK 6 31 0 2 6 0 M_X6_lowestWith := ⟨ok_X6_lowestWith, by decide +kernel, uw 4 (by decide +kernel) rfl, by decide +kernel, rfl, rfl, ⟨uw 481 (by decide +kernel) rfl, uw 442 (by decide +kernel) rfl, uw 443 (by decide +kernel) rfl⟩⟩
theorem ca_7_11 : callOK 7 11 2 0 4 3 M_X4_init := ⟨ok_X4_init, by decide +kernel, uw 3 (by decide +kernel) rfl, by decide +kernel, rfl, rfl, ⟨uw 26 (by decide +kernel) rfl, uw 27 (by decide +kernel) rfl, rfl, rfl⟩⟩
theorem ca_7_21 : callOK 7 21 2 0 0 4 M_X0_init := ⟨ok_X0_init, by decide +kernel, uw 9 (by decide +kernel) rfl, by decide +kernel, rfl, rfl, ⟨uw 217 (by decide +kernel) rfl, uw 218 (by decide +kernel) rfl, rfl, rfl⟩⟩
theorem ca_7_28 : callOK 7 28 4 0 2 1 M_X2_init := ⟨ok_X2_init, by decide +kernel, uw 10 (by decide +kernel) rfl, by decide +kernel, rfl, rfl, ⟨List.mem_of_getElem? (i := 3) rfl, uw 235 (by decide +kernel) rfl, rfl, rfl⟩⟩
theorem ca_7_35 : callOK 7 35 4 0 1 1 M_X1_init := ⟨ok_X1_init, by decide +kernel, uw 6 (by decide +kernel) rfl, by decide +kernel, rfl, rfl, ⟨List.mem_of_getElem? (i := 4) rfl, uw 60 (by decide +kernel) rfl, rfl, rfl⟩⟩
theorem ca_7_40 : callOK 7 40 1 2 7 0 M_X7_isBelow := ⟨ok_X7_isBelow, by decide +kernel, uw 2 (by decide +kernel) rfl, by decide +kernel, rfl, rfl, ⟨uw 302 (by decide +kernel) rfl, uw 303 (by decide +kernel) rfl⟩⟩
theorem ca_7_44 : callOK 7 44 1 3 7 0 M_X7_isWithin := ⟨ok_X7_isWithin, by decide +kernel, uw 2 (by decide +kernel) rfl, by decide +kernel, rfl, rfl, ⟨uw 417 (by decide +kernel) rfl, uw 418 (by decide +kernel) rfl⟩⟩
theorem ca_7_58 : callOK 7 58 0 1 0 3 M_X0_keep := ⟨ok_X0_keep, by decide +kernel, uw 9 (by decide +kernel) rfl, by decide +kernel, rfl, rfl, ⟨uw 498 (by decide +kernel) rfl, uw 499 (by decide +kernel) rfl, uw 500 (by decide +kernel) rfl⟩⟩
theorem ca_7_62 : callOK 7 62 1 2 7 1 M_X7_isPaper := ⟨ok_X7_isPaper, by decide +kernel, uw 2 (by decide +kernel) rfl, by decide +kernel, rfl, rfl, ⟨uw 392 (by decide +kernel) rfl, uw 393 (by decide +kernel) rfl⟩⟩
theorem ca_7_65 : callOK 7 65 0 3 6 1 M_X6_change := ⟨ok_X6_change, by decide +kernel, uw 4 (by decide +kernel) rfl, by decide +kernel, rfl, rfl, ⟨uw 510 (by decide +kernel) rfl, uw 511 (by decide +kernel) rfl, uw 512 (by decide +kernel) rfl⟩⟩
theorem ca_7_75 : callOK 7 75 0 2 6 0 M_X6_sheetsOf := ⟨ok_X6_sheetsOf, by decide +kernel, uw 4 (by decide +kernel) rfl, by decide +kernel, rfl, rfl, ⟨uw 384 (by decide +kernel) rfl, uw 385 (by decide +kernel) rfl, uw 386 (by decide +kernel) rfl⟩⟩
theorem ca_7_95 : callOK 7 95 0 5 1 0 M_X1_describe := ⟨ok_X1_describe, by decide +kernel, uw 6 (by decide +kernel) rfl, by decide +kernel, rfl, rfl, ⟨uw 531 (by decide +kernel) rfl, uw 532 (by decide +kernel) rfl, uw 533 (by decide +kernel) rfl⟩⟩
theorem ca_7_99 : callOK 7 99 0 0 1 1 M_X1_isInRange := ⟨ok_X1_isInRange, by decide +kernel, uw 6 (by decide +kernel) rfl, by decide +kernel, rfl, rfl, ⟨uw 535 (by decide +kernel) rfl, uw 536 (by decide +kernel) rfl, uw 537 (by decide +kernel) rfl⟩⟩
theorem ca_7_103 : callOK 7 103 0 1 1 0 M_X1_staplingRefusal := ⟨ok_X1_staplingRefusal, by decide +kernel, uw 6 (by decide +kernel) rfl, by decide +kernel, rfl, rfl, ⟨uw 540 (by decide +kernel) rfl, uw 541 (by decide +kernel) rfl, uw 542 (by decide +kernel) rfl⟩⟩
theorem ca_7_114 : callOK 7 114 0 0 5 0 M_X5_room := ⟨ok_X5_room, by decide +kernel, uw 5 (by decide +kernel) rfl, by decide +kernel, rfl, rfl, ⟨uw 544 (by decide +kernel) rfl, uw 545 (by decide +kernel) rfl, uw 546 (by decide +kernel) rfl⟩⟩
theorem ca_7_120 : callOK 7 120 0 1 5 1 M_X5_append := ⟨ok_X5_append, by decide +kernel, uw 5 (by decide +kernel) rfl, by decide +kernel, rfl, rfl, ⟨uw 548 (by decide +kernel) rfl, uw 549 (by decide +kernel) rfl, uw 550 (by decide +kernel) rfl⟩⟩
theorem ca_7_124 : callOK 7 124 0 1 5 0 M_X5_find := ⟨ok_X5_find, by decide +kernel, uw 5 (by decide +kernel) rfl, by decide +kernel, rfl, rfl, ⟨uw 364 (by decide +kernel) rfl, uw 365 (by decide +kernel) rfl, uw 366 (by decide +kernel) rfl⟩⟩
theorem ca_7_132 : callOK 7 132 0 1 4 3 M_X4_interrupt := ⟨ok_X4_interrupt, by decide +kernel, uw 3 (by decide +kernel) rfl, by decide +kernel, rfl, rfl, ⟨uw 560 (by decide +kernel) rfl, uw 561 (by decide +kernel) rfl, uw 562 (by decide +kernel) rfl⟩⟩
theorem ca_7_139 : callOK 7 139 0 1 5 0 M_X5_remove := ⟨ok_X5_remove, by decide +kernel, uw 5 (by decide +kernel) rfl, by decide +kernel, rfl, rfl, ⟨uw 572 (by decide +kernel) rfl, uw 470 (by decide +kernel) rfl, uw 471 (by decide +kernel) rfl⟩⟩
theorem ca_7_146 : callOK 7 146 0 2 3 1 M_X3_add := ⟨ok_X3_add, by decide +kernel, uw 7 (by decide +kernel) rfl, by decide +kernel, rfl, rfl, ⟨uw 573 (by decide +kernel) rfl, uw 457 (by decide +kernel) rfl, uw 458 (by decide +kernel) rfl⟩⟩
theorem ca_7_155 : callOK 7 155 0 1 1 1 M_X1_property := ⟨ok_X1_property, by decide +kernel, uw 6 (by decide +kernel) rfl, by decide +kernel, rfl, rfl, ⟨uw 368 (by decide +kernel) rfl, uw 369 (by decide +kernel) rfl, uw 370 (by decide +kernel) rfl⟩⟩
theorem ca_7_158 : callOK 7 158 0 1 5 2 M_X5_at := ⟨ok_X5_at, by decide +kernel, uw 5 (by decide +kernel) rfl, by decide +kernel, rfl, rfl, ⟨uw 286 (by decide +kernel) rfl, uw 287 (by decide +kernel) rfl, uw 288 (by decide +kernel) rfl⟩⟩
theorem ca_7_168 : callOK 7 168 0 1 4 6 M_X4_letGoBy := ⟨ok_X4_letGoBy, by decide +kernel, uw 3 (by decide +kernel) rfl, by decide +kernel, rfl, rfl, ⟨uw 583 (by decide +kernel) rfl, uw 584 (by decide +kernel) rfl, uw 585 (by decide +kernel) rfl⟩⟩
theorem ca_7_172 : callOK 7 172 0 1 4 2 M_X4_copyFrom := ⟨ok_X4_copyFrom, by decide +kernel, uw 3 (by decide +kernel) rfl, by decide +kernel, rfl, rfl, ⟨uw 424 (by decide +kernel) rfl, uw 322 (by decide +kernel) rfl, uw 323 (by decide +kernel) rfl⟩⟩
theorem ca_7_175 : callOK 7 175 0 0 4 5 M_X4_findWork := ⟨ok_X4_findWork, by decide +kernel, uw 3 (by decide +kernel) rfl, by decide +kernel, rfl, rfl, ⟨uw 425 (by decide +kernel) rfl, uw 426 (by decide +kernel) rfl, uw 427 (by decide +kernel) rfl⟩⟩
theorem ca_7_181 : callOK 7 181 0 0 5 0 M_X5_heldJobs := ⟨ok_X5_heldJobs, by decide +kernel, uw 5 (by decide +kernel) rfl, by decide +kernel, rfl, rfl, ⟨uw 305 (by decide +kernel) rfl, uw 306 (by decide +kernel) rfl, uw 307 (by decide +kernel) rfl⟩⟩
theorem ca_7_205 : callOK 7 205 0 1 7 1 M_X7_settingAt := ⟨ok_X7_settingAt, by decide +kernel, uw 2 (by decide +kernel) rfl, by decide +kernel, rfl, rfl, ⟨uw 309 (by decide +kernel) rfl, uw 311 (by decide +kernel) rfl, uw 0 (by decide +kernel) rfl⟩⟩
theorem ca_7_217 : callOK 7 217 0 2 4 2 M_X4_lackingSheets := ⟨ok_X4_lackingSheets, by decide +kernel, uw 3 (by decide +kernel) rfl, by decide +kernel, rfl, rfl, ⟨uw 395 (by decide +kernel) rfl, uw 396 (by decide +kernel) rfl, uw 397 (by decide +kernel) rfl⟩⟩
theorem ca_7_220 : callOK 7 220 0 1 4 6 M_X4_ticksUntilGone := ⟨ok_X4_ticksUntilGone, by decide +kernel, uw 3 (by decide +kernel) rfl, by decide +kernel, rfl, rfl, ⟨uw 604 (by decide +kernel) rfl, uw 605 (by decide +kernel) rfl, uw 606 (by decide +kernel) rfl⟩⟩
theorem ca_7_223 : callOK 7 223 0 1 0 3 M_X0_restore := ⟨ok_X0_restore, by decide +kernel, uw 9 (by decide +kernel) rfl, by decide +kernel, rfl, rfl, ⟨uw 317 (by decide +kernel) rfl, uw 318 (by decide +kernel) rfl, uw 319 (by decide +kernel) rfl⟩⟩
theorem ca_7_227 : callOK 7 227 0 1 2 1 M_X2_append := ⟨ok_X2_append, by decide +kernel, uw 10 (by decide +kernel) rfl, by decide +kernel, rfl, rfl, ⟨uw 612 (by decide +kernel) rfl, uw 613 (by decide +kernel) rfl, uw 614 (by decide +kernel) rfl⟩⟩
theorem ca_7_230 : callOK 7 230 0 2 2 9 M_X2_examine := ⟨ok_X2_examine, by decide +kernel, uw 10 (by decide +kernel) rfl, by decide +kernel, rfl, rfl, ⟨uw 621 (by decide +kernel) rfl, uw 622 (by decide +kernel) rfl, uw 623 (by decide +kernel) rfl⟩⟩
theorem ca_8_13 : callOK 8 13 0 1 7 2 M_X7_count := ⟨ok_X7_count, by decide +kernel, uw 2 (by decide +kernel) rfl, by decide +kernel, rfl, rfl, ⟨uw 298 (by decide +kernel) rfl, uw 299 (by decide +kernel) rfl, uw 300 (by decide +kernel) rfl⟩⟩
theorem ca_8_19 : callOK 8 19 0 1 7 1 M_X7_account := ⟨ok_X7_account, by decide +kernel, uw 2 (by decide +kernel) rfl, by decide +kernel, rfl, rfl, ⟨uw 356 (by decide +kernel) rfl, uw 357 (by decide +kernel) rfl, uw 358 (by decide +kernel) rfl⟩⟩
theorem ca_8_22 : callOK 8 22 0 1 7 3 M_X7_queued := ⟨ok_X7_queued, by decide +kernel, uw 2 (by decide +kernel) rfl, by decide +kernel, rfl, rfl, ⟨uw 282 (by decide +kernel) rfl, uw 283 (by decide +kernel) rfl, uw 284 (by decide +kernel) rfl⟩⟩
theorem ca_8_25 : callOK 8 25 0 2 7 2 M_X7_jobInfo := ⟨ok_X7_jobInfo, by decide +kernel, uw 2 (by decide +kernel) rfl, by decide +kernel, rfl, rfl, ⟨uw 360 (by decide +kernel) rfl, uw 361 (by decide +kernel) rfl, uw 362 (by decide +kernel) rfl⟩⟩
theorem ca_8_29 : callOK 8 29 0 2 7 1 M_X7_tray := ⟨ok_X7_tray, by decide +kernel, uw 2 (by decide +kernel) rfl, by decide +kernel, rfl, rfl, ⟨uw 380 (by decide +kernel) rfl, uw 381 (by decide +kernel) rfl, uw 382 (by decide +kernel) rfl⟩⟩
theorem ca_8_32 : callOK 8 32 0 2 7 3 M_X7_lacking := ⟨ok_X7_lacking, by decide +kernel, uw 2 (by decide +kernel) rfl, by decide +kernel, rfl, rfl, ⟨uw 388 (by decide +kernel) rfl, uw 389 (by decide +kernel) rfl, uw 390 (by decide +kernel) rfl⟩⟩
theorem ca_8_35 : callOK 8 35 0 2 7 1 M_X7_paper := ⟨ok_X7_paper, by decide +kernel, uw 2 (by decide +kernel) rfl, by decide +kernel, rfl, rfl, ⟨uw 413 (by decide +kernel) rfl, uw 414 (by decide +kernel) rfl, uw 415 (by decide +kernel) rfl⟩⟩
theorem ca_8_38 : callOK 8 38 0 0 7 6 M_X7_stop := ⟨ok_X7_stop, by decide +kernel, uw 2 (by decide +kernel) rfl, by decide +kernel, rfl, rfl, ⟨uw 420 (by decide +kernel) rfl, uw 421 (by decide +kernel) rfl, uw 422 (by decide +kernel) rfl⟩⟩
theorem ca_8_42 : callOK 8 42 1 1 8 7 M_L_print := ⟨ok_L_print, by decide +kernel, uw 1 (by decide +kernel) rfl, by decide +kernel, rfl, rfl, ⟨uw 351 (by decide +kernel) rfl, uw 352 (by decide +kernel) rfl⟩⟩
theorem ca_8_48 : callOK 8 48 0 2 7 4 M_X7_fill := ⟨ok_X7_fill, by decide +kernel, uw 2 (by decide +kernel) rfl, by decide +kernel, rfl, rfl, ⟨uw 494 (by decide +kernel) rfl, uw 495 (by decide +kernel) rfl, uw 496 (by decide +kernel) rfl⟩⟩
theorem ca_8_51 : callOK 8 51 0 3 7 4 M_X7_load := ⟨ok_X7_load, by decide +kernel, uw 2 (by decide +kernel) rfl, by decide +kernel, rfl, rfl, ⟨uw 506 (by decide +kernel) rfl, uw 507 (by decide +kernel) rfl, uw 508 (by decide +kernel) rfl⟩⟩
theorem ca_8_55 : callOK 8 55 0 1 7 4 M_X7_staples := ⟨ok_X7_staples, by decide +kernel, uw 2 (by decide +kernel) rfl, by decide +kernel, rfl, rfl, ⟨uw 515 (by decide +kernel) rfl, uw 516 (by decide +kernel) rfl, uw 517 (by decide +kernel) rfl⟩⟩
theorem ca_8_58 : callOK 8 58 0 2 7 4 M_X7_set := ⟨ok_X7_set, by decide +kernel, uw 2 (by decide +kernel) rfl, by decide +kernel, rfl, rfl, ⟨uw 519 (by decide +kernel) rfl, uw 520 (by decide +kernel) rfl, uw 521 (by decide +kernel) rfl⟩⟩
theorem ca_8_61 : callOK 8 61 0 5 7 4 M_X7_job := ⟨ok_X7_job, by decide +kernel, uw 2 (by decide +kernel) rfl, by decide +kernel, rfl, rfl, ⟨uw 527 (by decide +kernel) rfl, uw 528 (by decide +kernel) rfl, uw 529 (by decide +kernel) rfl⟩⟩
theorem ca_8_65 : callOK 8 65 0 0 7 0 M_X7_refusal := ⟨ok_X7_refusal, by decide +kernel, uw 2 (by decide +kernel) rfl, by decide +kernel, rfl, rfl, ⟨uw 552 (by decide +kernel) rfl, uw 553 (by decide +kernel) rfl, uw 554 (by decide +kernel) rfl⟩⟩
theorem ca_8_68 : callOK 8 68 0 2 7 4 M_X7_hold := ⟨ok_X7_hold, by decide +kernel, uw 2 (by decide +kernel) rfl, by decide +kernel, rfl, rfl, ⟨uw 556 (by decide +kernel) rfl, uw 557 (by decide +kernel) rfl, uw 558 (by decide +kernel) rfl⟩⟩
theorem ca_8_71 : callOK 8 71 0 1 7 4 M_X7_cancel := ⟨ok_X7_cancel, by decide +kernel, uw 2 (by decide +kernel) rfl, by decide +kernel, rfl, rfl, ⟨uw 568 (by decide +kernel) rfl, uw 569 (by decide +kernel) rfl, uw 570 (by decide +kernel) rfl⟩⟩
theorem ca_8_74 : callOK 8 74 0 2 7 4 M_X7_priority := ⟨ok_X7_priority, by decide +kernel, uw 2 (by decide +kernel) rfl, by decide +kernel, rfl, rfl, ⟨uw 574 (by decide +kernel) rfl, uw 575 (by decide +kernel) rfl, uw 576 (by decide +kernel) rfl⟩⟩
theorem ca_8_77 : callOK 8 77 0 1 7 7 M_X7_run := ⟨ok_X7_run, by decide +kernel, uw 2 (by decide +kernel) rfl, by decide +kernel, rfl, rfl, ⟨uw 578 (by decide +kernel) rfl, uw 579 (by decide +kernel) rfl, uw 580 (by decide +kernel) rfl⟩⟩
theorem ca_8_80 : callOK 8 80 0 1 7 7 M_X7_ticksTo := ⟨ok_X7_ticksTo, by decide +kernel, uw 2 (by decide +kernel) rfl, by decide +kernel, rfl, rfl, ⟨uw 600 (by decide +kernel) rfl, uw 601 (by decide +kernel) rfl, uw 602 (by decide +kernel) rfl⟩⟩
theorem ca_8_83 : callOK 8 83 0 1 7 2 M_X7_type := ⟨ok_X7_type, by decide +kernel, uw 2 (by decide +kernel) rfl, by decide +kernel, rfl, rfl, ⟨uw 608 (by decide +kernel) rfl, uw 609 (by decide +kernel) rfl, uw 610 (by decide +kernel) rfl⟩⟩
theorem ca_8_86 : callOK 8 86 0 1 7 10 M_X7_fault := ⟨ok_X7_fault, by decide +kernel, uw 2 (by decide +kernel) rfl, by decide +kernel, rfl, rfl, ⟨uw 617 (by decide +kernel) rfl, uw 618 (by decide +kernel) rfl, uw 619 (by decide +kernel) rfl⟩⟩
theorem ca_8_89 : callOK 8 89 0 0 7 4 M_X7_undo := ⟨ok_X7_undo, by decide +kernel, uw 2 (by decide +kernel) rfl, by decide +kernel, rfl, rfl, ⟨uw 313 (by decide +kernel) rfl, uw 314 (by decide +kernel) rfl, uw 315 (by decide +kernel) rfl⟩⟩
theorem ca_8_92 : callOK 8 92 1 1 8 3 M_L_areSheets := ⟨ok_L_areSheets, by decide +kernel, uw 1 (by decide +kernel) rfl, by decide +kernel, rfl, rfl, ⟨uw 730 (by decide +kernel) rfl, uw 731 (by decide +kernel) rfl⟩⟩
theorem ca_8_96 : callOK 8 96 1 1 8 4 M_L_areJobs := ⟨ok_L_areJobs, by decide +kernel, uw 1 (by decide +kernel) rfl, by decide +kernel, rfl, rfl, ⟨uw 733 (by decide +kernel) rfl, uw 734 (by decide +kernel) rfl⟩⟩
theorem ca_8_99 : callOK 8 99 1 2 8 0 M_L_low := ⟨ok_L_low, by decide +kernel, uw 1 (by decide +kernel) rfl, by decide +kernel, rfl, rfl, ⟨uw 347 (by decide +kernel) rfl, uw 348 (by decide +kernel) rfl⟩⟩
theorem ca_8_102 : callOK 8 102 0 0 7 4 M_X7_emptyBin := ⟨ok_X7_emptyBin, by decide +kernel, uw 2 (by decide +kernel) rfl, by decide +kernel, rfl, rfl, ⟨uw 748 (by decide +kernel) rfl, uw 749 (by decide +kernel) rfl, uw 750 (by decide +kernel) rfl⟩⟩
theorem ca_8_105 : callOK 8 105 2 0 7 5 M_X7_init := ⟨ok_X7_init, by decide +kernel, uw 2 (by decide +kernel) rfl, by decide +kernel, rfl, rfl, ⟨uw 18 (by decide +kernel) rfl, uw 19 (by decide +kernel) rfl, rfl, rfl⟩⟩
theorem ca_8_106 : callOK 8 106 1 1 8 11 M_L_refused := ⟨ok_L_refused, by decide +kernel, uw 1 (by decide +kernel) rfl, by decide +kernel, rfl, rfl, ⟨uw 491 (by decide +kernel) rfl, uw 492 (by decide +kernel) rfl⟩⟩
theorem ca_8_109 : callOK 8 109 1 2 8 0 M_L_cell := ⟨ok_L_cell, by decide +kernel, uw 1 (by decide +kernel) rfl, by decide +kernel, rfl, rfl, ⟨uw 343 (by decide +kernel) rfl, uw 344 (by decide +kernel) rfl⟩⟩
theorem ca_8_115 : callOK 8 115 1 3 8 8 M_L_acts := ⟨ok_L_acts, by decide +kernel, uw 1 (by decide +kernel) rfl, by decide +kernel, rfl, rfl, ⟨uw 745 (by decide +kernel) rfl, uw 746 (by decide +kernel) rfl⟩⟩
theorem ca_8_119 : callOK 8 119 1 3 8 8 M_L_isFilled := ⟨ok_L_isFilled, by decide +kernel, uw 1 (by decide +kernel) rfl, by decide +kernel, rfl, rfl, ⟨uw 736 (by decide +kernel) rfl, uw 737 (by decide +kernel) rfl⟩⟩
theorem ca_8_123 : callOK 8 123 1 2 8 8 M_L_isRun := ⟨ok_L_isRun, by decide +kernel, uw 1 (by decide +kernel) rfl, by decide +kernel, rfl, rfl, ⟨uw 739 (by decide +kernel) rfl, uw 740 (by decide +kernel) rfl⟩⟩
theorem ca_8_127 : callOK 8 127 1 2 8 8 M_L_isFinished := ⟨ok_L_isFinished, by decide +kernel, uw 1 (by decide +kernel) rfl, by decide +kernel, rfl, rfl, ⟨uw 742 (by decide +kernel) rfl, uw 743 (by decide +kernel) rfl⟩⟩
def mthL_0 : List (Nat × Nat × Nat × Nat × Nat × MI) := [(17, 2, 0, 4, 3, M_X4_init), (22, 0, 0, 0, 0, M_X0_dropOldest), (25, 0, 1, 4, 2, M_X4_copyFrom)]
theorem mthO_0 : ∀ e ∈ mthL_0, callOK 0 e.1 e.2.1 e.2.2.1 e.2.2.2.1 e.2.2.2.2.1 e.2.2.2.2.2 := List.forall_mem_cons.mpr ⟨ca_0_17, List.forall_mem_cons.mpr ⟨ca_0_22, List.forall_mem_cons.mpr ⟨ca_0_25, fun _ h => absurd h List.not_mem_nil⟩⟩⟩
def mthL_1 : List (Nat × Nat × Nat × Nat × Nat × MI) := [(58, 3, 3, 7, 0, M_X7_isWithin), (62, 0, 0, 1, 0, M_X1_nextSheet), (66, 0, 0, 1, 0, M_X1_nextCopy)]
theorem mthO_1 : ∀ e ∈ mthL_1, callOK 1 e.1 e.2.1 e.2.2.1 e.2.2.2.1 e.2.2.2.2.1 e.2.2.2.2.2 := List.forall_mem_cons.mpr ⟨ca_1_58, List.forall_mem_cons.mpr ⟨ca_1_62, List.forall_mem_cons.mpr ⟨ca_1_66, fun _ h => absurd h List.not_mem_nil⟩⟩⟩
def mthL_2 : List (Nat × Nat × Nat × Nat × Nat × MI) := [(19, 3, 2, 7, 0, M_X7_isBelow), (33, 0, 0, 5, 0, M_X5_room), (51, 0, 3, 2, 8, M_X2_reasonOfNext), (55, 0, 1, 2, 7, M_X2_readJob), (59, 0, 0, 1, 1, M_X1_isInRange), (65, 0, 1, 1, 0, M_X1_staplingRefusal), (71, 0, 1, 2, 6, M_X2_readNumber), (77, 0, 0, 2, 6, M_X2_readHow), (80, 0, 0, 2, 6, M_X2_readSize), (83, 0, 0, 2, 6, M_X2_readKind), (86, 0, 5, 1, 0, M_X1_describe), (90, 0, 0, 2, 0, M_X2_digitAtPlace), (93, 0, 1, 2, 5, M_X2_skips), (105, 1, 1, 2, 0, M_X2_sizeWord), (109, 1, 1, 2, 0, M_X2_kindWord)]
theorem mthO_2 : ∀ e ∈ mthL_2, callOK 2 e.1 e.2.1 e.2.2.1 e.2.2.2.1 e.2.2.2.2.1 e.2.2.2.2.2 := List.forall_mem_cons.mpr ⟨ca_2_19, List.forall_mem_cons.mpr ⟨ca_2_33, List.forall_mem_cons.mpr ⟨ca_2_51, List.forall_mem_cons.mpr ⟨ca_2_55, List.forall_mem_cons.mpr ⟨ca_2_59, List.forall_mem_cons.mpr ⟨ca_2_65, List.forall_mem_cons.mpr ⟨ca_2_71, List.forall_mem_cons.mpr ⟨ca_2_77, List.forall_mem_cons.mpr ⟨ca_2_80, List.forall_mem_cons.mpr ⟨ca_2_83, List.forall_mem_cons.mpr ⟨ca_2_86, List.forall_mem_cons.mpr ⟨ca_2_90, List.forall_mem_cons.mpr ⟨ca_2_93, List.forall_mem_cons.mpr ⟨ca_2_105, List.forall_mem_cons.mpr ⟨ca_2_109, fun _ h => absurd h List.not_mem_nil⟩⟩⟩⟩⟩⟩⟩⟩⟩⟩⟩⟩⟩⟩⟩
def mthL_3 : List (Nat × Nat × Nat × Nat × Nat × MI) := [(37, 3, 2, 7, 0, M_X7_isBelow), (41, 0, 2, 3, 1, M_X3_add)]
theorem mthO_3 : ∀ e ∈ mthL_3, callOK 3 e.1 e.2.1 e.2.2.1 e.2.2.2.1 e.2.2.2.2.1 e.2.2.2.2.2 := List.forall_mem_cons.mpr ⟨ca_3_37, List.forall_mem_cons.mpr ⟨ca_3_41, fun _ h => absurd h List.not_mem_nil⟩⟩
def mthL_4 : List (Nat × Nat × Nat × Nat × Nat × MI) := [(11, 4, 0, 6, 1, M_X6_init), (20, 2, 0, 5, 2, M_X5_init), (27, 4, 0, 3, 1, M_X3_init), (52, 0, 1, 6, 1, M_X6_copyFrom), (56, 0, 1, 5, 1, M_X5_copyFrom), (59, 0, 1, 3, 1, M_X3_copyFrom), (71, 0, 0, 4, 5, M_X4_findWork), (75, 0, 1, 4, 5, M_X4_goOnWorking), (79, 0, 2, 3, 1, M_X3_add), (83, 0, 1, 5, 0, M_X5_find), (87, 0, 0, 5, 1, M_X5_next), (91, 0, 1, 4, 1, M_X4_stopReason), (95, 0, 0, 1, 0, M_X1_hasSetToStaple), (101, 0, 1, 4, 4, M_X4_beginStapling), (105, 0, 1, 4, 3, M_X4_beginSheet), (117, 0, 2, 6, 0, M_X6_lowestWith), (121, 0, 2, 6, 1, M_X6_takeSheet), (124, 0, 2, 3, 2, M_X3_addTakenSheet), (133, 0, 0, 1, 1, M_X1_sidesOfNextSheet), (136, 0, 1, 4, 3, M_X4_finishStapling), (144, 0, 0, 4, 4, M_X4_finishWork), (147, 0, 1, 4, 3, M_X4_finishSheet), (156, 0, 1, 4, 2, M_X4_removeIfFinished), (162, 0, 0, 1, 0, M_X1_isFinished), (165, 0, 1, 5, 0, M_X5_remove), (168, 0, 1, 4, 2, M_X4_giveUpWorkOf), (172, 0, 2, 5, 1, M_X5_sheetsToPrint), (175, 0, 2, 6, 0, M_X6_sheetsOf), (178, 0, 2, 1, 0, M_X1_isOn)]
theorem mthO_4 : ∀ e ∈ mthL_4, callOK 4 e.1 e.2.1 e.2.2.1 e.2.2.2.1 e.2.2.2.2.1 e.2.2.2.2.2 := List.forall_mem_cons.mpr ⟨ca_4_11, List.forall_mem_cons.mpr ⟨ca_4_20, List.forall_mem_cons.mpr ⟨ca_4_27, List.forall_mem_cons.mpr ⟨ca_4_52, List.forall_mem_cons.mpr ⟨ca_4_56, List.forall_mem_cons.mpr ⟨ca_4_59, List.forall_mem_cons.mpr ⟨ca_4_71, List.forall_mem_cons.mpr ⟨ca_4_75, List.forall_mem_cons.mpr ⟨ca_4_79, List.forall_mem_cons.mpr ⟨ca_4_83, List.forall_mem_cons.mpr ⟨ca_4_87, List.forall_mem_cons.mpr ⟨ca_4_91, List.forall_mem_cons.mpr ⟨ca_4_95, List.forall_mem_cons.mpr ⟨ca_4_101, List.forall_mem_cons.mpr ⟨ca_4_105, List.forall_mem_cons.mpr ⟨ca_4_117, List.forall_mem_cons.mpr ⟨ca_4_121, List.forall_mem_cons.mpr ⟨ca_4_124, List.forall_mem_cons.mpr ⟨ca_4_133, List.forall_mem_cons.mpr ⟨ca_4_136, List.forall_mem_cons.mpr ⟨ca_4_144, List.forall_mem_cons.mpr ⟨ca_4_147, List.forall_mem_cons.mpr ⟨ca_4_156, List.forall_mem_cons.mpr ⟨ca_4_162, List.forall_mem_cons.mpr ⟨ca_4_165, List.forall_mem_cons.mpr ⟨ca_4_168, List.forall_mem_cons.mpr ⟨ca_4_172, List.forall_mem_cons.mpr ⟨ca_4_175, List.forall_mem_cons.mpr ⟨ca_4_178, fun _ h => absurd h List.not_mem_nil⟩⟩⟩⟩⟩⟩⟩⟩⟩⟩⟩⟩⟩⟩⟩⟩⟩⟩⟩⟩⟩⟩⟩⟩⟩⟩⟩⟩⟩
def mthL_5 : List (Nat × Nat × Nat × Nat × Nat × MI) := [(21, 4, 0, 1, 1, M_X1_init), (28, 0, 1, 1, 0, M_X1_copyFrom), (42, 0, 2, 5, 0, M_X5_isAhead), (46, 0, 1, 5, 1, M_X5_jobsAheadOf), (50, 0, 2, 1, 0, M_X1_isOn)]
theorem mthO_5 : ∀ e ∈ mthL_5, callOK 5 e.1 e.2.1 e.2.2.1 e.2.2.2.1 e.2.2.2.2.1 e.2.2.2.2.2 := List.forall_mem_cons.mpr ⟨ca_5_21, List.forall_mem_cons.mpr ⟨ca_5_28, List.forall_mem_cons.mpr ⟨ca_5_42, List.forall_mem_cons.mpr ⟨ca_5_46, List.forall_mem_cons.mpr ⟨ca_5_50, fun _ h => absurd h List.not_mem_nil⟩⟩⟩⟩⟩
def mthL_6 : List (Nat × Nat × Nat × Nat × Nat × MI) := [(27, 3, 2, 7, 0, M_X7_isBelow), (31, 0, 2, 6, 0, M_X6_lowestWith)]
theorem mthO_6 : ∀ e ∈ mthL_6, callOK 6 e.1 e.2.1 e.2.2.1 e.2.2.2.1 e.2.2.2.2.1 e.2.2.2.2.2 := List.forall_mem_cons.mpr ⟨ca_6_27, List.forall_mem_cons.mpr ⟨ca_6_31, fun _ h => absurd h List.not_mem_nil⟩⟩
def mthL_7 : List (Nat × Nat × Nat × Nat × Nat × MI) := [(11, 2, 0, 4, 3, M_X4_init), (21, 2, 0, 0, 4, M_X0_init), (28, 4, 0, 2, 1, M_X2_init), (35, 4, 0, 1, 1, M_X1_init), (40, 1, 2, 7, 0, M_X7_isBelow), (44, 1, 3, 7, 0, M_X7_isWithin), (58, 0, 1, 0, 3, M_X0_keep), (62, 1, 2, 7, 1, M_X7_isPaper), (65, 0, 3, 6, 1, M_X6_change), (75, 0, 2, 6, 0, M_X6_sheetsOf), (95, 0, 5, 1, 0, M_X1_describe), (99, 0, 0, 1, 1, M_X1_isInRange), (103, 0, 1, 1, 0, M_X1_staplingRefusal), (114, 0, 0, 5, 0, M_X5_room), (120, 0, 1, 5, 1, M_X5_append), (124, 0, 1, 5, 0, M_X5_find), (132, 0, 1, 4, 3, M_X4_interrupt), (139, 0, 1, 5, 0, M_X5_remove), (146, 0, 2, 3, 1, M_X3_add), (155, 0, 1, 1, 1, M_X1_property), (158, 0, 1, 5, 2, M_X5_at), (168, 0, 1, 4, 6, M_X4_letGoBy), (172, 0, 1, 4, 2, M_X4_copyFrom), (175, 0, 0, 4, 5, M_X4_findWork), (181, 0, 0, 5, 0, M_X5_heldJobs), (205, 0, 1, 7, 1, M_X7_settingAt), (217, 0, 2, 4, 2, M_X4_lackingSheets), (220, 0, 1, 4, 6, M_X4_ticksUntilGone), (223, 0, 1, 0, 3, M_X0_restore), (227, 0, 1, 2, 1, M_X2_append), (230, 0, 2, 2, 9, M_X2_examine)]
theorem mthO_7 : ∀ e ∈ mthL_7, callOK 7 e.1 e.2.1 e.2.2.1 e.2.2.2.1 e.2.2.2.2.1 e.2.2.2.2.2 := List.forall_mem_cons.mpr ⟨ca_7_11, List.forall_mem_cons.mpr ⟨ca_7_21, List.forall_mem_cons.mpr ⟨ca_7_28, List.forall_mem_cons.mpr ⟨ca_7_35, List.forall_mem_cons.mpr ⟨ca_7_40, List.forall_mem_cons.mpr ⟨ca_7_44, List.forall_mem_cons.mpr ⟨ca_7_58, List.forall_mem_cons.mpr ⟨ca_7_62, List.forall_mem_cons.mpr ⟨ca_7_65, List.forall_mem_cons.mpr ⟨ca_7_75, List.forall_mem_cons.mpr ⟨ca_7_95, List.forall_mem_cons.mpr ⟨ca_7_99, List.forall_mem_cons.mpr ⟨ca_7_103, List.forall_mem_cons.mpr ⟨ca_7_114, List.forall_mem_cons.mpr ⟨ca_7_120, List.forall_mem_cons.mpr ⟨ca_7_124, List.forall_mem_cons.mpr ⟨ca_7_132, List.forall_mem_cons.mpr ⟨ca_7_139, List.forall_mem_cons.mpr ⟨ca_7_146, List.forall_mem_cons.mpr ⟨ca_7_155, List.forall_mem_cons.mpr ⟨ca_7_158, List.forall_mem_cons.mpr ⟨ca_7_168, List.forall_mem_cons.mpr ⟨ca_7_172, List.forall_mem_cons.mpr ⟨ca_7_175, List.forall_mem_cons.mpr ⟨ca_7_181, List.forall_mem_cons.mpr ⟨ca_7_205, List.forall_mem_cons.mpr ⟨ca_7_217, List.forall_mem_cons.mpr ⟨ca_7_220, List.forall_mem_cons.mpr ⟨ca_7_223, List.forall_mem_cons.mpr ⟨ca_7_227, List.forall_mem_cons.mpr ⟨ca_7_230, fun _ h => absurd h List.not_mem_nil⟩⟩⟩⟩⟩⟩⟩⟩⟩⟩⟩⟩⟩⟩⟩⟩⟩⟩⟩⟩⟩⟩⟩⟩⟩⟩⟩⟩⟩⟩⟩
def mthL_8 : List (Nat × Nat × Nat × Nat × Nat × MI) := [(13, 0, 1, 7, 2, M_X7_count), (19, 0, 1, 7, 1, M_X7_account), (22, 0, 1, 7, 3, M_X7_queued), (25, 0, 2, 7, 2, M_X7_jobInfo), (29, 0, 2, 7, 1, M_X7_tray), (32, 0, 2, 7, 3, M_X7_lacking), (35, 0, 2, 7, 1, M_X7_paper), (38, 0, 0, 7, 6, M_X7_stop), (42, 1, 1, 8, 7, M_L_print), (48, 0, 2, 7, 4, M_X7_fill), (51, 0, 3, 7, 4, M_X7_load), (55, 0, 1, 7, 4, M_X7_staples), (58, 0, 2, 7, 4, M_X7_set), (61, 0, 5, 7, 4, M_X7_job), (65, 0, 0, 7, 0, M_X7_refusal), (68, 0, 2, 7, 4, M_X7_hold), (71, 0, 1, 7, 4, M_X7_cancel), (74, 0, 2, 7, 4, M_X7_priority), (77, 0, 1, 7, 7, M_X7_run), (80, 0, 1, 7, 7, M_X7_ticksTo), (83, 0, 1, 7, 2, M_X7_type), (86, 0, 1, 7, 10, M_X7_fault), (89, 0, 0, 7, 4, M_X7_undo), (92, 1, 1, 8, 3, M_L_areSheets), (96, 1, 1, 8, 4, M_L_areJobs), (99, 1, 2, 8, 0, M_L_low), (102, 0, 0, 7, 4, M_X7_emptyBin), (105, 2, 0, 7, 5, M_X7_init), (106, 1, 1, 8, 11, M_L_refused), (109, 1, 2, 8, 0, M_L_cell), (115, 1, 3, 8, 8, M_L_acts), (119, 1, 3, 8, 8, M_L_isFilled), (123, 1, 2, 8, 8, M_L_isRun), (127, 1, 2, 8, 8, M_L_isFinished)]
theorem mthO_8 : ∀ e ∈ mthL_8, callOK 8 e.1 e.2.1 e.2.2.1 e.2.2.2.1 e.2.2.2.2.1 e.2.2.2.2.2 := List.forall_mem_cons.mpr ⟨ca_8_13, List.forall_mem_cons.mpr ⟨ca_8_19, List.forall_mem_cons.mpr ⟨ca_8_22, List.forall_mem_cons.mpr ⟨ca_8_25, List.forall_mem_cons.mpr ⟨ca_8_29, List.forall_mem_cons.mpr ⟨ca_8_32, List.forall_mem_cons.mpr ⟨ca_8_35, List.forall_mem_cons.mpr ⟨ca_8_38, List.forall_mem_cons.mpr ⟨ca_8_42, List.forall_mem_cons.mpr ⟨ca_8_48, List.forall_mem_cons.mpr ⟨ca_8_51, List.forall_mem_cons.mpr ⟨ca_8_55, List.forall_mem_cons.mpr ⟨ca_8_58, List.forall_mem_cons.mpr ⟨ca_8_61, List.forall_mem_cons.mpr ⟨ca_8_65, List.forall_mem_cons.mpr ⟨ca_8_68, List.forall_mem_cons.mpr ⟨ca_8_71, List.forall_mem_cons.mpr ⟨ca_8_74, List.forall_mem_cons.mpr ⟨ca_8_77, List.forall_mem_cons.mpr ⟨ca_8_80, List.forall_mem_cons.mpr ⟨ca_8_83, List.forall_mem_cons.mpr ⟨ca_8_86, List.forall_mem_cons.mpr ⟨ca_8_89, List.forall_mem_cons.mpr ⟨ca_8_92, List.forall_mem_cons.mpr ⟨ca_8_96, List.forall_mem_cons.mpr ⟨ca_8_99, List.forall_mem_cons.mpr ⟨ca_8_102, List.forall_mem_cons.mpr ⟨ca_8_105, List.forall_mem_cons.mpr ⟨ca_8_106, List.forall_mem_cons.mpr ⟨ca_8_109, List.forall_mem_cons.mpr ⟨ca_8_115, List.forall_mem_cons.mpr ⟨ca_8_119, List.forall_mem_cons.mpr ⟨ca_8_123, List.forall_mem_cons.mpr ⟨ca_8_127, fun _ h => absurd h List.not_mem_nil⟩⟩⟩⟩⟩⟩⟩⟩⟩⟩⟩⟩⟩⟩⟩⟩⟩⟩⟩⟩⟩⟩⟩⟩⟩⟩⟩⟩⟩⟩⟩⟩⟩⟩
def mthL (c : Nat) : List (Nat × Nat × Nat × Nat × Nat × MI) := match c with
  | 0 => mthL_0
  | 1 => mthL_1
  | 2 => mthL_2
  | 3 => mthL_3
  | 4 => mthL_4
  | 5 => mthL_5
  | 6 => mthL_6
  | 7 => mthL_7
  | 8 => mthL_8
  | _ => []
theorem mthO : ∀ c, ∀ e ∈ mthL c, callOK c e.1 e.2.1 e.2.2.1 e.2.2.2.1 e.2.2.2.2.1 e.2.2.2.2.2 := by
  intro c
  match c with
  | 0 => exact mthO_0
  | 1 => exact mthO_1
  | 2 => exact mthO_2
  | 3 => exact mthO_3
  | 4 => exact mthO_4
  | 5 => exact mthO_5
  | 6 => exact mthO_6
  | 7 => exact mthO_7
  | 8 => exact mthO_8
  | n + 9 => exact fun e h => absurd h List.not_mem_nil
def mthR (c i : Nat) : Option (Nat × Nat × Nat × Nat × MI) := ((mthL c).find? (fun e => e.1 == i)).map (fun e => e.2)
theorem mthOK {c i kd n cl lv : Nat} {M : MI} (h : mthR c i = some (kd, n, cl, lv, M)) : callOK c i kd n cl lv M := by
  unfold mthR at h
  cases hf : (mthL c).find? (fun e => e.1 == i) with
  | none => rw [hf] at h; cases h
  | some e =>
    rw [hf] at h
    have h1 := List.find?_some hf
    have h2 := mthO c e (List.mem_of_find?_eq_some hf)
    obtain ⟨a, b, d, f, u, v⟩ := e
    simp only [Option.map_some, Option.some.injEq, Prod.mk.injEq] at h
    simp only [beq_iff_eq] at h1
    obtain ⟨rfl, rfl, rfl, rfl, rfl⟩ := h
    subst h1
    exact h2
theorem mr_0 : mthR 0 17 = some (2, 0, 4, 3, M_X4_init) ∧ mthR 0 22 = some (0, 0, 0, 0, M_X0_dropOldest) ∧ mthR 0 25 = some (0, 1, 4, 2, M_X4_copyFrom) := ⟨rfl, rfl, rfl⟩
theorem mr_1 : mthR 1 58 = some (3, 3, 7, 0, M_X7_isWithin) ∧ mthR 1 62 = some (0, 0, 1, 0, M_X1_nextSheet) ∧ mthR 1 66 = some (0, 0, 1, 0, M_X1_nextCopy) := ⟨rfl, rfl, rfl⟩
theorem mr_2 : mthR 2 19 = some (3, 2, 7, 0, M_X7_isBelow) ∧ mthR 2 33 = some (0, 0, 5, 0, M_X5_room) ∧ mthR 2 51 = some (0, 3, 2, 8, M_X2_reasonOfNext) ∧ mthR 2 55 = some (0, 1, 2, 7, M_X2_readJob) ∧ mthR 2 59 = some (0, 0, 1, 1, M_X1_isInRange) ∧ mthR 2 65 = some (0, 1, 1, 0, M_X1_staplingRefusal) ∧ mthR 2 71 = some (0, 1, 2, 6, M_X2_readNumber) ∧ mthR 2 77 = some (0, 0, 2, 6, M_X2_readHow) ∧ mthR 2 80 = some (0, 0, 2, 6, M_X2_readSize) ∧ mthR 2 83 = some (0, 0, 2, 6, M_X2_readKind) ∧ mthR 2 86 = some (0, 5, 1, 0, M_X1_describe) ∧ mthR 2 90 = some (0, 0, 2, 0, M_X2_digitAtPlace) ∧ mthR 2 93 = some (0, 1, 2, 5, M_X2_skips) ∧ mthR 2 105 = some (1, 1, 2, 0, M_X2_sizeWord) ∧ mthR 2 109 = some (1, 1, 2, 0, M_X2_kindWord) := ⟨rfl, rfl, rfl, rfl, rfl, rfl, rfl, rfl, rfl, rfl, rfl, rfl, rfl, rfl, rfl⟩
theorem mr_3 : mthR 3 37 = some (3, 2, 7, 0, M_X7_isBelow) ∧ mthR 3 41 = some (0, 2, 3, 1, M_X3_add) := ⟨rfl, rfl⟩
theorem mr_4 : mthR 4 11 = some (4, 0, 6, 1, M_X6_init) ∧ mthR 4 20 = some (2, 0, 5, 2, M_X5_init) ∧ mthR 4 27 = some (4, 0, 3, 1, M_X3_init) ∧ mthR 4 52 = some (0, 1, 6, 1, M_X6_copyFrom) ∧ mthR 4 56 = some (0, 1, 5, 1, M_X5_copyFrom) ∧ mthR 4 59 = some (0, 1, 3, 1, M_X3_copyFrom) ∧ mthR 4 71 = some (0, 0, 4, 5, M_X4_findWork) ∧ mthR 4 75 = some (0, 1, 4, 5, M_X4_goOnWorking) ∧ mthR 4 79 = some (0, 2, 3, 1, M_X3_add) ∧ mthR 4 83 = some (0, 1, 5, 0, M_X5_find) ∧ mthR 4 87 = some (0, 0, 5, 1, M_X5_next) ∧ mthR 4 91 = some (0, 1, 4, 1, M_X4_stopReason) ∧ mthR 4 95 = some (0, 0, 1, 0, M_X1_hasSetToStaple) ∧ mthR 4 101 = some (0, 1, 4, 4, M_X4_beginStapling) ∧ mthR 4 105 = some (0, 1, 4, 3, M_X4_beginSheet) ∧ mthR 4 117 = some (0, 2, 6, 0, M_X6_lowestWith) ∧ mthR 4 121 = some (0, 2, 6, 1, M_X6_takeSheet) ∧ mthR 4 124 = some (0, 2, 3, 2, M_X3_addTakenSheet) ∧ mthR 4 133 = some (0, 0, 1, 1, M_X1_sidesOfNextSheet) ∧ mthR 4 136 = some (0, 1, 4, 3, M_X4_finishStapling) ∧ mthR 4 144 = some (0, 0, 4, 4, M_X4_finishWork) ∧ mthR 4 147 = some (0, 1, 4, 3, M_X4_finishSheet) ∧ mthR 4 156 = some (0, 1, 4, 2, M_X4_removeIfFinished) ∧ mthR 4 162 = some (0, 0, 1, 0, M_X1_isFinished) ∧ mthR 4 165 = some (0, 1, 5, 0, M_X5_remove) ∧ mthR 4 168 = some (0, 1, 4, 2, M_X4_giveUpWorkOf) ∧ mthR 4 172 = some (0, 2, 5, 1, M_X5_sheetsToPrint) ∧ mthR 4 175 = some (0, 2, 6, 0, M_X6_sheetsOf) ∧ mthR 4 178 = some (0, 2, 1, 0, M_X1_isOn) := ⟨rfl, rfl, rfl, rfl, rfl, rfl, rfl, rfl, rfl, rfl, rfl, rfl, rfl, rfl, rfl, rfl, rfl, rfl, rfl, rfl, rfl, rfl, rfl, rfl, rfl, rfl, rfl, rfl, rfl⟩
theorem mr_5 : mthR 5 21 = some (4, 0, 1, 1, M_X1_init) ∧ mthR 5 28 = some (0, 1, 1, 0, M_X1_copyFrom) ∧ mthR 5 42 = some (0, 2, 5, 0, M_X5_isAhead) ∧ mthR 5 46 = some (0, 1, 5, 1, M_X5_jobsAheadOf) ∧ mthR 5 50 = some (0, 2, 1, 0, M_X1_isOn) := ⟨rfl, rfl, rfl, rfl, rfl⟩
theorem mr_6 : mthR 6 27 = some (3, 2, 7, 0, M_X7_isBelow) ∧ mthR 6 31 = some (0, 2, 6, 0, M_X6_lowestWith) := ⟨rfl, rfl⟩
theorem mr_7 : mthR 7 11 = some (2, 0, 4, 3, M_X4_init) ∧ mthR 7 21 = some (2, 0, 0, 4, M_X0_init) ∧ mthR 7 28 = some (4, 0, 2, 1, M_X2_init) ∧ mthR 7 35 = some (4, 0, 1, 1, M_X1_init) ∧ mthR 7 40 = some (1, 2, 7, 0, M_X7_isBelow) ∧ mthR 7 44 = some (1, 3, 7, 0, M_X7_isWithin) ∧ mthR 7 58 = some (0, 1, 0, 3, M_X0_keep) ∧ mthR 7 62 = some (1, 2, 7, 1, M_X7_isPaper) ∧ mthR 7 65 = some (0, 3, 6, 1, M_X6_change) ∧ mthR 7 75 = some (0, 2, 6, 0, M_X6_sheetsOf) ∧ mthR 7 95 = some (0, 5, 1, 0, M_X1_describe) ∧ mthR 7 99 = some (0, 0, 1, 1, M_X1_isInRange) ∧ mthR 7 103 = some (0, 1, 1, 0, M_X1_staplingRefusal) ∧ mthR 7 114 = some (0, 0, 5, 0, M_X5_room) ∧ mthR 7 120 = some (0, 1, 5, 1, M_X5_append) ∧ mthR 7 124 = some (0, 1, 5, 0, M_X5_find) ∧ mthR 7 132 = some (0, 1, 4, 3, M_X4_interrupt) ∧ mthR 7 139 = some (0, 1, 5, 0, M_X5_remove) ∧ mthR 7 146 = some (0, 2, 3, 1, M_X3_add) ∧ mthR 7 155 = some (0, 1, 1, 1, M_X1_property) ∧ mthR 7 158 = some (0, 1, 5, 2, M_X5_at) ∧ mthR 7 168 = some (0, 1, 4, 6, M_X4_letGoBy) ∧ mthR 7 172 = some (0, 1, 4, 2, M_X4_copyFrom) ∧ mthR 7 175 = some (0, 0, 4, 5, M_X4_findWork) ∧ mthR 7 181 = some (0, 0, 5, 0, M_X5_heldJobs) ∧ mthR 7 205 = some (0, 1, 7, 1, M_X7_settingAt) ∧ mthR 7 217 = some (0, 2, 4, 2, M_X4_lackingSheets) ∧ mthR 7 220 = some (0, 1, 4, 6, M_X4_ticksUntilGone) ∧ mthR 7 223 = some (0, 1, 0, 3, M_X0_restore) ∧ mthR 7 227 = some (0, 1, 2, 1, M_X2_append) ∧ mthR 7 230 = some (0, 2, 2, 9, M_X2_examine) := ⟨rfl, rfl, rfl, rfl, rfl, rfl, rfl, rfl, rfl, rfl, rfl, rfl, rfl, rfl, rfl, rfl, rfl, rfl, rfl, rfl, rfl, rfl, rfl, rfl, rfl, rfl, rfl, rfl, rfl, rfl, rfl⟩
theorem mr_8 : mthR 8 13 = some (0, 1, 7, 2, M_X7_count) ∧ mthR 8 19 = some (0, 1, 7, 1, M_X7_account) ∧ mthR 8 22 = some (0, 1, 7, 3, M_X7_queued) ∧ mthR 8 25 = some (0, 2, 7, 2, M_X7_jobInfo) ∧ mthR 8 29 = some (0, 2, 7, 1, M_X7_tray) ∧ mthR 8 32 = some (0, 2, 7, 3, M_X7_lacking) ∧ mthR 8 35 = some (0, 2, 7, 1, M_X7_paper) ∧ mthR 8 38 = some (0, 0, 7, 6, M_X7_stop) ∧ mthR 8 42 = some (1, 1, 8, 7, M_L_print) ∧ mthR 8 48 = some (0, 2, 7, 4, M_X7_fill) ∧ mthR 8 51 = some (0, 3, 7, 4, M_X7_load) ∧ mthR 8 55 = some (0, 1, 7, 4, M_X7_staples) ∧ mthR 8 58 = some (0, 2, 7, 4, M_X7_set) ∧ mthR 8 61 = some (0, 5, 7, 4, M_X7_job) ∧ mthR 8 65 = some (0, 0, 7, 0, M_X7_refusal) ∧ mthR 8 68 = some (0, 2, 7, 4, M_X7_hold) ∧ mthR 8 71 = some (0, 1, 7, 4, M_X7_cancel) ∧ mthR 8 74 = some (0, 2, 7, 4, M_X7_priority) ∧ mthR 8 77 = some (0, 1, 7, 7, M_X7_run) ∧ mthR 8 80 = some (0, 1, 7, 7, M_X7_ticksTo) ∧ mthR 8 83 = some (0, 1, 7, 2, M_X7_type) ∧ mthR 8 86 = some (0, 1, 7, 10, M_X7_fault) ∧ mthR 8 89 = some (0, 0, 7, 4, M_X7_undo) ∧ mthR 8 92 = some (1, 1, 8, 3, M_L_areSheets) ∧ mthR 8 96 = some (1, 1, 8, 4, M_L_areJobs) ∧ mthR 8 99 = some (1, 2, 8, 0, M_L_low) ∧ mthR 8 102 = some (0, 0, 7, 4, M_X7_emptyBin) ∧ mthR 8 105 = some (2, 0, 7, 5, M_X7_init) ∧ mthR 8 106 = some (1, 1, 8, 11, M_L_refused) ∧ mthR 8 109 = some (1, 2, 8, 0, M_L_cell) ∧ mthR 8 115 = some (1, 3, 8, 8, M_L_acts) ∧ mthR 8 119 = some (1, 3, 8, 8, M_L_isFilled) ∧ mthR 8 123 = some (1, 2, 8, 8, M_L_isRun) ∧ mthR 8 127 = some (1, 2, 8, 8, M_L_isFinished) := ⟨rfl, rfl, rfl, rfl, rfl, rfl, rfl, rfl, rfl, rfl, rfl, rfl, rfl, rfl, rfl, rfl, rfl, rfl, rfl, rfl, rfl, rfl, rfl, rfl, rfl, rfl, rfl, rfl, rfl, rfl, rfl, rfl, rfl, rfl⟩
def othL : List (Nat × Nat × Nat × Nat) := [(7, 3, 0, 21), (0, 3, 0, 220), (1, 3, 0, 62), (2, 3, 0, 237), (2, 128, 4, 647), (2, 132, 5, 657), (3, 3, 0, 145), (3, 24, 1, 342), (4, 3, 0, 29), (4, 46, 1, 173), (4, 139, 2, 453), (4, 182, 3, 410), (5, 3, 0, 55), (6, 3, 0, 35), (6, 21, 1, 329)]
def othN : Nat → MethodName := fun k => match k with
  | 0 => objectInit
  | 1 => arraycopyName
  | 2 => Lib.Math.min.name
  | 3 => Lib.Math.max.name
  | 4 => yJ0_length_8abf5
  | _ => yJ0_charAt_5068e
def othR (c i : Nat) : Option Nat := (othL.find? (fun e => e.1 == c && e.2.1 == i)).map (fun e => e.2.2.1)
theorem othBs : othL.all (fun e => decide (lw_tbl[e.2.2.2]? = some (Cond.methodLink (RXs e.1) e.2.1 (othN e.2.2.1)))) = true := by decide +kernel
theorem othOK {c i k : Nat} (h : othR c i = some k) : Cond.methodLink (RXs c) i (othN k) ∈ UW := by
  unfold othR at h
  cases hf : othL.find? (fun e => e.1 == c && e.2.1 == i) with
  | none => rw [hf] at h; cases h
  | some e =>
    rw [hf] at h
    have h1 := List.find?_some hf
    have h2 := List.all_eq_true.mp othBs e (List.mem_of_find?_eq_some hf)
    obtain ⟨a, b, d, f⟩ := e
    simp only [Option.map_some, Option.some.injEq] at h
    simp only [Bool.and_eq_true, beq_iff_eq] at h1
    obtain ⟨rfl, rfl⟩ := h1
    subst h
    exact uw f (of_decide_eq_true h2) rfl
theorem or_a : othR 7 3 = some 0 ∧ othR 0 3 = some 0 ∧ othR 1 3 = some 0 ∧ othR 2 3 = some 0 ∧ othR 2 128 = some 4 ∧ othR 2 132 = some 5 ∧ othR 3 3 = some 0 ∧ othR 3 24 = some 1 ∧ othR 4 3 = some 0 ∧ othR 4 46 = some 1 ∧ othR 4 139 = some 2 ∧ othR 4 182 = some 3 ∧ othR 5 3 = some 0 ∧ othR 6 3 = some 0 ∧ othR 6 21 = some 1 := ⟨rfl, rfl, rfl, rfl, rfl, rfl, rfl, rfl, rfl, rfl, rfl, rfl, rfl, rfl, rfl⟩
theorem or_n : othR 0 17 = none ∧ othR 0 22 = none ∧ othR 0 25 = none ∧ othR 1 58 = none ∧ othR 1 62 = none ∧ othR 1 66 = none ∧ othR 2 19 = none ∧ othR 2 33 = none ∧ othR 2 51 = none ∧ othR 2 55 = none ∧ othR 2 59 = none ∧ othR 2 65 = none ∧ othR 2 71 = none ∧ othR 2 77 = none ∧ othR 2 80 = none ∧ othR 2 83 = none ∧ othR 2 86 = none ∧ othR 2 90 = none ∧ othR 2 93 = none ∧ othR 2 105 = none ∧ othR 2 109 = none ∧ othR 3 37 = none ∧ othR 3 41 = none ∧ othR 4 11 = none ∧ othR 4 20 = none ∧ othR 4 27 = none ∧ othR 4 52 = none ∧ othR 4 56 = none ∧ othR 4 59 = none ∧ othR 4 71 = none ∧ othR 4 75 = none ∧ othR 4 79 = none ∧ othR 4 83 = none ∧ othR 4 87 = none ∧ othR 4 91 = none ∧ othR 4 95 = none ∧ othR 4 101 = none ∧ othR 4 105 = none ∧ othR 4 117 = none ∧ othR 4 121 = none ∧ othR 4 124 = none ∧ othR 4 133 = none ∧ othR 4 136 = none ∧ othR 4 144 = none ∧ othR 4 147 = none ∧ othR 4 156 = none ∧ othR 4 162 = none ∧ othR 4 165 = none ∧ othR 4 168 = none ∧ othR 4 172 = none ∧ othR 4 175 = none ∧ othR 4 178 = none ∧ othR 5 21 = none ∧ othR 5 28 = none ∧ othR 5 42 = none ∧ othR 5 46 = none ∧ othR 5 50 = none ∧ othR 6 27 = none ∧ othR 6 31 = none ∧ othR 7 11 = none ∧ othR 7 21 = none ∧ othR 7 28 = none ∧ othR 7 35 = none ∧ othR 7 40 = none ∧ othR 7 44 = none ∧ othR 7 58 = none ∧ othR 7 62 = none ∧ othR 7 65 = none ∧ othR 7 75 = none ∧ othR 7 95 = none ∧ othR 7 99 = none ∧ othR 7 103 = none ∧ othR 7 114 = none ∧ othR 7 120 = none ∧ othR 7 124 = none ∧ othR 7 132 = none ∧ othR 7 139 = none ∧ othR 7 146 = none ∧ othR 7 155 = none ∧ othR 7 158 = none ∧ othR 7 168 = none ∧ othR 7 172 = none ∧ othR 7 175 = none ∧ othR 7 181 = none ∧ othR 7 205 = none ∧ othR 7 217 = none ∧ othR 7 220 = none ∧ othR 7 223 = none ∧ othR 7 227 = none ∧ othR 7 230 = none ∧ othR 8 13 = none ∧ othR 8 19 = none ∧ othR 8 22 = none ∧ othR 8 25 = none ∧ othR 8 29 = none ∧ othR 8 32 = none ∧ othR 8 35 = none ∧ othR 8 38 = none ∧ othR 8 42 = none ∧ othR 8 48 = none ∧ othR 8 51 = none ∧ othR 8 55 = none ∧ othR 8 58 = none ∧ othR 8 61 = none ∧ othR 8 65 = none ∧ othR 8 68 = none ∧ othR 8 71 = none ∧ othR 8 74 = none ∧ othR 8 77 = none ∧ othR 8 80 = none ∧ othR 8 83 = none ∧ othR 8 86 = none ∧ othR 8 89 = none ∧ othR 8 92 = none ∧ othR 8 96 = none ∧ othR 8 99 = none ∧ othR 8 102 = none ∧ othR 8 105 = none ∧ othR 8 106 = none ∧ othR 8 109 = none ∧ othR 8 115 = none ∧ othR 8 119 = none ∧ othR 8 123 = none ∧ othR 8 127 = none := ⟨rfl, rfl, rfl, rfl, rfl, rfl, rfl, rfl, rfl, rfl, rfl, rfl, rfl, rfl, rfl, rfl, rfl, rfl, rfl, rfl, rfl, rfl, rfl, rfl, rfl, rfl, rfl, rfl, rfl, rfl, rfl, rfl, rfl, rfl, rfl, rfl, rfl, rfl, rfl, rfl, rfl, rfl, rfl, rfl, rfl, rfl, rfl, rfl, rfl, rfl, rfl, rfl, rfl, rfl, rfl, rfl, rfl, rfl, rfl, rfl, rfl, rfl, rfl, rfl, rfl, rfl, rfl, rfl, rfl, rfl, rfl, rfl, rfl, rfl, rfl, rfl, rfl, rfl, rfl, rfl, rfl, rfl, rfl, rfl, rfl, rfl, rfl, rfl, rfl, rfl, rfl, rfl, rfl, rfl, rfl, rfl, rfl, rfl, rfl, rfl, rfl, rfl, rfl, rfl, rfl, rfl, rfl, rfl, rfl, rfl, rfl, rfl, rfl, rfl, rfl, rfl, rfl, rfl, rfl, rfl, rfl, rfl, rfl, rfl⟩
theorem mr_n : mthR 7 3 = none ∧ mthR 0 3 = none ∧ mthR 1 3 = none ∧ mthR 2 3 = none ∧ mthR 2 128 = none ∧ mthR 2 132 = none ∧ mthR 3 3 = none ∧ mthR 3 24 = none ∧ mthR 4 3 = none ∧ mthR 4 46 = none ∧ mthR 4 139 = none ∧ mthR 4 182 = none ∧ mthR 5 3 = none ∧ mthR 6 3 = none ∧ mthR 6 21 = none := ⟨rfl, rfl, rfl, rfl, rfl, rfl, rfl, rfl, rfl, rfl, rfl, rfl, rfl, rfl, rfl⟩
theorem uoO : Cond.instanceMethod objectInit ∈ UW := uw 22 (by decide +kernel) rfl
theorem uoC : Cond.code objectInit ⟨#[0xb1]⟩ 1 none ∈ UW := uw 23 (by decide +kernel) rfl
theorem uaN : Cond.native arraycopyName ∈ UW := uw 175 (by decide +kernel) rfl
theorem uaS : Cond.static arraycopyName ∈ UW := uw 174 (by decide +kernel) rfl
theorem uaI : Cond.initialized "java/lang/System" ∈ UW := uw 8 (by decide +kernel) rfl
theorem umminS : Cond.static Lib.Math.min.name ∈ UW := uw 454 (by decide +kernel) rfl
theorem umminC : Cond.code Lib.Math.min.name Lib.Math.min.code 2 (some .int) ∈ UW := uw 455 (by decide +kernel) rfl
theorem ummaxS : Cond.static Lib.Math.max.name ∈ UW := uw 411 (by decide +kernel) rfl
theorem ummaxC : Cond.code Lib.Math.max.name Lib.Math.max.code 2 (some .int) ∈ UW := uw 412 (by decide +kernel) rfl
theorem umI : Cond.initialized "java/lang/Math" ∈ UW := uw 11 (by decide +kernel) rfl
theorem uLeast : Cond.fieldLink RX7 86 RX7 "LEAST_SETTING" "[I" ∈ UW := uw 523 (by decide +kernel) rfl
theorem uGreat : Cond.fieldLink RX7 89 RX7 "GREATEST_SETTING" "[I" ∈ UW := uw 525 (by decide +kernel) rfl
def clsL : List (Nat × Nat × Nat × Nat) := [(8, 14, 7, 16), (7, 9, 4, 24), (4, 9, 6, 30), (4, 18, 5, 50), (5, 9, 1, 56), (4, 25, 3, 140), (7, 19, 0, 215), (0, 9, 4, 221), (7, 26, 2, 232), (7, 33, 1, 261)]
def clsR (c i : Nat) : Option Nat := (clsL.find? (fun e => e.1 == c && e.2.1 == i)).map (fun e => e.2.2.1)
theorem clsBs : clsL.all (fun e => decide (e.2.2.1 < 8) && decide (lw_tbl[e.2.2.2]? = some (Cond.classLink (RXs e.1) e.2.1 (RXs e.2.2.1)))) = true := by decide +kernel
theorem clsOK {c i k : Nat} (h : clsR c i = some k) : k < 8 ∧ Cond.classLink (RXs c) i (RXs k) ∈ UW := by
  unfold clsR at h
  cases hf : clsL.find? (fun e => e.1 == c && e.2.1 == i) with
  | none => rw [hf] at h; cases h
  | some e =>
    rw [hf] at h
    have h1 := List.find?_some hf
    have h2 := List.all_eq_true.mp clsBs e (List.mem_of_find?_eq_some hf)
    obtain ⟨a, b, d, f⟩ := e
    simp only [Option.map_some, Option.some.injEq] at h
    simp only [Bool.and_eq_true, beq_iff_eq] at h1
    obtain ⟨rfl, rfl⟩ := h1
    subst h
    simp only [Bool.and_eq_true, decide_eq_true_eq] at h2
    exact ⟨h2.1, uw f h2.2 rfl⟩
theorem cr_a : clsR 8 14 = some 7 ∧ clsR 7 9 = some 4 ∧ clsR 4 9 = some 6 ∧ clsR 4 18 = some 5 ∧ clsR 5 9 = some 1 ∧ clsR 4 25 = some 3 ∧ clsR 7 19 = some 0 ∧ clsR 0 9 = some 4 ∧ clsR 7 26 = some 2 ∧ clsR 7 33 = some 1 := by decide +kernel
theorem uac_int : Cond.arrayClass .int ∈ UW := uw 49 (by decide +kernel) rfl
theorem uac_char : Cond.arrayClass .char ∈ UW := uw 260 (by decide +kernel) rfl
def cnLt : List (Nat × Nat × Int64 × Nat) := [(8, 9, 113, 354), (8, 11, 31, 355)]
def cnIt : List (Nat × Nat × Int32 × Nat) := [(8, 7, 916318735, 346), (8, 8, 2147483647, 350), (7, 167, 1000000, 582), (8, 113, 1000000, 752), (8, 114, 99999, 753)]
def cnIR (c i : Nat) : Option Int32 := (cnIt.find? (fun e => e.1 == c && e.2.1 == i)).map (fun e => e.2.2.1)
theorem cnIBs : cnIt.all (fun e => decide (lw_tbl[e.2.2.2]? = some (Cond.constant (RXs e.1) e.2.1 e.2.2.1))) = true := by decide +kernel
theorem cnIOK {c i : Nat} {k : Int32} (h : cnIR c i = some k) : Cond.constant (RXs c) i k ∈ UW := by
  unfold cnIR at h
  cases hf : cnIt.find? (fun e => e.1 == c && e.2.1 == i) with
  | none => rw [hf] at h; cases h
  | some e =>
    rw [hf] at h
    have h1 := List.find?_some hf
    have h2 := List.all_eq_true.mp cnIBs e (List.mem_of_find?_eq_some hf)
    obtain ⟨a, b, d, f⟩ := e
    simp only [Option.map_some, Option.some.injEq] at h
    simp only [Bool.and_eq_true, beq_iff_eq] at h1
    obtain ⟨rfl, rfl⟩ := h1
    subst h
    exact uw f (of_decide_eq_true h2) rfl
theorem cnI_a : cnIR 8 7 = some 916318735 ∧ cnIR 8 8 = some 2147483647 ∧ cnIR 7 167 = some 1000000 ∧ cnIR 8 113 = some 1000000 ∧ cnIR 8 114 = some 99999 := by decide +kernel
def cnLR (c i : Nat) : Option Int64 := (cnLt.find? (fun e => e.1 == c && e.2.1 == i)).map (fun e => e.2.2.1)
theorem cnLBs : cnLt.all (fun e => decide (lw_tbl[e.2.2.2]? = some (Cond.constantLong (RXs e.1) e.2.1 e.2.2.1))) = true := by decide +kernel
theorem cnLOK {c i : Nat} {k : Int64} (h : cnLR c i = some k) : Cond.constantLong (RXs c) i k ∈ UW := by
  unfold cnLR at h
  cases hf : cnLt.find? (fun e => e.1 == c && e.2.1 == i) with
  | none => rw [hf] at h; cases h
  | some e =>
    rw [hf] at h
    have h1 := List.find?_some hf
    have h2 := List.all_eq_true.mp cnLBs e (List.mem_of_find?_eq_some hf)
    obtain ⟨a, b, d, f⟩ := e
    simp only [Option.map_some, Option.some.injEq] at h
    simp only [Bool.and_eq_true, beq_iff_eq] at h1
    obtain ⟨rfl, rfl⟩ := h1
    subst h
    exact uw f (of_decide_eq_true h2) rfl
theorem cnL_a : cnLR 8 9 = some 113 ∧ cnLR 8 11 = some 31 := by decide +kernel
