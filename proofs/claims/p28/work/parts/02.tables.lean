def UW : List Cond := lw_tbl.filter goodWord
theorem uw {w : Cond} (i : Nat) (h : lw_tbl[i]? = some w) (g : goodWord w = true) : w ∈ UW := List.mem_filter.mpr ⟨List.mem_of_getElem? h, g⟩
theorem uwT {w : Cond} (h : w ∈ UW) : w ∈ lw_tbl := (List.mem_filter.mp h).1
theorem uwG : GoodIn UW UW := fun _ h => ⟨h, good_of_word (List.mem_filter.mp h).2⟩
theorem uwL {ws : List Cond} (is : List Nat) (h : is.map (fun i => lw_tbl[i]?) = ws.map some) (g : ws.all goodWord = true) : ∀ w ∈ ws, w ∈ UW := by
  intro w hw
  have h1 : some w ∈ ws.map some := List.mem_map.mpr ⟨w, hw, rfl⟩
  rw [← h] at h1
  obtain ⟨i, -, hi⟩ := List.mem_map.mp h1
  exact uw i hi (List.all_eq_true.mp g w hw)
def RXs : Nat → String := fun c => match c with
  | 0 => RX0
  | 1 => RX1
  | 2 => RX2
  | 3 => RX3
  | 4 => RX4
  | 5 => RX5
  | 6 => RX6
  | 7 => RX7
  | 8 => RX8
  | _ => RL
def TXs : Nat → u_T := fun c => match c with
  | 0 => TX0
  | 1 => TX1
  | 2 => TX2
  | 3 => TX3
  | 4 => TX4
  | 5 => TX5
  | 6 => TX6
  | 7 => TX7
  | _ => TX8
def nFs : Nat → Nat := fun c => match c with
  | 0 => 2
  | 1 => 15
  | 2 => 6
  | 3 => 6
  | 4 => 9
  | 5 => 4
  | 6 => 3
  | 7 => 6
  | 8 => 12
  | _ => 0
def tyXs : Nat → Nat → FieldType := fun c => match c with
  | 0 => tyX0
  | 1 => tyX1
  | 2 => tyX2
  | 3 => tyX3
  | 4 => tyX4
  | 5 => tyX5
  | 6 => tyX6
  | 7 => tyX7
  | _ => tyX8
theorem lt9 {P : Nat → Prop} (h0 : P 0) (h1 : P 1) (h2 : P 2) (h3 : P 3) (h4 : P 4) (h5 : P 5) (h6 : P 6) (h7 : P 7) (h8 : P 8) : ∀ c, c < 9 → P c := by
  intro c hc
  rcases (show c = 0 ∨ c = 1 ∨ c = 2 ∨ c = 3 ∨ c = 4 ∨ c = 5 ∨ c = 6 ∨ c = 7 ∨ c = 8 by omega) with h | h | h | h | h | h | h | h | h <;> subst h <;> assumption
theorem clAt : ∀ c, c < 9 → vwCl[c]? = some (RXs c, TXs c, nFs c) := lt9 rfl rfl rfl rfl rfl rfl rfl rfl rfl
theorem tyOk : ∀ c, c < 9 → ∀ k, k < nFs c → parseFieldDescriptor (TXs c k).2.2.1 = some (tyXs c k) := lt9 tyX0_ok tyX1_ok tyX2_ok tyX3_ok tyX4_ok tyX5_ok tyX6_ok tyX7_ok tyX8_ok
theorem nmOk : ∀ c, c < 9 → ∀ a, a < nFs c → ∀ b, b < nFs c → a ≠ b → (TXs c a).2.1 ≠ (TXs c b).2.1 := lt9 nmX0 nmX1 nmX2 nmX3 nmX4 nmX5 nmX6 nmX7 nmX8
theorem layU0 : ∀ w ∈ u_ws RX0 TX0 2, w ∈ UW := uwL [270, 272] (by decide +kernel) (by decide +kernel)
theorem layU1 : ∀ w ∈ u_ws RX1 TX1 15, w ∈ UW := uwL [136, 138, 140, 142, 144, 146, 148, 150, 152, 154, 156, 158, 160, 162, 164] (by decide +kernel) (by decide +kernel)
theorem layU2 : ∀ w ∈ u_ws RX2 TX2 6, w ∈ UW := uwL [292, 294, 296, 298, 300, 302] (by decide +kernel) (by decide +kernel)
theorem layU3 : ∀ w ∈ u_ws RX3 TX3 6, w ∈ UW := uwL [201, 203, 205, 207, 209, 211] (by decide +kernel) (by decide +kernel)
theorem layU4 : ∀ w ∈ u_ws RX4 TX4 9, w ∈ UW := uwL [239, 241, 243, 245, 247, 249, 251, 253, 255] (by decide +kernel) (by decide +kernel)
theorem layU5 : ∀ w ∈ u_ws RX5 TX5 4, w ∈ UW := uwL [174, 176, 178, 180] (by decide +kernel) (by decide +kernel)
theorem layU6 : ∀ w ∈ u_ws RX6 TX6 3, w ∈ UW := uwL [85, 87, 89] (by decide +kernel) (by decide +kernel)
theorem layU7 : ∀ w ∈ u_ws RX7 TX7 6, w ∈ UW := uwL [314, 316, 318, 320, 322, 324] (by decide +kernel) (by decide +kernel)
theorem layU8 : ∀ w ∈ u_ws RX8 TX8 12, w ∈ UW := uwL [790, 792, 794, 796, 798, 800, 802, 804, 806, 808, 810, 812] (by decide +kernel) (by decide +kernel)
theorem layUW : ∀ c, c < 9 → ∀ w ∈ u_ws (RXs c) (TXs c) (nFs c), w ∈ UW := lt9 layU0 layU1 layU2 layU3 layU4 layU5 layU6 layU7 layU8
theorem insU0 : Cond.instantiable RX0 2 ∈ UW := uw 259 (by decide +kernel) rfl
theorem iniU0 : Cond.initialized RX0 ∈ UW := uw 51 (by decide +kernel) rfl
theorem insU1 : Cond.instantiable RX1 15 ∈ UW := uw 101 (by decide +kernel) rfl
theorem iniU1 : Cond.initialized RX1 ∈ UW := uw 48 (by decide +kernel) rfl
theorem insU2 : Cond.instantiable RX2 6 ∈ UW := uw 276 (by decide +kernel) rfl
theorem iniU2 : Cond.initialized RX2 ∈ UW := uw 52 (by decide +kernel) rfl
theorem insU3 : Cond.instantiable RX3 6 ∈ UW := uw 184 (by decide +kernel) rfl
theorem iniU3 : Cond.initialized RX3 ∈ UW := uw 49 (by decide +kernel) rfl
theorem insU4 : Cond.instantiable RX4 9 ∈ UW := uw 68 (by decide +kernel) rfl
theorem iniU4 : Cond.initialized RX4 ∈ UW := uw 45 (by decide +kernel) rfl
theorem insU5 : Cond.instantiable RX5 4 ∈ UW := uw 94 (by decide +kernel) rfl
theorem iniU5 : Cond.initialized RX5 ∈ UW := uw 47 (by decide +kernel) rfl
theorem insU6 : Cond.instantiable RX6 3 ∈ UW := uw 74 (by decide +kernel) rfl
theorem iniU6 : Cond.initialized RX6 ∈ UW := uw 46 (by decide +kernel) rfl
theorem insU7 : Cond.instantiable RX7 6 ∈ UW := uw 60 (by decide +kernel) rfl
theorem iniU7 : Cond.initialized RX7 ∈ UW := uw 44 (by decide +kernel) rfl
theorem insU8 : Cond.instantiable RX8 12 ∈ UW := uw 773 (by decide +kernel) rfl
theorem iniU8 : Cond.initialized RX8 ∈ UW := uw 53 (by decide +kernel) rfl
theorem insUW : ∀ c, c < 9 → Cond.instantiable (RXs c) (nFs c) ∈ UW := lt9 insU0 insU1 insU2 insU3 insU4 insU5 insU6 insU7 insU8
theorem iniUW : ∀ c, c < 9 → Cond.initialized (RXs c) ∈ UW := lt9 iniU0 iniU1 iniU2 iniU3 iniU4 iniU5 iniU6 iniU7 iniU8
def fldL : List (Nat × Nat × Nat × Nat × Nat) := [(0, 11, 0, 0, 267), (0, 18, 0, 1, 268), (1, 9, 1, 1, 110), (1, 15, 1, 2, 111), (1, 18, 1, 3, 112), (1, 21, 1, 4, 114), (1, 24, 1, 5, 116), (1, 27, 1, 6, 117), (1, 31, 1, 7, 118), (1, 34, 1, 8, 119), (1, 37, 1, 9, 121), (1, 40, 1, 10, 122), (1, 43, 1, 11, 124), (1, 46, 1, 12, 127), (1, 49, 1, 13, 130), (1, 52, 1, 14, 134), (1, 55, 1, 0, 106), (2, 9, 2, 0, 281), (2, 15, 2, 1, 282), (2, 23, 4, 3, 227), (2, 29, 4, 1, 222), (2, 39, 2, 2, 284), (2, 42, 2, 3, 286), (2, 45, 2, 5, 290), (2, 48, 2, 4, 288), (3, 9, 3, 0, 189), (3, 15, 3, 1, 191), (3, 18, 3, 2, 193), (3, 21, 3, 3, 195), (3, 30, 3, 4, 197), (3, 34, 3, 5, 199), (4, 12, 4, 0, 219), (4, 21, 4, 1, 221), (4, 28, 4, 2, 224), (4, 32, 4, 3, 226), (4, 36, 4, 4, 229), (4, 40, 4, 6, 233), (4, 62, 4, 5, 231), (4, 65, 4, 7, 235), (4, 68, 4, 8, 237), (4, 108, 1, 8, 120), (4, 111, 1, 3, 113), (4, 114, 1, 4, 115), (4, 127, 1, 0, 108), (4, 130, 5, 3, 173), (4, 150, 3, 5, 200), (4, 153, 1, 13, 132), (4, 159, 1, 14, 135), (5, 11, 5, 0, 167), (5, 17, 5, 3, 172), (5, 22, 5, 1, 168), (5, 25, 5, 2, 170), (5, 32, 1, 0, 107), (5, 35, 1, 12, 128), (5, 39, 1, 11, 125), (5, 54, 1, 10, 123), (5, 57, 1, 13, 133), (6, 9, 6, 0, 79), (6, 15, 6, 1, 81), (6, 18, 6, 2, 83), (7, 12, 7, 0, 308), (7, 16, 7, 1, 309), (7, 22, 7, 2, 310), (7, 29, 7, 3, 311), (7, 36, 7, 4, 312), (7, 48, 4, 0, 220), (7, 52, 6, 2, 84), (7, 69, 6, 0, 80), (7, 72, 6, 1, 82), (7, 79, 4, 4, 230), (7, 83, 4, 5, 232), (7, 92, 4, 3, 228), (7, 107, 7, 5, 313), (7, 110, 4, 1, 223), (7, 128, 1, 12, 129), (7, 136, 1, 13, 131), (7, 142, 4, 2, 225), (7, 152, 1, 11, 126), (7, 161, 1, 0, 109), (7, 164, 3, 0, 190), (7, 178, 5, 1, 169), (7, 184, 5, 2, 171), (7, 187, 4, 8, 238), (7, 190, 4, 6, 234), (7, 193, 4, 7, 236), (7, 196, 3, 4, 198), (7, 199, 0, 1, 269), (7, 202, 2, 1, 283), (7, 208, 3, 1, 192), (7, 211, 3, 2, 194), (7, 214, 3, 3, 196), (7, 234, 2, 5, 291), (7, 237, 2, 4, 289), (7, 240, 2, 3, 287), (7, 243, 2, 2, 285), (8, 7, 8, 0, 778), (8, 13, 8, 1, 779), (8, 16, 8, 2, 780), (8, 19, 8, 4, 782), (8, 23, 8, 5, 783), (8, 26, 8, 8, 786), (8, 29, 8, 3, 781), (8, 166, 8, 6, 784), (8, 169, 8, 7, 785), (8, 217, 8, 11, 789), (8, 223, 8, 9, 787), (8, 226, 8, 10, 788)]
def fldR (c i : Nat) : Option (Nat × Nat) := (fldL.find? (fun e => e.1 == c && e.2.1 == i)).map (fun e => (e.2.2.1, e.2.2.2.1))
def fldB (e : Nat × Nat × Nat × Nat × Nat) : Bool := decide (e.2.2.1 < 9) && decide (e.2.2.2.1 < nFs e.2.2.1) && decide (lw_tbl[e.2.2.2.2]? = some (Cond.fieldLink (RXs e.1) e.2.1 (TXs e.2.2.1 e.2.2.2.1).1 (TXs e.2.2.1 e.2.2.2.1).2.1 (TXs e.2.2.1 e.2.2.2.1).2.2.1))
theorem fldBs : fldL.all fldB = true := by decide +kernel
theorem fldOK {c i ci k : Nat} (h : fldR c i = some (ci, k)) : ci < 9 ∧ k < nFs ci ∧ Cond.fieldLink (RXs c) i (TXs ci k).1 (TXs ci k).2.1 (TXs ci k).2.2.1 ∈ UW := by
  unfold fldR at h
  cases hf : fldL.find? (fun e => e.1 == c && e.2.1 == i) with
  | none => rw [hf] at h; cases h
  | some e =>
    rw [hf] at h
    have h1 := List.find?_some hf
    have h2 := List.all_eq_true.mp fldBs e (List.mem_of_find?_eq_some hf)
    obtain ⟨a, b, d, f, q⟩ := e
    simp only [Option.map_some, Option.some.injEq, Prod.mk.injEq] at h
    simp only [Bool.and_eq_true, beq_iff_eq] at h1
    obtain ⟨rfl, rfl⟩ := h1
    obtain ⟨rfl, rfl⟩ := h
    simp only [fldB, Bool.and_eq_true, decide_eq_true_eq] at h2
    exact ⟨h2.1.1, h2.1.2, uw q h2.2 rfl⟩
theorem fr_0 : fldR 0 11 = some (0, 0) ∧ fldR 0 18 = some (0, 1) := ⟨rfl, rfl⟩
theorem fr_1 : fldR 1 9 = some (1, 1) ∧ fldR 1 15 = some (1, 2) ∧ fldR 1 18 = some (1, 3) ∧ fldR 1 21 = some (1, 4) ∧ fldR 1 24 = some (1, 5) ∧ fldR 1 27 = some (1, 6) ∧ fldR 1 31 = some (1, 7) ∧ fldR 1 34 = some (1, 8) ∧ fldR 1 37 = some (1, 9) ∧ fldR 1 40 = some (1, 10) ∧ fldR 1 43 = some (1, 11) ∧ fldR 1 46 = some (1, 12) ∧ fldR 1 49 = some (1, 13) ∧ fldR 1 52 = some (1, 14) ∧ fldR 1 55 = some (1, 0) := ⟨rfl, rfl, rfl, rfl, rfl, rfl, rfl, rfl, rfl, rfl, rfl, rfl, rfl, rfl, rfl⟩
theorem fr_2 : fldR 2 9 = some (2, 0) ∧ fldR 2 15 = some (2, 1) ∧ fldR 2 23 = some (4, 3) ∧ fldR 2 29 = some (4, 1) ∧ fldR 2 39 = some (2, 2) ∧ fldR 2 42 = some (2, 3) ∧ fldR 2 45 = some (2, 5) ∧ fldR 2 48 = some (2, 4) := ⟨rfl, rfl, rfl, rfl, rfl, rfl, rfl, rfl⟩
theorem fr_3 : fldR 3 9 = some (3, 0) ∧ fldR 3 15 = some (3, 1) ∧ fldR 3 18 = some (3, 2) ∧ fldR 3 21 = some (3, 3) ∧ fldR 3 30 = some (3, 4) ∧ fldR 3 34 = some (3, 5) := ⟨rfl, rfl, rfl, rfl, rfl, rfl⟩
theorem fr_4 : fldR 4 12 = some (4, 0) ∧ fldR 4 21 = some (4, 1) ∧ fldR 4 28 = some (4, 2) ∧ fldR 4 32 = some (4, 3) ∧ fldR 4 36 = some (4, 4) ∧ fldR 4 40 = some (4, 6) ∧ fldR 4 62 = some (4, 5) ∧ fldR 4 65 = some (4, 7) ∧ fldR 4 68 = some (4, 8) ∧ fldR 4 108 = some (1, 8) ∧ fldR 4 111 = some (1, 3) ∧ fldR 4 114 = some (1, 4) ∧ fldR 4 127 = some (1, 0) ∧ fldR 4 130 = some (5, 3) ∧ fldR 4 150 = some (3, 5) ∧ fldR 4 153 = some (1, 13) ∧ fldR 4 159 = some (1, 14) := ⟨rfl, rfl, rfl, rfl, rfl, rfl, rfl, rfl, rfl, rfl, rfl, rfl, rfl, rfl, rfl, rfl, rfl⟩
theorem fr_5 : fldR 5 11 = some (5, 0) ∧ fldR 5 17 = some (5, 3) ∧ fldR 5 22 = some (5, 1) ∧ fldR 5 25 = some (5, 2) ∧ fldR 5 32 = some (1, 0) ∧ fldR 5 35 = some (1, 12) ∧ fldR 5 39 = some (1, 11) ∧ fldR 5 54 = some (1, 10) ∧ fldR 5 57 = some (1, 13) := ⟨rfl, rfl, rfl, rfl, rfl, rfl, rfl, rfl, rfl⟩
theorem fr_6 : fldR 6 9 = some (6, 0) ∧ fldR 6 15 = some (6, 1) ∧ fldR 6 18 = some (6, 2) := ⟨rfl, rfl, rfl⟩
theorem fr_7 : fldR 7 12 = some (7, 0) ∧ fldR 7 16 = some (7, 1) ∧ fldR 7 22 = some (7, 2) ∧ fldR 7 29 = some (7, 3) ∧ fldR 7 36 = some (7, 4) ∧ fldR 7 48 = some (4, 0) ∧ fldR 7 52 = some (6, 2) ∧ fldR 7 69 = some (6, 0) ∧ fldR 7 72 = some (6, 1) ∧ fldR 7 79 = some (4, 4) ∧ fldR 7 83 = some (4, 5) ∧ fldR 7 92 = some (4, 3) ∧ fldR 7 107 = some (7, 5) ∧ fldR 7 110 = some (4, 1) ∧ fldR 7 128 = some (1, 12) ∧ fldR 7 136 = some (1, 13) ∧ fldR 7 142 = some (4, 2) ∧ fldR 7 152 = some (1, 11) ∧ fldR 7 161 = some (1, 0) ∧ fldR 7 164 = some (3, 0) ∧ fldR 7 178 = some (5, 1) ∧ fldR 7 184 = some (5, 2) ∧ fldR 7 187 = some (4, 8) ∧ fldR 7 190 = some (4, 6) ∧ fldR 7 193 = some (4, 7) ∧ fldR 7 196 = some (3, 4) ∧ fldR 7 199 = some (0, 1) ∧ fldR 7 202 = some (2, 1) ∧ fldR 7 208 = some (3, 1) ∧ fldR 7 211 = some (3, 2) ∧ fldR 7 214 = some (3, 3) ∧ fldR 7 234 = some (2, 5) ∧ fldR 7 237 = some (2, 4) ∧ fldR 7 240 = some (2, 3) ∧ fldR 7 243 = some (2, 2) := ⟨rfl, rfl, rfl, rfl, rfl, rfl, rfl, rfl, rfl, rfl, rfl, rfl, rfl, rfl, rfl, rfl, rfl, rfl, rfl, rfl, rfl, rfl, rfl, rfl, rfl, rfl, rfl, rfl, rfl, rfl, rfl, rfl, rfl, rfl, rfl⟩
theorem fr_8 : fldR 8 7 = some (8, 0) ∧ fldR 8 13 = some (8, 1) ∧ fldR 8 16 = some (8, 2) ∧ fldR 8 19 = some (8, 4) ∧ fldR 8 23 = some (8, 5) ∧ fldR 8 26 = some (8, 8) ∧ fldR 8 29 = some (8, 3) ∧ fldR 8 166 = some (8, 6) ∧ fldR 8 169 = some (8, 7) ∧ fldR 8 217 = some (8, 11) ∧ fldR 8 223 = some (8, 9) ∧ fldR 8 226 = some (8, 10) := ⟨rfl, rfl, rfl, rfl, rfl, rfl, rfl, rfl, rfl, rfl, rfl, rfl⟩
abbrev MI : Type := MethodName × ByteArray × Nat × Option FieldType × Nat × Nat
def miN (M : MI) : MethodName := M.1
def miB (M : MI) : ByteArray := M.2.1
def miL (M : MI) : Nat := M.2.2.1
def miR (M : MI) : Option FieldType := M.2.2.2.1
def miC (M : MI) : Nat := M.2.2.2.2.1
def miV (M : MI) : Nat := M.2.2.2.2.2
def mOK (M : MI) : Prop := plainName (miN M).cls = true ∧ Cond.code (miN M) (miB M) (miL M) (miR M) ∈ UW ∧ (miN M).cls = RXs (miC M) ∧ miL M ≤ 8
theorem mOKi {M : MI} (i : Nat) (h1 : plainName (miN M).cls = true) (h2 : lw_tbl[i]? = some (Cond.code (miN M) (miB M) (miL M) (miR M))) (h3 : (miN M).cls = RXs (miC M)) (h4 : miL M ≤ 8) : mOK M := ⟨h1, uw i h2 rfl, h3, h4⟩
def M_X0_init : MI := (yX0_init, cX0_init, 2, (Option.none : Option FieldType), 0, 4)
theorem I_X0_init : miB M_X0_init = cX0_init ∧ miL M_X0_init = 2 ∧ miR M_X0_init = (Option.none : Option FieldType) ∧ miC M_X0_init = 0 ∧ miV M_X0_init = 4 := ⟨rfl, rfl, rfl, rfl, rfl⟩
theorem ok_X0_init : mOK M_X0_init := mOKi 262 (by decide +kernel) (by decide +kernel) rfl (by decide +kernel)
def M_X0_keep : MI := (yX0_keep, cX0_keep, 2, (Option.none : Option FieldType), 0, 3)
theorem I_X0_keep : miB M_X0_keep = cX0_keep ∧ miL M_X0_keep = 2 ∧ miR M_X0_keep = (Option.none : Option FieldType) ∧ miC M_X0_keep = 0 ∧ miV M_X0_keep = 3 := ⟨rfl, rfl, rfl, rfl, rfl⟩
theorem ok_X0_keep : mOK M_X0_keep := mOKi 340 (by decide +kernel) (by decide +kernel) rfl (by decide +kernel)
def M_X0_dropOldest : MI := (yX0_dropOldest, cX0_dropOldest, 3, (Option.none : Option FieldType), 0, 0)
theorem I_X0_dropOldest : miB M_X0_dropOldest = cX0_dropOldest ∧ miL M_X0_dropOldest = 3 ∧ miR M_X0_dropOldest = (Option.none : Option FieldType) ∧ miC M_X0_dropOldest = 0 ∧ miV M_X0_dropOldest = 0 := ⟨rfl, rfl, rfl, rfl, rfl⟩
theorem ok_X0_dropOldest : mOK M_X0_dropOldest := mOKi 344 (by decide +kernel) (by decide +kernel) rfl (by decide +kernel)
def M_X0_restore : MI := (yX0_restore, cX0_restore, 2, (Option.some FieldType.boolean), 0, 3)
theorem I_X0_restore : miB M_X0_restore = cX0_restore ∧ miL M_X0_restore = 2 ∧ miR M_X0_restore = (Option.some FieldType.boolean) ∧ miC M_X0_restore = 0 ∧ miV M_X0_restore = 3 := ⟨rfl, rfl, rfl, rfl, rfl⟩
theorem ok_X0_restore : mOK M_X0_restore := mOKi 640 (by decide +kernel) (by decide +kernel) rfl (by decide +kernel)
def M_X1_init : MI := (yX1_init, cX1_init, 1, (Option.none : Option FieldType), 1, 1)
theorem I_X1_init : miB M_X1_init = cX1_init ∧ miL M_X1_init = 1 ∧ miR M_X1_init = (Option.none : Option FieldType) ∧ miC M_X1_init = 1 ∧ miV M_X1_init = 1 := ⟨rfl, rfl, rfl, rfl, rfl⟩
theorem ok_X1_init : mOK M_X1_init := mOKi 104 (by decide +kernel) (by decide +kernel) rfl (by decide +kernel)
def M_X1_describe : MI := (yX1_describe, cX1_describe, 6, (Option.none : Option FieldType), 1, 0)
theorem I_X1_describe : miB M_X1_describe = cX1_describe ∧ miL M_X1_describe = 6 ∧ miR M_X1_describe = (Option.none : Option FieldType) ∧ miC M_X1_describe = 1 ∧ miV M_X1_describe = 0 := ⟨rfl, rfl, rfl, rfl, rfl⟩
theorem ok_X1_describe : mOK M_X1_describe := mOKi 410 (by decide +kernel) (by decide +kernel) rfl (by decide +kernel)
def M_X1_copyFrom : MI := (yX1_copyFrom, cX1_copyFrom, 2, (Option.none : Option FieldType), 1, 0)
theorem I_X1_copyFrom : miB M_X1_copyFrom = cX1_copyFrom ∧ miL M_X1_copyFrom = 2 ∧ miR M_X1_copyFrom = (Option.none : Option FieldType) ∧ miC M_X1_copyFrom = 1 ∧ miV M_X1_copyFrom = 0 := ⟨rfl, rfl, rfl, rfl, rfl⟩
theorem ok_X1_copyFrom : mOK M_X1_copyFrom := mOKi 361 (by decide +kernel) (by decide +kernel) rfl (by decide +kernel)
def M_X1_isInRange : MI := (yX1_isInRange, cX1_isInRange, 1, (Option.some FieldType.boolean), 1, 1)
theorem I_X1_isInRange : miB M_X1_isInRange = cX1_isInRange ∧ miL M_X1_isInRange = 1 ∧ miR M_X1_isInRange = (Option.some FieldType.boolean) ∧ miC M_X1_isInRange = 1 ∧ miV M_X1_isInRange = 1 := ⟨rfl, rfl, rfl, rfl, rfl⟩
theorem ok_X1_isInRange : mOK M_X1_isInRange := mOKi 414 (by decide +kernel) (by decide +kernel) rfl (by decide +kernel)
def M_X1_isOn : MI := (yX1_isOn, cX1_isOn, 3, (Option.some FieldType.boolean), 1, 0)
theorem I_X1_isOn : miB M_X1_isOn = cX1_isOn ∧ miL M_X1_isOn = 3 ∧ miR M_X1_isOn = (Option.some FieldType.boolean) ∧ miC M_X1_isOn = 1 ∧ miV M_X1_isOn = 0 := ⟨rfl, rfl, rfl, rfl, rfl⟩
theorem ok_X1_isOn : mOK M_X1_isOn := mOKi 619 (by decide +kernel) (by decide +kernel) rfl (by decide +kernel)
def M_X1_staplingRefusal : MI := (yX1_staplingRefusal, cX1_staplingRefusal, 3, (Option.some FieldType.int), 1, 0)
theorem I_X1_staplingRefusal : miB M_X1_staplingRefusal = cX1_staplingRefusal ∧ miL M_X1_staplingRefusal = 3 ∧ miR M_X1_staplingRefusal = (Option.some FieldType.int) ∧ miC M_X1_staplingRefusal = 1 ∧ miV M_X1_staplingRefusal = 0 := ⟨rfl, rfl, rfl, rfl, rfl⟩
theorem ok_X1_staplingRefusal : mOK M_X1_staplingRefusal := mOKi 419 (by decide +kernel) (by decide +kernel) rfl (by decide +kernel)
def M_X1_hasSetToStaple : MI := (yX1_hasSetToStaple, cX1_hasSetToStaple, 1, (Option.some FieldType.boolean), 1, 0)
theorem I_X1_hasSetToStaple : miB M_X1_hasSetToStaple = cX1_hasSetToStaple ∧ miL M_X1_hasSetToStaple = 1 ∧ miR M_X1_hasSetToStaple = (Option.some FieldType.boolean) ∧ miC M_X1_hasSetToStaple = 1 ∧ miV M_X1_hasSetToStaple = 0 := ⟨rfl, rfl, rfl, rfl, rfl⟩
theorem ok_X1_hasSetToStaple : mOK M_X1_hasSetToStaple := mOKi 522 (by decide +kernel) (by decide +kernel) rfl (by decide +kernel)
def M_X1_isFinished : MI := (yX1_isFinished, cX1_isFinished, 1, (Option.some FieldType.boolean), 1, 0)
theorem I_X1_isFinished : miB M_X1_isFinished = cX1_isFinished ∧ miL M_X1_isFinished = 1 ∧ miR M_X1_isFinished = (Option.some FieldType.boolean) ∧ miC M_X1_isFinished = 1 ∧ miV M_X1_isFinished = 0 := ⟨rfl, rfl, rfl, rfl, rfl⟩
theorem ok_X1_isFinished : mOK M_X1_isFinished := mOKi 545 (by decide +kernel) (by decide +kernel) rfl (by decide +kernel)
def M_X1_nextSheet : MI := (yX1_nextSheet, cX1_nextSheet, 1, (Option.some FieldType.int), 1, 0)
theorem I_X1_nextSheet : miB M_X1_nextSheet = cX1_nextSheet ∧ miL M_X1_nextSheet = 1 ∧ miR M_X1_nextSheet = (Option.some FieldType.int) ∧ miC M_X1_nextSheet = 1 ∧ miV M_X1_nextSheet = 0 := ⟨rfl, rfl, rfl, rfl, rfl⟩
theorem ok_X1_nextSheet : mOK M_X1_nextSheet := mOKi 477 (by decide +kernel) (by decide +kernel) rfl (by decide +kernel)
def M_X1_nextCopy : MI := (yX1_nextCopy, cX1_nextCopy, 1, (Option.some FieldType.int), 1, 0)
theorem I_X1_nextCopy : miB M_X1_nextCopy = cX1_nextCopy ∧ miL M_X1_nextCopy = 1 ∧ miR M_X1_nextCopy = (Option.some FieldType.int) ∧ miC M_X1_nextCopy = 1 ∧ miV M_X1_nextCopy = 0 := ⟨rfl, rfl, rfl, rfl, rfl⟩
theorem ok_X1_nextCopy : mOK M_X1_nextCopy := mOKi 481 (by decide +kernel) (by decide +kernel) rfl (by decide +kernel)
def M_X1_sidesOfNextSheet : MI := (yX1_sidesOfNextSheet, cX1_sidesOfNextSheet, 2, (Option.some FieldType.int), 1, 1)
theorem I_X1_sidesOfNextSheet : miB M_X1_sidesOfNextSheet = cX1_sidesOfNextSheet ∧ miL M_X1_sidesOfNextSheet = 2 ∧ miR M_X1_sidesOfNextSheet = (Option.some FieldType.int) ∧ miC M_X1_sidesOfNextSheet = 1 ∧ miV M_X1_sidesOfNextSheet = 1 := ⟨rfl, rfl, rfl, rfl, rfl⟩
theorem ok_X1_sidesOfNextSheet : mOK M_X1_sidesOfNextSheet := mOKi 564 (by decide +kernel) (by decide +kernel) rfl (by decide +kernel)
def M_X1_property : MI := (yX1_property, cX1_property, 2, (Option.some FieldType.int), 1, 1)
theorem I_X1_property : miB M_X1_property = cX1_property ∧ miL M_X1_property = 2 ∧ miR M_X1_property = (Option.some FieldType.int) ∧ miC M_X1_property = 1 ∧ miV M_X1_property = 1 := ⟨rfl, rfl, rfl, rfl, rfl⟩
theorem ok_X1_property : mOK M_X1_property := mOKi 473 (by decide +kernel) (by decide +kernel) rfl (by decide +kernel)
def M_X2_init : MI := (yX2_init, cX2_init, 1, (Option.none : Option FieldType), 2, 1)
theorem I_X2_init : miB M_X2_init = cX2_init ∧ miL M_X2_init = 1 ∧ miR M_X2_init = (Option.none : Option FieldType) ∧ miC M_X2_init = 2 ∧ miV M_X2_init = 1 := ⟨rfl, rfl, rfl, rfl, rfl⟩
theorem ok_X2_init : mOK M_X2_init := mOKi 279 (by decide +kernel) (by decide +kernel) rfl (by decide +kernel)
def M_X2_append : MI := (yX2_append, cX2_append, 2, (Option.none : Option FieldType), 2, 1)
theorem I_X2_append : miB M_X2_append = cX2_append ∧ miL M_X2_append = 2 ∧ miR M_X2_append = (Option.none : Option FieldType) ∧ miC M_X2_append = 2 ∧ miV M_X2_append = 1 := ⟨rfl, rfl, rfl, rfl, rfl⟩
theorem ok_X2_append : mOK M_X2_append := mOKi 648 (by decide +kernel) (by decide +kernel) rfl (by decide +kernel)
def M_X2_examine : MI := (yX2_examine, cX2_examine, 6, (Option.none : Option FieldType), 2, 9)
theorem I_X2_examine : miB M_X2_examine = cX2_examine ∧ miL M_X2_examine = 6 ∧ miR M_X2_examine = (Option.none : Option FieldType) ∧ miC M_X2_examine = 2 ∧ miV M_X2_examine = 9 := ⟨rfl, rfl, rfl, rfl, rfl⟩
theorem ok_X2_examine : mOK M_X2_examine := mOKi 661 (by decide +kernel) (by decide +kernel) rfl (by decide +kernel)
def M_X2_reasonOfNext : MI := (yX2_reasonOfNext, cX2_reasonOfNext, 4, (Option.some FieldType.int), 2, 8)
theorem I_X2_reasonOfNext : miB M_X2_reasonOfNext = cX2_reasonOfNext ∧ miL M_X2_reasonOfNext = 4 ∧ miR M_X2_reasonOfNext = (Option.some FieldType.int) ∧ miC M_X2_reasonOfNext = 2 ∧ miV M_X2_reasonOfNext = 8 := ⟨rfl, rfl, rfl, rfl, rfl⟩
theorem ok_X2_reasonOfNext : mOK M_X2_reasonOfNext := mOKi 666 (by decide +kernel) (by decide +kernel) rfl (by decide +kernel)
def M_X2_readJob : MI := (yX2_readJob, cX2_readJob, 7, (Option.some FieldType.boolean), 2, 7)
theorem I_X2_readJob : miB M_X2_readJob = cX2_readJob ∧ miL M_X2_readJob = 7 ∧ miR M_X2_readJob = (Option.some FieldType.boolean) ∧ miC M_X2_readJob = 2 ∧ miV M_X2_readJob = 7 := ⟨rfl, rfl, rfl, rfl, rfl⟩
theorem ok_X2_readJob : mOK M_X2_readJob := mOKi 670 (by decide +kernel) (by decide +kernel) rfl (by decide +kernel)
def M_X2_readNumber : MI := (yX2_readNumber, cX2_readNumber, 4, (Option.some FieldType.int), 2, 6)
theorem I_X2_readNumber : miB M_X2_readNumber = cX2_readNumber ∧ miL M_X2_readNumber = 4 ∧ miR M_X2_readNumber = (Option.some FieldType.int) ∧ miC M_X2_readNumber = 2 ∧ miV M_X2_readNumber = 6 := ⟨rfl, rfl, rfl, rfl, rfl⟩
theorem ok_X2_readNumber : mOK M_X2_readNumber := mOKi 675 (by decide +kernel) (by decide +kernel) rfl (by decide +kernel)
def M_X2_digitAtPlace : MI := (yX2_digitAtPlace, cX2_digitAtPlace, 2, (Option.some FieldType.int), 2, 0)
theorem I_X2_digitAtPlace : miB M_X2_digitAtPlace = cX2_digitAtPlace ∧ miL M_X2_digitAtPlace = 2 ∧ miR M_X2_digitAtPlace = (Option.some FieldType.int) ∧ miC M_X2_digitAtPlace = 2 ∧ miV M_X2_digitAtPlace = 0 := ⟨rfl, rfl, rfl, rfl, rfl⟩
theorem ok_X2_digitAtPlace : mOK M_X2_digitAtPlace := mOKi 679 (by decide +kernel) (by decide +kernel) rfl (by decide +kernel)
def M_X2_readHow : MI := (yX2_readHow, cX2_readHow, 2, (Option.some FieldType.int), 2, 6)
theorem I_X2_readHow : miB M_X2_readHow = cX2_readHow ∧ miL M_X2_readHow = 2 ∧ miR M_X2_readHow = (Option.some FieldType.int) ∧ miC M_X2_readHow = 2 ∧ miV M_X2_readHow = 6 := ⟨rfl, rfl, rfl, rfl, rfl⟩
theorem ok_X2_readHow : mOK M_X2_readHow := mOKi 736 (by decide +kernel) (by decide +kernel) rfl (by decide +kernel)
def M_X2_readSize : MI := (yX2_readSize, cX2_readSize, 2, (Option.some FieldType.int), 2, 6)
theorem I_X2_readSize : miB M_X2_readSize = cX2_readSize ∧ miL M_X2_readSize = 2 ∧ miR M_X2_readSize = (Option.some FieldType.int) ∧ miC M_X2_readSize = 2 ∧ miV M_X2_readSize = 6 := ⟨rfl, rfl, rfl, rfl, rfl⟩
theorem ok_X2_readSize : mOK M_X2_readSize := mOKi 744 (by decide +kernel) (by decide +kernel) rfl (by decide +kernel)
def M_X2_readKind : MI := (yX2_readKind, cX2_readKind, 2, (Option.some FieldType.int), 2, 6)
theorem I_X2_readKind : miB M_X2_readKind = cX2_readKind ∧ miL M_X2_readKind = 2 ∧ miR M_X2_readKind = (Option.some FieldType.int) ∧ miC M_X2_readKind = 2 ∧ miV M_X2_readKind = 6 := ⟨rfl, rfl, rfl, rfl, rfl⟩
theorem ok_X2_readKind : mOK M_X2_readKind := mOKi 755 (by decide +kernel) (by decide +kernel) rfl (by decide +kernel)
def M_X2_sizeWord : MI := (yX2_sizeWord, cX2_sizeWord, 1, (Option.some (FieldType.object "java/lang/String")), 2, 0)
theorem I_X2_sizeWord : miB M_X2_sizeWord = cX2_sizeWord ∧ miL M_X2_sizeWord = 1 ∧ miR M_X2_sizeWord = (Option.some (FieldType.object "java/lang/String")) ∧ miC M_X2_sizeWord = 2 ∧ miV M_X2_sizeWord = 0 := ⟨rfl, rfl, rfl, rfl, rfl⟩
theorem ok_X2_sizeWord : mOK M_X2_sizeWord := mOKi 747 (by decide +kernel) (by decide +kernel) rfl (by decide +kernel)
def M_X2_kindWord : MI := (yX2_kindWord, cX2_kindWord, 1, (Option.some (FieldType.object "java/lang/String")), 2, 0)
theorem I_X2_kindWord : miB M_X2_kindWord = cX2_kindWord ∧ miL M_X2_kindWord = 1 ∧ miR M_X2_kindWord = (Option.some (FieldType.object "java/lang/String")) ∧ miC M_X2_kindWord = 2 ∧ miV M_X2_kindWord = 0 := ⟨rfl, rfl, rfl, rfl, rfl⟩
theorem ok_X2_kindWord : mOK M_X2_kindWord := mOKi 758 (by decide +kernel) (by decide +kernel) rfl (by decide +kernel)
def M_X2_skips : MI := (yX2_skips, cX2_skips, 4, (Option.some FieldType.boolean), 2, 5)
theorem I_X2_skips : miB M_X2_skips = cX2_skips ∧ miL M_X2_skips = 4 ∧ miR M_X2_skips = (Option.some FieldType.boolean) ∧ miC M_X2_skips = 2 ∧ miV M_X2_skips = 5 := ⟨rfl, rfl, rfl, rfl, rfl⟩
theorem ok_X2_skips : mOK M_X2_skips := mOKi 683 (by decide +kernel) (by decide +kernel) rfl (by decide +kernel)
def M_X3_init : MI := (yX3_init, cX3_init, 1, (Option.none : Option FieldType), 3, 1)
theorem I_X3_init : miB M_X3_init = cX3_init ∧ miL M_X3_init = 1 ∧ miR M_X3_init = (Option.none : Option FieldType) ∧ miC M_X3_init = 3 ∧ miV M_X3_init = 1 := ⟨rfl, rfl, rfl, rfl, rfl⟩
theorem ok_X3_init : mOK M_X3_init := mOKi 187 (by decide +kernel) (by decide +kernel) rfl (by decide +kernel)
def M_X3_copyFrom : MI := (yX3_copyFrom, cX3_copyFrom, 2, (Option.none : Option FieldType), 3, 1)
theorem I_X3_copyFrom : miB M_X3_copyFrom = cX3_copyFrom ∧ miL M_X3_copyFrom = 2 ∧ miR M_X3_copyFrom = (Option.none : Option FieldType) ∧ miC M_X3_copyFrom = 3 ∧ miV M_X3_copyFrom = 1 := ⟨rfl, rfl, rfl, rfl, rfl⟩
theorem ok_X3_copyFrom : mOK M_X3_copyFrom := mOKi 365 (by decide +kernel) (by decide +kernel) rfl (by decide +kernel)
def M_X3_add : MI := (yX3_add, cX3_add, 3, (Option.none : Option FieldType), 3, 1)
theorem I_X3_add : miB M_X3_add = cX3_add ∧ miL M_X3_add = 3 ∧ miR M_X3_add = (Option.none : Option FieldType) ∧ miC M_X3_add = 3 ∧ miV M_X3_add = 1 := ⟨rfl, rfl, rfl, rfl, rfl⟩
theorem ok_X3_add : mOK M_X3_add := mOKi 451 (by decide +kernel) (by decide +kernel) rfl (by decide +kernel)
def M_X3_addTakenSheet : MI := (yX3_addTakenSheet, cX3_addTakenSheet, 4, (Option.none : Option FieldType), 3, 2)
theorem I_X3_addTakenSheet : miB M_X3_addTakenSheet = cX3_addTakenSheet ∧ miL M_X3_addTakenSheet = 4 ∧ miR M_X3_addTakenSheet = (Option.none : Option FieldType) ∧ miC M_X3_addTakenSheet = 3 ∧ miV M_X3_addTakenSheet = 2 := ⟨rfl, rfl, rfl, rfl, rfl⟩
theorem ok_X3_addTakenSheet : mOK M_X3_addTakenSheet := mOKi 559 (by decide +kernel) (by decide +kernel) rfl (by decide +kernel)
def M_X4_init : MI := (yX4_init, cX4_init, 1, (Option.none : Option FieldType), 4, 3)
theorem I_X4_init : miB M_X4_init = cX4_init ∧ miL M_X4_init = 1 ∧ miR M_X4_init = (Option.none : Option FieldType) ∧ miC M_X4_init = 4 ∧ miV M_X4_init = 3 := ⟨rfl, rfl, rfl, rfl, rfl⟩
theorem ok_X4_init : mOK M_X4_init := mOKi 71 (by decide +kernel) (by decide +kernel) rfl (by decide +kernel)
def M_X4_copyFrom : MI := (yX4_copyFrom, cX4_copyFrom, 2, (Option.none : Option FieldType), 4, 2)
theorem I_X4_copyFrom : miB M_X4_copyFrom = cX4_copyFrom ∧ miL M_X4_copyFrom = 2 ∧ miR M_X4_copyFrom = (Option.none : Option FieldType) ∧ miC M_X4_copyFrom = 4 ∧ miV M_X4_copyFrom = 2 := ⟨rfl, rfl, rfl, rfl, rfl⟩
theorem ok_X4_copyFrom : mOK M_X4_copyFrom := mOKi 348 (by decide +kernel) (by decide +kernel) rfl (by decide +kernel)
def M_X4_letGoBy : MI := (yX4_letGoBy, cX4_letGoBy, 4, (Option.none : Option FieldType), 4, 6)
theorem I_X4_letGoBy : miB M_X4_letGoBy = cX4_letGoBy ∧ miL M_X4_letGoBy = 4 ∧ miR M_X4_letGoBy = (Option.none : Option FieldType) ∧ miC M_X4_letGoBy = 4 ∧ miV M_X4_letGoBy = 6 := ⟨rfl, rfl, rfl, rfl, rfl⟩
theorem ok_X4_letGoBy : mOK M_X4_letGoBy := mOKi 506 (by decide +kernel) (by decide +kernel) rfl (by decide +kernel)
def M_X4_ticksUntilGone : MI := (yX4_ticksUntilGone, cX4_ticksUntilGone, 5, (Option.some FieldType.int), 4, 6)
theorem I_X4_ticksUntilGone : miB M_X4_ticksUntilGone = cX4_ticksUntilGone ∧ miL M_X4_ticksUntilGone = 5 ∧ miR M_X4_ticksUntilGone = (Option.some FieldType.int) ∧ miC M_X4_ticksUntilGone = 4 ∧ miV M_X4_ticksUntilGone = 6 := ⟨rfl, rfl, rfl, rfl, rfl⟩
theorem ok_X4_ticksUntilGone : mOK M_X4_ticksUntilGone := mOKi 632 (by decide +kernel) (by decide +kernel) rfl (by decide +kernel)
def M_X4_findWork : MI := (yX4_findWork, cX4_findWork, 4, (Option.some FieldType.int), 4, 5)
theorem I_X4_findWork : miB M_X4_findWork = cX4_findWork ∧ miL M_X4_findWork = 4 ∧ miR M_X4_findWork = (Option.some FieldType.int) ∧ miC M_X4_findWork = 4 ∧ miV M_X4_findWork = 5 := ⟨rfl, rfl, rfl, rfl, rfl⟩
theorem ok_X4_findWork : mOK M_X4_findWork := mOKi 510 (by decide +kernel) (by decide +kernel) rfl (by decide +kernel)
def M_X4_stopReason : MI := (yX4_stopReason, cX4_stopReason, 2, (Option.some FieldType.int), 4, 1)
theorem I_X4_stopReason : miB M_X4_stopReason = cX4_stopReason ∧ miL M_X4_stopReason = 2 ∧ miR M_X4_stopReason = (Option.some FieldType.int) ∧ miC M_X4_stopReason = 4 ∧ miV M_X4_stopReason = 1 := ⟨rfl, rfl, rfl, rfl, rfl⟩
theorem ok_X4_stopReason : mOK M_X4_stopReason := mOKi 518 (by decide +kernel) (by decide +kernel) rfl (by decide +kernel)
def M_X4_beginSheet : MI := (yX4_beginSheet, cX4_beginSheet, 3, (Option.none : Option FieldType), 4, 3)
theorem I_X4_beginSheet : miB M_X4_beginSheet = cX4_beginSheet ∧ miL M_X4_beginSheet = 3 ∧ miR M_X4_beginSheet = (Option.none : Option FieldType) ∧ miC M_X4_beginSheet = 4 ∧ miV M_X4_beginSheet = 3 := ⟨rfl, rfl, rfl, rfl, rfl⟩
theorem ok_X4_beginSheet : mOK M_X4_beginSheet := mOKi 550 (by decide +kernel) (by decide +kernel) rfl (by decide +kernel)
def M_X4_beginStapling : MI := (yX4_beginStapling, cX4_beginStapling, 2, (Option.none : Option FieldType), 4, 4)
theorem I_X4_beginStapling : miB M_X4_beginStapling = cX4_beginStapling ∧ miL M_X4_beginStapling = 2 ∧ miR M_X4_beginStapling = (Option.none : Option FieldType) ∧ miC M_X4_beginStapling = 4 ∧ miV M_X4_beginStapling = 4 := ⟨rfl, rfl, rfl, rfl, rfl⟩
theorem ok_X4_beginStapling : mOK M_X4_beginStapling := mOKi 530 (by decide +kernel) (by decide +kernel) rfl (by decide +kernel)
def M_X4_goOnWorking : MI := (yX4_goOnWorking, cX4_goOnWorking, 3, (Option.some FieldType.int), 4, 5)
theorem I_X4_goOnWorking : miB M_X4_goOnWorking = cX4_goOnWorking ∧ miL M_X4_goOnWorking = 3 ∧ miR M_X4_goOnWorking = (Option.some FieldType.int) ∧ miC M_X4_goOnWorking = 4 ∧ miV M_X4_goOnWorking = 5 := ⟨rfl, rfl, rfl, rfl, rfl⟩
theorem ok_X4_goOnWorking : mOK M_X4_goOnWorking := mOKi 568 (by decide +kernel) (by decide +kernel) rfl (by decide +kernel)
def M_X4_finishWork : MI := (yX4_finishWork, cX4_finishWork, 3, (Option.none : Option FieldType), 4, 4)
theorem I_X4_finishWork : miB M_X4_finishWork = cX4_finishWork ∧ miL M_X4_finishWork = 3 ∧ miR M_X4_finishWork = (Option.none : Option FieldType) ∧ miC M_X4_finishWork = 4 ∧ miV M_X4_finishWork = 4 := ⟨rfl, rfl, rfl, rfl, rfl⟩
theorem ok_X4_finishWork : mOK M_X4_finishWork := mOKi 572 (by decide +kernel) (by decide +kernel) rfl (by decide +kernel)
def M_X4_finishSheet : MI := (yX4_finishSheet, cX4_finishSheet, 3, (Option.none : Option FieldType), 4, 3)
theorem I_X4_finishSheet : miB M_X4_finishSheet = cX4_finishSheet ∧ miL M_X4_finishSheet = 3 ∧ miR M_X4_finishSheet = (Option.none : Option FieldType) ∧ miC M_X4_finishSheet = 4 ∧ miV M_X4_finishSheet = 3 := ⟨rfl, rfl, rfl, rfl, rfl⟩
theorem ok_X4_finishSheet : mOK M_X4_finishSheet := mOKi 577 (by decide +kernel) (by decide +kernel) rfl (by decide +kernel)
def M_X4_finishStapling : MI := (yX4_finishStapling, cX4_finishStapling, 3, (Option.none : Option FieldType), 4, 3)
theorem I_X4_finishStapling : miB M_X4_finishStapling = cX4_finishStapling ∧ miL M_X4_finishStapling = 3 ∧ miR M_X4_finishStapling = (Option.none : Option FieldType) ∧ miC M_X4_finishStapling = 4 ∧ miV M_X4_finishStapling = 3 := ⟨rfl, rfl, rfl, rfl, rfl⟩
theorem ok_X4_finishStapling : mOK M_X4_finishStapling := mOKi 534 (by decide +kernel) (by decide +kernel) rfl (by decide +kernel)
def M_X4_removeIfFinished : MI := (yX4_removeIfFinished, cX4_removeIfFinished, 2, (Option.none : Option FieldType), 4, 2)
theorem I_X4_removeIfFinished : miB M_X4_removeIfFinished = cX4_removeIfFinished ∧ miL M_X4_removeIfFinished = 2 ∧ miR M_X4_removeIfFinished = (Option.none : Option FieldType) ∧ miC M_X4_removeIfFinished = 4 ∧ miV M_X4_removeIfFinished = 2 := ⟨rfl, rfl, rfl, rfl, rfl⟩
theorem ok_X4_removeIfFinished : mOK M_X4_removeIfFinished := mOKi 541 (by decide +kernel) (by decide +kernel) rfl (by decide +kernel)
def M_X4_interrupt : MI := (yX4_interrupt, cX4_interrupt, 2, (Option.none : Option FieldType), 4, 3)
theorem I_X4_interrupt : miB M_X4_interrupt = cX4_interrupt ∧ miL M_X4_interrupt = 2 ∧ miR M_X4_interrupt = (Option.none : Option FieldType) ∧ miC M_X4_interrupt = 4 ∧ miV M_X4_interrupt = 3 := ⟨rfl, rfl, rfl, rfl, rfl⟩
theorem ok_X4_interrupt : mOK M_X4_interrupt := mOKi 443 (by decide +kernel) (by decide +kernel) rfl (by decide +kernel)
def M_X4_giveUpWorkOf : MI := (yX4_giveUpWorkOf, cX4_giveUpWorkOf, 2, (Option.none : Option FieldType), 4, 2)
theorem I_X4_giveUpWorkOf : miB M_X4_giveUpWorkOf = cX4_giveUpWorkOf ∧ miL M_X4_giveUpWorkOf = 2 ∧ miR M_X4_giveUpWorkOf = (Option.none : Option FieldType) ∧ miC M_X4_giveUpWorkOf = 4 ∧ miV M_X4_giveUpWorkOf = 2 := ⟨rfl, rfl, rfl, rfl, rfl⟩
theorem ok_X4_giveUpWorkOf : mOK M_X4_giveUpWorkOf := mOKi 447 (by decide +kernel) (by decide +kernel) rfl (by decide +kernel)
def M_X4_lackingSheets : MI := (yX4_lackingSheets, cX4_lackingSheets, 5, (Option.some FieldType.int), 4, 2)
theorem I_X4_lackingSheets : miB M_X4_lackingSheets = cX4_lackingSheets ∧ miL M_X4_lackingSheets = 5 ∧ miR M_X4_lackingSheets = (Option.some FieldType.int) ∧ miC M_X4_lackingSheets = 4 ∧ miV M_X4_lackingSheets = 2 := ⟨rfl, rfl, rfl, rfl, rfl⟩
theorem ok_X4_lackingSheets : mOK M_X4_lackingSheets := mOKi 611 (by decide +kernel) (by decide +kernel) rfl (by decide +kernel)
def M_X5_init : MI := (yX5_init, cX5_init, 2, (Option.none : Option FieldType), 5, 2)
theorem I_X5_init : miB M_X5_init = cX5_init ∧ miL M_X5_init = 2 ∧ miR M_X5_init = (Option.none : Option FieldType) ∧ miC M_X5_init = 5 ∧ miV M_X5_init = 2 := ⟨rfl, rfl, rfl, rfl, rfl⟩
theorem ok_X5_init : mOK M_X5_init := mOKi 97 (by decide +kernel) (by decide +kernel) rfl (by decide +kernel)
def M_X5_copyFrom : MI := (yX5_copyFrom, cX5_copyFrom, 3, (Option.none : Option FieldType), 5, 1)
theorem I_X5_copyFrom : miB M_X5_copyFrom = cX5_copyFrom ∧ miL M_X5_copyFrom = 3 ∧ miR M_X5_copyFrom = (Option.none : Option FieldType) ∧ miC M_X5_copyFrom = 5 ∧ miV M_X5_copyFrom = 1 := ⟨rfl, rfl, rfl, rfl, rfl⟩
theorem ok_X5_copyFrom : mOK M_X5_copyFrom := mOKi 357 (by decide +kernel) (by decide +kernel) rfl (by decide +kernel)
def M_X5_room : MI := (yX5_room, cX5_room, 1, (Option.some FieldType.int), 5, 0)
theorem I_X5_room : miB M_X5_room = cX5_room ∧ miL M_X5_room = 1 ∧ miR M_X5_room = (Option.some FieldType.int) ∧ miC M_X5_room = 5 ∧ miV M_X5_room = 0 := ⟨rfl, rfl, rfl, rfl, rfl⟩
theorem ok_X5_room : mOK M_X5_room := mOKi 423 (by decide +kernel) (by decide +kernel) rfl (by decide +kernel)
def M_X5_append : MI := (yX5_append, cX5_append, 3, (Option.some FieldType.int), 5, 1)
theorem I_X5_append : miB M_X5_append = cX5_append ∧ miL M_X5_append = 3 ∧ miR M_X5_append = (Option.some FieldType.int) ∧ miC M_X5_append = 5 ∧ miV M_X5_append = 1 := ⟨rfl, rfl, rfl, rfl, rfl⟩
theorem ok_X5_append : mOK M_X5_append := mOKi 427 (by decide +kernel) (by decide +kernel) rfl (by decide +kernel)
def M_X5_find : MI := (yX5_find, cX5_find, 3, (Option.some (FieldType.object "PrintRoom$Job")), 5, 0)
theorem I_X5_find : miB M_X5_find = cX5_find ∧ miL M_X5_find = 3 ∧ miR M_X5_find = (Option.some (FieldType.object "PrintRoom$Job")) ∧ miC M_X5_find = 5 ∧ miV M_X5_find = 0 := ⟨rfl, rfl, rfl, rfl, rfl⟩
theorem ok_X5_find : mOK M_X5_find := mOKi 439 (by decide +kernel) (by decide +kernel) rfl (by decide +kernel)
def M_X5_remove : MI := (yX5_remove, cX5_remove, 4, (Option.none : Option FieldType), 5, 0)
theorem I_X5_remove : miB M_X5_remove = cX5_remove ∧ miL M_X5_remove = 4 ∧ miR M_X5_remove = (Option.none : Option FieldType) ∧ miC M_X5_remove = 5 ∧ miV M_X5_remove = 0 := ⟨rfl, rfl, rfl, rfl, rfl⟩
theorem ok_X5_remove : mOK M_X5_remove := mOKi 460 (by decide +kernel) (by decide +kernel) rfl (by decide +kernel)
def M_X5_heldJobs : MI := (yX5_heldJobs, cX5_heldJobs, 3, (Option.some FieldType.int), 5, 0)
theorem I_X5_heldJobs : miB M_X5_heldJobs = cX5_heldJobs ∧ miL M_X5_heldJobs = 3 ∧ miR M_X5_heldJobs = (Option.some FieldType.int) ∧ miC M_X5_heldJobs = 5 ∧ miV M_X5_heldJobs = 0 := ⟨rfl, rfl, rfl, rfl, rfl⟩
theorem ok_X5_heldJobs : mOK M_X5_heldJobs := mOKi 591 (by decide +kernel) (by decide +kernel) rfl (by decide +kernel)
def M_X5_isAhead : MI := (yX5_isAhead, cX5_isAhead, 3, (Option.some FieldType.boolean), 5, 0)
theorem I_X5_isAhead : miB M_X5_isAhead = cX5_isAhead ∧ miL M_X5_isAhead = 3 ∧ miR M_X5_isAhead = (Option.some FieldType.boolean) ∧ miC M_X5_isAhead = 5 ∧ miV M_X5_isAhead = 0 := ⟨rfl, rfl, rfl, rfl, rfl⟩
theorem ok_X5_isAhead : mOK M_X5_isAhead := mOKi 497 (by decide +kernel) (by decide +kernel) rfl (by decide +kernel)
def M_X5_jobsAheadOf : MI := (yX5_jobsAheadOf, cX5_jobsAheadOf, 4, (Option.some FieldType.int), 5, 1)
theorem I_X5_jobsAheadOf : miB M_X5_jobsAheadOf = cX5_jobsAheadOf ∧ miL M_X5_jobsAheadOf = 4 ∧ miR M_X5_jobsAheadOf = (Option.some FieldType.int) ∧ miC M_X5_jobsAheadOf = 5 ∧ miV M_X5_jobsAheadOf = 1 := ⟨rfl, rfl, rfl, rfl, rfl⟩
theorem ok_X5_jobsAheadOf : mOK M_X5_jobsAheadOf := mOKi 493 (by decide +kernel) (by decide +kernel) rfl (by decide +kernel)
def M_X5_at : MI := (yX5_at, cX5_at, 3, (Option.some (FieldType.object "PrintRoom$Job")), 5, 2)
theorem I_X5_at : miB M_X5_at = cX5_at ∧ miL M_X5_at = 3 ∧ miR M_X5_at = (Option.some (FieldType.object "PrintRoom$Job")) ∧ miC M_X5_at = 5 ∧ miV M_X5_at = 2 := ⟨rfl, rfl, rfl, rfl, rfl⟩
theorem ok_X5_at : mOK M_X5_at := mOKi 489 (by decide +kernel) (by decide +kernel) rfl (by decide +kernel)
def M_X5_next : MI := (yX5_next, cX5_next, 3, (Option.some (FieldType.object "PrintRoom$Job")), 5, 1)
theorem I_X5_next : miB M_X5_next = cX5_next ∧ miL M_X5_next = 3 ∧ miR M_X5_next = (Option.some (FieldType.object "PrintRoom$Job")) ∧ miC M_X5_next = 5 ∧ miV M_X5_next = 1 := ⟨rfl, rfl, rfl, rfl, rfl⟩
theorem ok_X5_next : mOK M_X5_next := mOKi 514 (by decide +kernel) (by decide +kernel) rfl (by decide +kernel)
def M_X5_sheetsToPrint : MI := (yX5_sheetsToPrint, cX5_sheetsToPrint, 5, (Option.some FieldType.int), 5, 1)
theorem I_X5_sheetsToPrint : miB M_X5_sheetsToPrint = cX5_sheetsToPrint ∧ miL M_X5_sheetsToPrint = 5 ∧ miR M_X5_sheetsToPrint = (Option.some FieldType.int) ∧ miC M_X5_sheetsToPrint = 5 ∧ miV M_X5_sheetsToPrint = 1 := ⟨rfl, rfl, rfl, rfl, rfl⟩
theorem ok_X5_sheetsToPrint : mOK M_X5_sheetsToPrint := mOKi 615 (by decide +kernel) (by decide +kernel) rfl (by decide +kernel)
def M_X6_init : MI := (yX6_init, cX6_init, 1, (Option.none : Option FieldType), 6, 1)
theorem I_X6_init : miB M_X6_init = cX6_init ∧ miL M_X6_init = 1 ∧ miR M_X6_init = (Option.none : Option FieldType) ∧ miC M_X6_init = 6 ∧ miV M_X6_init = 1 := ⟨rfl, rfl, rfl, rfl, rfl⟩
theorem ok_X6_init : mOK M_X6_init := mOKi 77 (by decide +kernel) (by decide +kernel) rfl (by decide +kernel)
def M_X6_copyFrom : MI := (yX6_copyFrom, cX6_copyFrom, 2, (Option.none : Option FieldType), 6, 1)
theorem I_X6_copyFrom : miB M_X6_copyFrom = cX6_copyFrom ∧ miL M_X6_copyFrom = 2 ∧ miR M_X6_copyFrom = (Option.none : Option FieldType) ∧ miC M_X6_copyFrom = 6 ∧ miV M_X6_copyFrom = 1 := ⟨rfl, rfl, rfl, rfl, rfl⟩
theorem ok_X6_copyFrom : mOK M_X6_copyFrom := mOKi 352 (by decide +kernel) (by decide +kernel) rfl (by decide +kernel)
def M_X6_change : MI := (yX6_change, cX6_change, 5, (Option.some FieldType.int), 6, 1)
theorem I_X6_change : miB M_X6_change = cX6_change ∧ miL M_X6_change = 5 ∧ miR M_X6_change = (Option.some FieldType.int) ∧ miC M_X6_change = 6 ∧ miV M_X6_change = 1 := ⟨rfl, rfl, rfl, rfl, rfl⟩
theorem ok_X6_change : mOK M_X6_change := mOKi 377 (by decide +kernel) (by decide +kernel) rfl (by decide +kernel)
def M_X6_sheetsOf : MI := (yX6_sheetsOf, cX6_sheetsOf, 5, (Option.some FieldType.int), 6, 0)
theorem I_X6_sheetsOf : miB M_X6_sheetsOf = cX6_sheetsOf ∧ miL M_X6_sheetsOf = 5 ∧ miR M_X6_sheetsOf = (Option.some FieldType.int) ∧ miC M_X6_sheetsOf = 6 ∧ miV M_X6_sheetsOf = 0 := ⟨rfl, rfl, rfl, rfl, rfl⟩
theorem ok_X6_sheetsOf : mOK M_X6_sheetsOf := mOKi 386 (by decide +kernel) (by decide +kernel) rfl (by decide +kernel)
def M_X6_lowestWith : MI := (yX6_lowestWith, cX6_lowestWith, 4, (Option.some FieldType.int), 6, 0)
theorem I_X6_lowestWith : miB M_X6_lowestWith = cX6_lowestWith ∧ miL M_X6_lowestWith = 4 ∧ miR M_X6_lowestWith = (Option.some FieldType.int) ∧ miC M_X6_lowestWith = 6 ∧ miV M_X6_lowestWith = 0 := ⟨rfl, rfl, rfl, rfl, rfl⟩
theorem ok_X6_lowestWith : mOK M_X6_lowestWith := mOKi 526 (by decide +kernel) (by decide +kernel) rfl (by decide +kernel)
def M_X6_takeSheet : MI := (yX6_takeSheet, cX6_takeSheet, 4, (Option.none : Option FieldType), 6, 1)
theorem I_X6_takeSheet : miB M_X6_takeSheet = cX6_takeSheet ∧ miL M_X6_takeSheet = 4 ∧ miR M_X6_takeSheet = (Option.none : Option FieldType) ∧ miC M_X6_takeSheet = 6 ∧ miV M_X6_takeSheet = 1 := ⟨rfl, rfl, rfl, rfl, rfl⟩
theorem ok_X6_takeSheet : mOK M_X6_takeSheet := mOKi 554 (by decide +kernel) (by decide +kernel) rfl (by decide +kernel)
def M_X7_init : MI := (yX7_init, cX7_init, 1, (Option.none : Option FieldType), 7, 5)
theorem I_X7_init : miB M_X7_init = cX7_init ∧ miL M_X7_init = 1 ∧ miR M_X7_init = (Option.none : Option FieldType) ∧ miC M_X7_init = 7 ∧ miV M_X7_init = 5 := ⟨rfl, rfl, rfl, rfl, rfl⟩
theorem ok_X7_init : mOK M_X7_init := mOKi 63 (by decide +kernel) (by decide +kernel) rfl (by decide +kernel)
def M_X7_fill : MI := (yX7_fill, cX7_fill, 4, (Option.some FieldType.int), 7, 4)
theorem I_X7_fill : miB M_X7_fill = cX7_fill ∧ miL M_X7_fill = 4 ∧ miR M_X7_fill = (Option.some FieldType.int) ∧ miC M_X7_fill = 7 ∧ miV M_X7_fill = 4 := ⟨rfl, rfl, rfl, rfl, rfl⟩
theorem ok_X7_fill : mOK M_X7_fill := mOKi 330 (by decide +kernel) (by decide +kernel) rfl (by decide +kernel)
def M_X7_load : MI := (yX7_load, cX7_load, 4, (Option.some FieldType.int), 7, 4)
theorem I_X7_load : miB M_X7_load = cX7_load ∧ miL M_X7_load = 4 ∧ miR M_X7_load = (Option.some FieldType.int) ∧ miC M_X7_load = 7 ∧ miV M_X7_load = 4 := ⟨rfl, rfl, rfl, rfl, rfl⟩
theorem ok_X7_load : mOK M_X7_load := mOKi 370 (by decide +kernel) (by decide +kernel) rfl (by decide +kernel)
def M_X7_tray : MI := (yX7_tray, cX7_tray, 4, (Option.some FieldType.int), 7, 1)
theorem I_X7_tray : miB M_X7_tray = cX7_tray ∧ miL M_X7_tray = 4 ∧ miR M_X7_tray = (Option.some FieldType.int) ∧ miC M_X7_tray = 7 ∧ miV M_X7_tray = 1 := ⟨rfl, rfl, rfl, rfl, rfl⟩
theorem ok_X7_tray : mOK M_X7_tray := mOKi 382 (by decide +kernel) (by decide +kernel) rfl (by decide +kernel)
def M_X7_staples : MI := (yX7_staples, cX7_staples, 3, (Option.some FieldType.int), 7, 4)
theorem I_X7_staples : miB M_X7_staples = cX7_staples ∧ miL M_X7_staples = 3 ∧ miR M_X7_staples = (Option.some FieldType.int) ∧ miC M_X7_staples = 7 ∧ miV M_X7_staples = 4 := ⟨rfl, rfl, rfl, rfl, rfl⟩
theorem ok_X7_staples : mOK M_X7_staples := mOKi 390 (by decide +kernel) (by decide +kernel) rfl (by decide +kernel)
def M_X7_emptyBin : MI := (yX7_emptyBin, cX7_emptyBin, 2, (Option.some FieldType.int), 7, 4)
theorem I_X7_emptyBin : miB M_X7_emptyBin = cX7_emptyBin ∧ miL M_X7_emptyBin = 2 ∧ miR M_X7_emptyBin = (Option.some FieldType.int) ∧ miC M_X7_emptyBin = 7 ∧ miV M_X7_emptyBin = 4 := ⟨rfl, rfl, rfl, rfl, rfl⟩
theorem ok_X7_emptyBin : mOK M_X7_emptyBin := mOKi 394 (by decide +kernel) (by decide +kernel) rfl (by decide +kernel)
def M_X7_set : MI := (yX7_set, cX7_set, 4, (Option.some FieldType.int), 7, 4)
theorem I_X7_set : miB M_X7_set = cX7_set ∧ miL M_X7_set = 4 ∧ miR M_X7_set = (Option.some FieldType.int) ∧ miC M_X7_set = 7 ∧ miV M_X7_set = 4 := ⟨rfl, rfl, rfl, rfl, rfl⟩
theorem ok_X7_set : mOK M_X7_set := mOKi 398 (by decide +kernel) (by decide +kernel) rfl (by decide +kernel)
def M_X7_job : MI := (yX7_job, cX7_job, 7, (Option.some FieldType.int), 7, 4)
theorem I_X7_job : miB M_X7_job = cX7_job ∧ miL M_X7_job = 7 ∧ miR M_X7_job = (Option.some FieldType.int) ∧ miC M_X7_job = 7 ∧ miV M_X7_job = 4 := ⟨rfl, rfl, rfl, rfl, rfl⟩
theorem ok_X7_job : mOK M_X7_job := mOKi 406 (by decide +kernel) (by decide +kernel) rfl (by decide +kernel)
def M_X7_refusal : MI := (yX7_refusal, cX7_refusal, 1, (Option.some FieldType.int), 7, 0)
theorem I_X7_refusal : miB M_X7_refusal = cX7_refusal ∧ miL M_X7_refusal = 1 ∧ miR M_X7_refusal = (Option.some FieldType.int) ∧ miC M_X7_refusal = 7 ∧ miV M_X7_refusal = 0 := ⟨rfl, rfl, rfl, rfl, rfl⟩
theorem ok_X7_refusal : mOK M_X7_refusal := mOKi 431 (by decide +kernel) (by decide +kernel) rfl (by decide +kernel)
def M_X7_hold : MI := (yX7_hold, cX7_hold, 5, (Option.some FieldType.int), 7, 4)
theorem I_X7_hold : miB M_X7_hold = cX7_hold ∧ miL M_X7_hold = 5 ∧ miR M_X7_hold = (Option.some FieldType.int) ∧ miC M_X7_hold = 7 ∧ miV M_X7_hold = 4 := ⟨rfl, rfl, rfl, rfl, rfl⟩
theorem ok_X7_hold : mOK M_X7_hold := mOKi 435 (by decide +kernel) (by decide +kernel) rfl (by decide +kernel)
def M_X7_cancel : MI := (yX7_cancel, cX7_cancel, 4, (Option.some FieldType.int), 7, 4)
theorem I_X7_cancel : miB M_X7_cancel = cX7_cancel ∧ miL M_X7_cancel = 4 ∧ miR M_X7_cancel = (Option.some FieldType.int) ∧ miC M_X7_cancel = 7 ∧ miV M_X7_cancel = 4 := ⟨rfl, rfl, rfl, rfl, rfl⟩
theorem ok_X7_cancel : mOK M_X7_cancel := mOKi 456 (by decide +kernel) (by decide +kernel) rfl (by decide +kernel)
def M_X7_priority : MI := (yX7_priority, cX7_priority, 5, (Option.some FieldType.int), 7, 4)
theorem I_X7_priority : miB M_X7_priority = cX7_priority ∧ miL M_X7_priority = 5 ∧ miR M_X7_priority = (Option.some FieldType.int) ∧ miC M_X7_priority = 7 ∧ miV M_X7_priority = 4 := ⟨rfl, rfl, rfl, rfl, rfl⟩
theorem ok_X7_priority : mOK M_X7_priority := mOKi 465 (by decide +kernel) (by decide +kernel) rfl (by decide +kernel)
def M_X7_jobInfo : MI := (yX7_jobInfo, cX7_jobInfo, 4, (Option.some FieldType.int), 7, 2)
theorem I_X7_jobInfo : miB M_X7_jobInfo = cX7_jobInfo ∧ miL M_X7_jobInfo = 4 ∧ miR M_X7_jobInfo = (Option.some FieldType.int) ∧ miC M_X7_jobInfo = 7 ∧ miV M_X7_jobInfo = 2 := ⟨rfl, rfl, rfl, rfl, rfl⟩
theorem ok_X7_jobInfo : mOK M_X7_jobInfo := mOKi 469 (by decide +kernel) (by decide +kernel) rfl (by decide +kernel)
def M_X7_queued : MI := (yX7_queued, cX7_queued, 3, (Option.some FieldType.int), 7, 3)
theorem I_X7_queued : miB M_X7_queued = cX7_queued ∧ miL M_X7_queued = 3 ∧ miR M_X7_queued = (Option.some FieldType.int) ∧ miC M_X7_queued = 7 ∧ miV M_X7_queued = 3 := ⟨rfl, rfl, rfl, rfl, rfl⟩
theorem ok_X7_queued : mOK M_X7_queued := mOKi 485 (by decide +kernel) (by decide +kernel) rfl (by decide +kernel)
def M_X7_run : MI := (yX7_run, cX7_run, 3, (Option.some FieldType.int), 7, 7)
theorem I_X7_run : miB M_X7_run = cX7_run ∧ miL M_X7_run = 3 ∧ miR M_X7_run = (Option.some FieldType.int) ∧ miC M_X7_run = 7 ∧ miV M_X7_run = 7 := ⟨rfl, rfl, rfl, rfl, rfl⟩
theorem ok_X7_run : mOK M_X7_run := mOKi 501 (by decide +kernel) (by decide +kernel) rfl (by decide +kernel)
def M_X7_stop : MI := (yX7_stop, cX7_stop, 1, (Option.some FieldType.int), 7, 6)
theorem I_X7_stop : miB M_X7_stop = cX7_stop ∧ miL M_X7_stop = 1 ∧ miR M_X7_stop = (Option.some FieldType.int) ∧ miC M_X7_stop = 7 ∧ miV M_X7_stop = 6 := ⟨rfl, rfl, rfl, rfl, rfl⟩
theorem ok_X7_stop : mOK M_X7_stop := mOKi 581 (by decide +kernel) (by decide +kernel) rfl (by decide +kernel)
def M_X7_count : MI := (yX7_count, cX7_count, 2, (Option.some FieldType.int), 7, 2)
theorem I_X7_count : miB M_X7_count = cX7_count ∧ miL M_X7_count = 2 ∧ miR M_X7_count = (Option.some FieldType.int) ∧ miC M_X7_count = 7 ∧ miV M_X7_count = 2 := ⟨rfl, rfl, rfl, rfl, rfl⟩
theorem ok_X7_count : mOK M_X7_count := mOKi 587 (by decide +kernel) (by decide +kernel) rfl (by decide +kernel)
def M_X7_account : MI := (yX7_account, cX7_account, 2, (Option.some FieldType.int), 7, 1)
theorem I_X7_account : miB M_X7_account = cX7_account ∧ miL M_X7_account = 2 ∧ miR M_X7_account = (Option.some FieldType.int) ∧ miC M_X7_account = 7 ∧ miV M_X7_account = 1 := ⟨rfl, rfl, rfl, rfl, rfl⟩
theorem ok_X7_account : mOK M_X7_account := mOKi 599 (by decide +kernel) (by decide +kernel) rfl (by decide +kernel)
def M_X7_paper : MI := (yX7_paper, cX7_paper, 4, (Option.some FieldType.int), 7, 1)
theorem I_X7_paper : miB M_X7_paper = cX7_paper ∧ miL M_X7_paper = 4 ∧ miR M_X7_paper = (Option.some FieldType.int) ∧ miC M_X7_paper = 7 ∧ miV M_X7_paper = 1 := ⟨rfl, rfl, rfl, rfl, rfl⟩
theorem ok_X7_paper : mOK M_X7_paper := mOKi 603 (by decide +kernel) (by decide +kernel) rfl (by decide +kernel)
def M_X7_lacking : MI := (yX7_lacking, cX7_lacking, 3, (Option.some FieldType.int), 7, 3)
theorem I_X7_lacking : miB M_X7_lacking = cX7_lacking ∧ miL M_X7_lacking = 3 ∧ miR M_X7_lacking = (Option.some FieldType.int) ∧ miC M_X7_lacking = 7 ∧ miV M_X7_lacking = 3 := ⟨rfl, rfl, rfl, rfl, rfl⟩
theorem ok_X7_lacking : mOK M_X7_lacking := mOKi 607 (by decide +kernel) (by decide +kernel) rfl (by decide +kernel)
def M_X7_ticksTo : MI := (yX7_ticksTo, cX7_ticksTo, 2, (Option.some FieldType.int), 7, 7)
theorem I_X7_ticksTo : miB M_X7_ticksTo = cX7_ticksTo ∧ miL M_X7_ticksTo = 2 ∧ miR M_X7_ticksTo = (Option.some FieldType.int) ∧ miC M_X7_ticksTo = 7 ∧ miV M_X7_ticksTo = 7 := ⟨rfl, rfl, rfl, rfl, rfl⟩
theorem ok_X7_ticksTo : mOK M_X7_ticksTo := mOKi 628 (by decide +kernel) (by decide +kernel) rfl (by decide +kernel)
def M_X7_undo : MI := (yX7_undo, cX7_undo, 1, (Option.some FieldType.int), 7, 4)
theorem I_X7_undo : miB M_X7_undo = cX7_undo ∧ miL M_X7_undo = 1 ∧ miR M_X7_undo = (Option.some FieldType.int) ∧ miC M_X7_undo = 7 ∧ miV M_X7_undo = 4 := ⟨rfl, rfl, rfl, rfl, rfl⟩
theorem ok_X7_undo : mOK M_X7_undo := mOKi 636 (by decide +kernel) (by decide +kernel) rfl (by decide +kernel)
def M_X7_type : MI := (yX7_type, cX7_type, 2, (Option.some FieldType.int), 7, 2)
theorem I_X7_type : miB M_X7_type = cX7_type ∧ miL M_X7_type = 2 ∧ miR M_X7_type = (Option.some FieldType.int) ∧ miC M_X7_type = 7 ∧ miV M_X7_type = 2 := ⟨rfl, rfl, rfl, rfl, rfl⟩
theorem ok_X7_type : mOK M_X7_type := mOKi 644 (by decide +kernel) (by decide +kernel) rfl (by decide +kernel)
def M_X7_clearText : MI := (yX7_clearText, cX7_clearText, 2, (Option.some FieldType.int), 7, 0)
theorem I_X7_clearText : miB M_X7_clearText = cX7_clearText ∧ miL M_X7_clearText = 2 ∧ miR M_X7_clearText = (Option.some FieldType.int) ∧ miC M_X7_clearText = 7 ∧ miV M_X7_clearText = 0 := ⟨rfl, rfl, rfl, rfl, rfl⟩
theorem ok_X7_clearText : mOK M_X7_clearText := mOKi 653 (by decide +kernel) (by decide +kernel) rfl (by decide +kernel)
def M_X7_fault : MI := (yX7_fault, cX7_fault, 2, (Option.some FieldType.int), 7, 10)
theorem I_X7_fault : miB M_X7_fault = cX7_fault ∧ miL M_X7_fault = 2 ∧ miR M_X7_fault = (Option.some FieldType.int) ∧ miC M_X7_fault = 7 ∧ miV M_X7_fault = 10 := ⟨rfl, rfl, rfl, rfl, rfl⟩
theorem ok_X7_fault : mOK M_X7_fault := mOKi 657 (by decide +kernel) (by decide +kernel) rfl (by decide +kernel)
def M_X7_enter : MI := (yX7_enter, cX7_enter, 3, (Option.some FieldType.int), 7, 10)
theorem I_X7_enter : miB M_X7_enter = cX7_enter ∧ miL M_X7_enter = 3 ∧ miR M_X7_enter = (Option.some FieldType.int) ∧ miC M_X7_enter = 7 ∧ miV M_X7_enter = 10 := ⟨rfl, rfl, rfl, rfl, rfl⟩
theorem ok_X7_enter : mOK M_X7_enter := mOKi 770 (by decide +kernel) (by decide +kernel) rfl (by decide +kernel)
def M_X7_settingAt : MI := (yX7_settingAt, cX7_settingAt, 2, (Option.some FieldType.int), 7, 1)
theorem I_X7_settingAt : miB M_X7_settingAt = cX7_settingAt ∧ miL M_X7_settingAt = 2 ∧ miR M_X7_settingAt = (Option.some FieldType.int) ∧ miC M_X7_settingAt = 7 ∧ miV M_X7_settingAt = 1 := ⟨rfl, rfl, rfl, rfl, rfl⟩
theorem ok_X7_settingAt : mOK M_X7_settingAt := mOKi 595 (by decide +kernel) (by decide +kernel) rfl (by decide +kernel)
def M_X7_isWithin : MI := (yX7_isWithin, cX7_isWithin, 3, (Option.some FieldType.boolean), 7, 0)
theorem I_X7_isWithin : miB M_X7_isWithin = cX7_isWithin ∧ miL M_X7_isWithin = 3 ∧ miR M_X7_isWithin = (Option.some FieldType.boolean) ∧ miC M_X7_isWithin = 7 ∧ miV M_X7_isWithin = 0 := ⟨rfl, rfl, rfl, rfl, rfl⟩
theorem ok_X7_isWithin : mOK M_X7_isWithin := mOKi 336 (by decide +kernel) (by decide +kernel) rfl (by decide +kernel)
def M_X7_isBelow : MI := (yX7_isBelow, cX7_isBelow, 2, (Option.some FieldType.boolean), 7, 0)
theorem I_X7_isBelow : miB M_X7_isBelow = cX7_isBelow ∧ miL M_X7_isBelow = 2 ∧ miR M_X7_isBelow = (Option.some FieldType.boolean) ∧ miC M_X7_isBelow = 7 ∧ miV M_X7_isBelow = 0 := ⟨rfl, rfl, rfl, rfl, rfl⟩
theorem ok_X7_isBelow : mOK M_X7_isBelow := mOKi 333 (by decide +kernel) (by decide +kernel) rfl (by decide +kernel)
def M_X7_isPaper : MI := (yX7_isPaper, cX7_isPaper, 2, (Option.some FieldType.boolean), 7, 1)
theorem I_X7_isPaper : miB M_X7_isPaper = cX7_isPaper ∧ miL M_X7_isPaper = 2 ∧ miR M_X7_isPaper = (Option.some FieldType.boolean) ∧ miC M_X7_isPaper = 7 ∧ miV M_X7_isPaper = 1 := ⟨rfl, rfl, rfl, rfl, rfl⟩
theorem ok_X7_isPaper : mOK M_X7_isPaper := mOKi 373 (by decide +kernel) (by decide +kernel) rfl (by decide +kernel)
def M_X8_init : MI := (yX8_init, cX8_init, 2, (Option.none : Option FieldType), 8, 1)
theorem I_X8_init : miB M_X8_init = cX8_init ∧ miL M_X8_init = 2 ∧ miR M_X8_init = (Option.none : Option FieldType) ∧ miC M_X8_init = 8 ∧ miV M_X8_init = 1 := ⟨rfl, rfl, rfl, rfl, rfl⟩
theorem ok_X8_init : mOK M_X8_init := mOKi 776 (by decide +kernel) (by decide +kernel) rfl (by decide +kernel)
def M_X8_in : MI := (yX8_in, cX8_in, 3, (Option.some FieldType.boolean), 8, 0)
theorem I_X8_in : miB M_X8_in = cX8_in ∧ miL M_X8_in = 3 ∧ miR M_X8_in = (Option.some FieldType.boolean) ∧ miC M_X8_in = 8 ∧ miV M_X8_in = 0 := ⟨rfl, rfl, rfl, rfl, rfl⟩
theorem ok_X8_in : mOK M_X8_in := mOKi 828 (by decide +kernel) (by decide +kernel) rfl (by decide +kernel)
def M_X8_records : MI := (yX8_records, cX8_records, 2, (Option.none : Option FieldType), 8, 0)
theorem I_X8_records : miB M_X8_records = cX8_records ∧ miL M_X8_records = 2 ∧ miR M_X8_records = (Option.none : Option FieldType) ∧ miC M_X8_records = 8 ∧ miV M_X8_records = 0 := ⟨rfl, rfl, rfl, rfl, rfl⟩
theorem ok_X8_records : mOK M_X8_records := mOKi 832 (by decide +kernel) (by decide +kernel) rfl (by decide +kernel)
def M_X8_undo : MI := (yX8_undo, cX8_undo, 2, (Option.some FieldType.int), 8, 0)
theorem I_X8_undo : miB M_X8_undo = cX8_undo ∧ miL M_X8_undo = 2 ∧ miR M_X8_undo = (Option.some FieldType.int) ∧ miC M_X8_undo = 8 ∧ miV M_X8_undo = 0 := ⟨rfl, rfl, rfl, rfl, rfl⟩
theorem ok_X8_undo : mOK M_X8_undo := mOKi 818 (by decide +kernel) (by decide +kernel) rfl (by decide +kernel)
def M_X8_isPaper : MI := (yX8_isPaper, cX8_isPaper, 2, (Option.some FieldType.boolean), 8, 1)
theorem I_X8_isPaper : miB M_X8_isPaper = cX8_isPaper ∧ miL M_X8_isPaper = 2 ∧ miR M_X8_isPaper = (Option.some FieldType.boolean) ∧ miC M_X8_isPaper = 8 ∧ miV M_X8_isPaper = 1 := ⟨rfl, rfl, rfl, rfl, rfl⟩
theorem ok_X8_isPaper : mOK M_X8_isPaper := mOKi 839 (by decide +kernel) (by decide +kernel) rfl (by decide +kernel)
def M_X8_isTray : MI := (yX8_isTray, cX8_isTray, 1, (Option.some FieldType.boolean), 8, 1)
theorem I_X8_isTray : miB M_X8_isTray = cX8_isTray ∧ miL M_X8_isTray = 1 ∧ miR M_X8_isTray = (Option.some FieldType.boolean) ∧ miC M_X8_isTray = 8 ∧ miV M_X8_isTray = 1 := ⟨rfl, rfl, rfl, rfl, rfl⟩
theorem ok_X8_isTray : mOK M_X8_isTray := mOKi 825 (by decide +kernel) (by decide +kernel) rfl (by decide +kernel)
def M_X8_fill : MI := (yX8_fill, cX8_fill, 4, (Option.some FieldType.int), 8, 2)
theorem I_X8_fill : miB M_X8_fill = cX8_fill ∧ miL M_X8_fill = 4 ∧ miR M_X8_fill = (Option.some FieldType.int) ∧ miC M_X8_fill = 8 ∧ miV M_X8_fill = 2 := ⟨rfl, rfl, rfl, rfl, rfl⟩
theorem ok_X8_fill : mOK M_X8_fill := mOKi 822 (by decide +kernel) (by decide +kernel) rfl (by decide +kernel)
def M_X8_load : MI := (yX8_load, cX8_load, 6, (Option.some FieldType.int), 8, 2)
theorem I_X8_load : miB M_X8_load = cX8_load ∧ miL M_X8_load = 6 ∧ miR M_X8_load = (Option.some FieldType.int) ∧ miC M_X8_load = 8 ∧ miV M_X8_load = 2 := ⟨rfl, rfl, rfl, rfl, rfl⟩
theorem ok_X8_load : mOK M_X8_load := mOKi 836 (by decide +kernel) (by decide +kernel) rfl (by decide +kernel)
def M_X8_isOf : MI := (yX8_isOf, cX8_isOf, 4, (Option.some FieldType.boolean), 8, 0)
theorem I_X8_isOf : miB M_X8_isOf = cX8_isOf ∧ miL M_X8_isOf = 4 ∧ miR M_X8_isOf = (Option.some FieldType.boolean) ∧ miC M_X8_isOf = 8 ∧ miV M_X8_isOf = 0 := ⟨rfl, rfl, rfl, rfl, rfl⟩
theorem ok_X8_isOf : mOK M_X8_isOf := mOKi 851 (by decide +kernel) (by decide +kernel) rfl (by decide +kernel)
def M_X8_sheetsOf : MI := (yX8_sheetsOf, cX8_sheetsOf, 5, (Option.some FieldType.int), 8, 1)
theorem I_X8_sheetsOf : miB M_X8_sheetsOf = cX8_sheetsOf ∧ miL M_X8_sheetsOf = 5 ∧ miR M_X8_sheetsOf = (Option.some FieldType.int) ∧ miC M_X8_sheetsOf = 8 ∧ miV M_X8_sheetsOf = 1 := ⟨rfl, rfl, rfl, rfl, rfl⟩
theorem ok_X8_sheetsOf : mOK M_X8_sheetsOf := mOKi 847 (by decide +kernel) (by decide +kernel) rfl (by decide +kernel)
def M_X8_tray : MI := (yX8_tray, cX8_tray, 4, (Option.some FieldType.int), 8, 2)
theorem I_X8_tray : miB M_X8_tray = cX8_tray ∧ miL M_X8_tray = 4 ∧ miR M_X8_tray = (Option.some FieldType.int) ∧ miC M_X8_tray = 8 ∧ miV M_X8_tray = 2 := ⟨rfl, rfl, rfl, rfl, rfl⟩
theorem ok_X8_tray : mOK M_X8_tray := mOKi 843 (by decide +kernel) (by decide +kernel) rfl (by decide +kernel)
def M_X8_puts : MI := (yX8_puts, cX8_puts, 4, (Option.some FieldType.int), 8, 1)
theorem I_X8_puts : miB M_X8_puts = cX8_puts ∧ miL M_X8_puts = 4 ∧ miR M_X8_puts = (Option.some FieldType.int) ∧ miC M_X8_puts = 8 ∧ miV M_X8_puts = 1 := ⟨rfl, rfl, rfl, rfl, rfl⟩
theorem ok_X8_puts : mOK M_X8_puts := mOKi 859 (by decide +kernel) (by decide +kernel) rfl (by decide +kernel)
def M_X8_staples : MI := (yX8_staples, cX8_staples, 2, (Option.some FieldType.int), 8, 2)
theorem I_X8_staples : miB M_X8_staples = cX8_staples ∧ miL M_X8_staples = 2 ∧ miR M_X8_staples = (Option.some FieldType.int) ∧ miC M_X8_staples = 8 ∧ miV M_X8_staples = 2 := ⟨rfl, rfl, rfl, rfl, rfl⟩
theorem ok_X8_staples : mOK M_X8_staples := mOKi 855 (by decide +kernel) (by decide +kernel) rfl (by decide +kernel)
def M_X8_emptyBin : MI := (yX8_emptyBin, cX8_emptyBin, 1, (Option.some FieldType.int), 8, 2)
theorem I_X8_emptyBin : miB M_X8_emptyBin = cX8_emptyBin ∧ miL M_X8_emptyBin = 1 ∧ miR M_X8_emptyBin = (Option.some FieldType.int) ∧ miC M_X8_emptyBin = 8 ∧ miV M_X8_emptyBin = 2 := ⟨rfl, rfl, rfl, rfl, rfl⟩
theorem ok_X8_emptyBin : mOK M_X8_emptyBin := mOKi 863 (by decide +kernel) (by decide +kernel) rfl (by decide +kernel)
def M_X8_isSetting : MI := (yX8_isSetting, cX8_isSetting, 2, (Option.some FieldType.boolean), 8, 1)
theorem I_X8_isSetting : miB M_X8_isSetting = cX8_isSetting ∧ miL M_X8_isSetting = 2 ∧ miR M_X8_isSetting = (Option.some FieldType.boolean) ∧ miC M_X8_isSetting = 8 ∧ miV M_X8_isSetting = 1 := ⟨rfl, rfl, rfl, rfl, rfl⟩
theorem ok_X8_isSetting : mOK M_X8_isSetting := mOKi 870 (by decide +kernel) (by decide +kernel) rfl (by decide +kernel)
def M_X8_set : MI := (yX8_set, cX8_set, 3, (Option.some FieldType.int), 8, 2)
theorem I_X8_set : miB M_X8_set = cX8_set ∧ miL M_X8_set = 3 ∧ miR M_X8_set = (Option.some FieldType.int) ∧ miC M_X8_set = 8 ∧ miV M_X8_set = 2 := ⟨rfl, rfl, rfl, rfl, rfl⟩
theorem ok_X8_set : mOK M_X8_set := mOKi 867 (by decide +kernel) (by decide +kernel) rfl (by decide +kernel)
def M_X8_jobAt : MI := (yX8_jobAt, cX8_jobAt, 1, (Option.some FieldType.int), 8, 0)
theorem I_X8_jobAt : miB M_X8_jobAt = cX8_jobAt ∧ miL M_X8_jobAt = 1 ∧ miR M_X8_jobAt = (Option.some FieldType.int) ∧ miC M_X8_jobAt = 8 ∧ miV M_X8_jobAt = 0 := ⟨rfl, rfl, rfl, rfl, rfl⟩
theorem ok_X8_jobAt : mOK M_X8_jobAt := mOKi 894 (by decide +kernel) (by decide +kernel) rfl (by decide +kernel)
def M_X8_of : MI := (yX8_of, cX8_of, 3, (Option.some FieldType.int), 8, 1)
theorem I_X8_of : miB M_X8_of = cX8_of ∧ miL M_X8_of = 3 ∧ miR M_X8_of = (Option.some FieldType.int) ∧ miC M_X8_of = 8 ∧ miV M_X8_of = 1 := ⟨rfl, rfl, rfl, rfl, rfl⟩
theorem ok_X8_of : mOK M_X8_of := mOKi 910 (by decide +kernel) (by decide +kernel) rfl (by decide +kernel)
def M_X8_placeOf : MI := (yX8_placeOf, cX8_placeOf, 3, (Option.some FieldType.int), 8, 2)
theorem I_X8_placeOf : miB M_X8_placeOf = cX8_placeOf ∧ miL M_X8_placeOf = 3 ∧ miR M_X8_placeOf = (Option.some FieldType.int) ∧ miC M_X8_placeOf = 8 ∧ miV M_X8_placeOf = 2 := ⟨rfl, rfl, rfl, rfl, rfl⟩
theorem ok_X8_placeOf : mOK M_X8_placeOf := mOKi 906 (by decide +kernel) (by decide +kernel) rfl (by decide +kernel)
def M_X8_setOf : MI := (yX8_setOf, cX8_setOf, 2, (Option.some FieldType.int), 8, 0)
theorem I_X8_setOf : miB M_X8_setOf = cX8_setOf ∧ miL M_X8_setOf = 2 ∧ miR M_X8_setOf = (Option.some FieldType.int) ∧ miC M_X8_setOf = 8 ∧ miV M_X8_setOf = 0 := ⟨rfl, rfl, rfl, rfl, rfl⟩
theorem ok_X8_setOf : mOK M_X8_setOf := mOKi 887 (by decide +kernel) (by decide +kernel) rfl (by decide +kernel)
def M_X8_whyNot : MI := (yX8_whyNot, cX8_whyNot, 6, (Option.some FieldType.int), 8, 1)
theorem I_X8_whyNot : miB M_X8_whyNot = cX8_whyNot ∧ miL M_X8_whyNot = 6 ∧ miR M_X8_whyNot = (Option.some FieldType.int) ∧ miC M_X8_whyNot = 8 ∧ miV M_X8_whyNot = 1 := ⟨rfl, rfl, rfl, rfl, rfl⟩
theorem ok_X8_whyNot : mOK M_X8_whyNot := mOKi 884 (by decide +kernel) (by decide +kernel) rfl (by decide +kernel)
def M_X8_comes : MI := (yX8_comes, cX8_comes, 8, (Option.some FieldType.int), 8, 1)
theorem I_X8_comes : miB M_X8_comes = cX8_comes ∧ miL M_X8_comes = 8 ∧ miR M_X8_comes = (Option.some FieldType.int) ∧ miC M_X8_comes = 8 ∧ miV M_X8_comes = 1 := ⟨rfl, rfl, rfl, rfl, rfl⟩
theorem ok_X8_comes : mOK M_X8_comes := mOKi 891 (by decide +kernel) (by decide +kernel) rfl (by decide +kernel)
def M_X8_isPages : MI := (yX8_isPages, cX8_isPages, 1, (Option.some FieldType.boolean), 8, 1)
theorem I_X8_isPages : miB M_X8_isPages = cX8_isPages ∧ miL M_X8_isPages = 1 ∧ miR M_X8_isPages = (Option.some FieldType.boolean) ∧ miC M_X8_isPages = 8 ∧ miV M_X8_isPages = 1 := ⟨rfl, rfl, rfl, rfl, rfl⟩
theorem ok_X8_isPages : mOK M_X8_isPages := mOKi 877 (by decide +kernel) (by decide +kernel) rfl (by decide +kernel)
def M_X8_isCopies : MI := (yX8_isCopies, cX8_isCopies, 1, (Option.some FieldType.boolean), 8, 1)
theorem I_X8_isCopies : miB M_X8_isCopies = cX8_isCopies ∧ miL M_X8_isCopies = 1 ∧ miR M_X8_isCopies = (Option.some FieldType.boolean) ∧ miC M_X8_isCopies = 8 ∧ miV M_X8_isCopies = 1 := ⟨rfl, rfl, rfl, rfl, rfl⟩
theorem ok_X8_isCopies : mOK M_X8_isCopies := mOKi 880 (by decide +kernel) (by decide +kernel) rfl (by decide +kernel)
def M_X8_job : MI := (yX8_job, cX8_job, 7, (Option.some FieldType.int), 8, 2)
theorem I_X8_job : miB M_X8_job = cX8_job ∧ miL M_X8_job = 7 ∧ miR M_X8_job = (Option.some FieldType.int) ∧ miC M_X8_job = 8 ∧ miV M_X8_job = 2 := ⟨rfl, rfl, rfl, rfl, rfl⟩
theorem ok_X8_job : mOK M_X8_job := mOKi 874 (by decide +kernel) (by decide +kernel) rfl (by decide +kernel)
def M_X8_refusal : MI := (yX8_refusal, cX8_refusal, 1, (Option.some FieldType.int), 8, 0)
theorem I_X8_refusal : miB M_X8_refusal = cX8_refusal ∧ miL M_X8_refusal = 1 ∧ miR M_X8_refusal = (Option.some FieldType.int) ∧ miC M_X8_refusal = 8 ∧ miV M_X8_refusal = 0 := ⟨rfl, rfl, rfl, rfl, rfl⟩
theorem ok_X8_refusal : mOK M_X8_refusal := mOKi 898 (by decide +kernel) (by decide +kernel) rfl (by decide +kernel)
def M_X8_goesJob : MI := (yX8_goesJob, cX8_goesJob, 3, (Option.none : Option FieldType), 8, 1)
theorem I_X8_goesJob : miB M_X8_goesJob = cX8_goesJob ∧ miL M_X8_goesJob = 3 ∧ miR M_X8_goesJob = (Option.none : Option FieldType) ∧ miC M_X8_goesJob = 8 ∧ miV M_X8_goesJob = 1 := ⟨rfl, rfl, rfl, rfl, rfl⟩
theorem ok_X8_goesJob : mOK M_X8_goesJob := mOKi 926 (by decide +kernel) (by decide +kernel) rfl (by decide +kernel)
def M_X8_givesUp : MI := (yX8_givesUp, cX8_givesUp, 2, (Option.none : Option FieldType), 8, 1)
theorem I_X8_givesUp : miB M_X8_givesUp = cX8_givesUp ∧ miL M_X8_givesUp = 2 ∧ miR M_X8_givesUp = (Option.none : Option FieldType) ∧ miC M_X8_givesUp = 8 ∧ miV M_X8_givesUp = 1 := ⟨rfl, rfl, rfl, rfl, rfl⟩
theorem ok_X8_givesUp : mOK M_X8_givesUp := mOKi 914 (by decide +kernel) (by decide +kernel) rfl (by decide +kernel)
def M_X8_endsWork : MI := (yX8_endsWork, cX8_endsWork, 1, (Option.none : Option FieldType), 8, 0)
theorem I_X8_endsWork : miB M_X8_endsWork = cX8_endsWork ∧ miL M_X8_endsWork = 1 ∧ miR M_X8_endsWork = (Option.none : Option FieldType) ∧ miC M_X8_endsWork = 8 ∧ miV M_X8_endsWork = 0 := ⟨rfl, rfl, rfl, rfl, rfl⟩
theorem ok_X8_endsWork : mOK M_X8_endsWork := mOKi 918 (by decide +kernel) (by decide +kernel) rfl (by decide +kernel)
def M_X8_hold : MI := (yX8_hold, cX8_hold, 5, (Option.some FieldType.int), 8, 3)
theorem I_X8_hold : miB M_X8_hold = cX8_hold ∧ miL M_X8_hold = 5 ∧ miR M_X8_hold = (Option.some FieldType.int) ∧ miC M_X8_hold = 8 ∧ miV M_X8_hold = 3 := ⟨rfl, rfl, rfl, rfl, rfl⟩
theorem ok_X8_hold : mOK M_X8_hold := mOKi 902 (by decide +kernel) (by decide +kernel) rfl (by decide +kernel)
def M_X8_cancel : MI := (yX8_cancel, cX8_cancel, 4, (Option.some FieldType.int), 8, 3)
theorem I_X8_cancel : miB M_X8_cancel = cX8_cancel ∧ miL M_X8_cancel = 4 ∧ miR M_X8_cancel = (Option.some FieldType.int) ∧ miC M_X8_cancel = 8 ∧ miV M_X8_cancel = 3 := ⟨rfl, rfl, rfl, rfl, rfl⟩
theorem ok_X8_cancel : mOK M_X8_cancel := mOKi 922 (by decide +kernel) (by decide +kernel) rfl (by decide +kernel)
def M_X8_priority : MI := (yX8_priority, cX8_priority, 4, (Option.some FieldType.int), 8, 3)
theorem I_X8_priority : miB M_X8_priority = cX8_priority ∧ miL M_X8_priority = 4 ∧ miR M_X8_priority = (Option.some FieldType.int) ∧ miC M_X8_priority = 8 ∧ miV M_X8_priority = 3 := ⟨rfl, rfl, rfl, rfl, rfl⟩
theorem ok_X8_priority : mOK M_X8_priority := mOKi 930 (by decide +kernel) (by decide +kernel) rfl (by decide +kernel)
def M_X8_setSheets : MI := (yX8_setSheets, cX8_setSheets, 2, (Option.some FieldType.int), 8, 2)
theorem I_X8_setSheets : miB M_X8_setSheets = cX8_setSheets ∧ miL M_X8_setSheets = 2 ∧ miR M_X8_setSheets = (Option.some FieldType.int) ∧ miC M_X8_setSheets = 8 ∧ miV M_X8_setSheets = 2 := ⟨rfl, rfl, rfl, rfl, rfl⟩
theorem ok_X8_setSheets : mOK M_X8_setSheets := mOKi 946 (by decide +kernel) (by decide +kernel) rfl (by decide +kernel)
def M_X8_allSheets : MI := (yX8_allSheets, cX8_allSheets, 2, (Option.some FieldType.int), 8, 3)
theorem I_X8_allSheets : miB M_X8_allSheets = cX8_allSheets ∧ miL M_X8_allSheets = 2 ∧ miR M_X8_allSheets = (Option.some FieldType.int) ∧ miC M_X8_allSheets = 8 ∧ miV M_X8_allSheets = 3 := ⟨rfl, rfl, rfl, rfl, rfl⟩
theorem ok_X8_allSheets : mOK M_X8_allSheets := mOKi 942 (by decide +kernel) (by decide +kernel) rfl (by decide +kernel)
def M_X8_isGathered : MI := (yX8_isGathered, cX8_isGathered, 2, (Option.some FieldType.boolean), 8, 2)
theorem I_X8_isGathered : miB M_X8_isGathered = cX8_isGathered ∧ miL M_X8_isGathered = 2 ∧ miR M_X8_isGathered = (Option.some FieldType.boolean) ∧ miC M_X8_isGathered = 8 ∧ miV M_X8_isGathered = 2 := ⟨rfl, rfl, rfl, rfl, rfl⟩
theorem ok_X8_isGathered : mOK M_X8_isGathered := mOKi 954 (by decide +kernel) (by decide +kernel) rfl (by decide +kernel)
def M_X8_nextSheet : MI := (yX8_nextSheet, cX8_nextSheet, 2, (Option.some FieldType.int), 8, 3)
theorem I_X8_nextSheet : miB M_X8_nextSheet = cX8_nextSheet ∧ miL M_X8_nextSheet = 2 ∧ miR M_X8_nextSheet = (Option.some FieldType.int) ∧ miC M_X8_nextSheet = 8 ∧ miV M_X8_nextSheet = 3 := ⟨rfl, rfl, rfl, rfl, rfl⟩
theorem ok_X8_nextSheet : mOK M_X8_nextSheet := mOKi 950 (by decide +kernel) (by decide +kernel) rfl (by decide +kernel)
def M_X8_nextCopy : MI := (yX8_nextCopy, cX8_nextCopy, 2, (Option.some FieldType.int), 8, 3)
theorem I_X8_nextCopy : miB M_X8_nextCopy = cX8_nextCopy ∧ miL M_X8_nextCopy = 2 ∧ miR M_X8_nextCopy = (Option.some FieldType.int) ∧ miC M_X8_nextCopy = 8 ∧ miV M_X8_nextCopy = 3 := ⟨rfl, rfl, rfl, rfl, rfl⟩
theorem ok_X8_nextCopy : mOK M_X8_nextCopy := mOKi 958 (by decide +kernel) (by decide +kernel) rfl (by decide +kernel)
def M_X8_tellJob : MI := (yX8_tellJob, cX8_tellJob, 4, (Option.some FieldType.int), 8, 4)
theorem I_X8_tellJob : miB M_X8_tellJob = cX8_tellJob ∧ miL M_X8_tellJob = 4 ∧ miR M_X8_tellJob = (Option.some FieldType.int) ∧ miC M_X8_tellJob = 8 ∧ miV M_X8_tellJob = 4 := ⟨rfl, rfl, rfl, rfl, rfl⟩
theorem ok_X8_tellJob : mOK M_X8_tellJob := mOKi 938 (by decide +kernel) (by decide +kernel) rfl (by decide +kernel)
def M_X8_jobInfo : MI := (yX8_jobInfo, cX8_jobInfo, 4, (Option.some FieldType.int), 8, 5)
theorem I_X8_jobInfo : miB M_X8_jobInfo = cX8_jobInfo ∧ miL M_X8_jobInfo = 4 ∧ miR M_X8_jobInfo = (Option.some FieldType.int) ∧ miC M_X8_jobInfo = 8 ∧ miV M_X8_jobInfo = 5 := ⟨rfl, rfl, rfl, rfl, rfl⟩
theorem ok_X8_jobInfo : mOK M_X8_jobInfo := mOKi 934 (by decide +kernel) (by decide +kernel) rfl (by decide +kernel)
def M_X8_isAhead : MI := (yX8_isAhead, cX8_isAhead, 3, (Option.some FieldType.boolean), 8, 2)
theorem I_X8_isAhead : miB M_X8_isAhead = cX8_isAhead ∧ miL M_X8_isAhead = 3 ∧ miR M_X8_isAhead = (Option.some FieldType.boolean) ∧ miC M_X8_isAhead = 8 ∧ miV M_X8_isAhead = 2 := ⟨rfl, rfl, rfl, rfl, rfl⟩
theorem ok_X8_isAhead : mOK M_X8_isAhead := mOKi 966 (by decide +kernel) (by decide +kernel) rfl (by decide +kernel)
def M_X8_queued : MI := (yX8_queued, cX8_queued, 5, (Option.some FieldType.int), 8, 3)
theorem I_X8_queued : miB M_X8_queued = cX8_queued ∧ miL M_X8_queued = 5 ∧ miR M_X8_queued = (Option.some FieldType.int) ∧ miC M_X8_queued = 8 ∧ miV M_X8_queued = 3 := ⟨rfl, rfl, rfl, rfl, rfl⟩
theorem ok_X8_queued : mOK M_X8_queued := mOKi 962 (by decide +kernel) (by decide +kernel) rfl (by decide +kernel)
def M_X8_nextJob : MI := (yX8_nextJob, cX8_nextJob, 3, (Option.some FieldType.int), 8, 3)
theorem I_X8_nextJob : miB M_X8_nextJob = cX8_nextJob ∧ miL M_X8_nextJob = 3 ∧ miR M_X8_nextJob = (Option.some FieldType.int) ∧ miC M_X8_nextJob = 8 ∧ miV M_X8_nextJob = 3 := ⟨rfl, rfl, rfl, rfl, rfl⟩
theorem ok_X8_nextJob : mOK M_X8_nextJob := mOKi 979 (by decide +kernel) (by decide +kernel) rfl (by decide +kernel)
def M_X8_staplesOf : MI := (yX8_staplesOf, cX8_staplesOf, 2, (Option.some FieldType.int), 8, 2)
theorem I_X8_staplesOf : miB M_X8_staplesOf = cX8_staplesOf ∧ miL M_X8_staplesOf = 2 ∧ miR M_X8_staplesOf = (Option.some FieldType.int) ∧ miC M_X8_staplesOf = 8 ∧ miV M_X8_staplesOf = 2 := ⟨rfl, rfl, rfl, rfl, rfl⟩
theorem ok_X8_staplesOf : mOK M_X8_staplesOf := mOKi 991 (by decide +kernel) (by decide +kernel) rfl (by decide +kernel)
def M_X8_hasSet : MI := (yX8_hasSet, cX8_hasSet, 2, (Option.some FieldType.boolean), 8, 3)
theorem I_X8_hasSet : miB M_X8_hasSet = cX8_hasSet ∧ miL M_X8_hasSet = 2 ∧ miR M_X8_hasSet = (Option.some FieldType.boolean) ∧ miC M_X8_hasSet = 8 ∧ miV M_X8_hasSet = 3 := ⟨rfl, rfl, rfl, rfl, rfl⟩
theorem ok_X8_hasSet : mOK M_X8_hasSet := mOKi 987 (by decide +kernel) (by decide +kernel) rfl (by decide +kernel)
def M_X8_whyStop : MI := (yX8_whyStop, cX8_whyStop, 2, (Option.some FieldType.int), 8, 4)
theorem I_X8_whyStop : miB M_X8_whyStop = cX8_whyStop ∧ miL M_X8_whyStop = 2 ∧ miR M_X8_whyStop = (Option.some FieldType.int) ∧ miC M_X8_whyStop = 8 ∧ miV M_X8_whyStop = 4 := ⟨rfl, rfl, rfl, rfl, rfl⟩
theorem ok_X8_whyStop : mOK M_X8_whyStop := mOKi 983 (by decide +kernel) (by decide +kernel) rfl (by decide +kernel)
def M_X8_leaves : MI := (yX8_leaves, cX8_leaves, 3, (Option.none : Option FieldType), 8, 4)
theorem I_X8_leaves : miB M_X8_leaves = cX8_leaves ∧ miL M_X8_leaves = 3 ∧ miR M_X8_leaves = (Option.none : Option FieldType) ∧ miC M_X8_leaves = 8 ∧ miV M_X8_leaves = 4 := ⟨rfl, rfl, rfl, rfl, rfl⟩
theorem ok_X8_leaves : mOK M_X8_leaves := mOKi 999 (by decide +kernel) (by decide +kernel) rfl (by decide +kernel)
def M_X8_stapled : MI := (yX8_stapled, cX8_stapled, 3, (Option.none : Option FieldType), 8, 5)
theorem I_X8_stapled : miB M_X8_stapled = cX8_stapled ∧ miL M_X8_stapled = 3 ∧ miR M_X8_stapled = (Option.none : Option FieldType) ∧ miC M_X8_stapled = 8 ∧ miV M_X8_stapled = 5 := ⟨rfl, rfl, rfl, rfl, rfl⟩
theorem ok_X8_stapled : mOK M_X8_stapled := mOKi 995 (by decide +kernel) (by decide +kernel) rfl (by decide +kernel)
def M_X8_takesPaper : MI := (yX8_takesPaper, cX8_takesPaper, 5, (Option.none : Option FieldType), 8, 1)
theorem I_X8_takesPaper : miB M_X8_takesPaper = cX8_takesPaper ∧ miL M_X8_takesPaper = 5 ∧ miR M_X8_takesPaper = (Option.none : Option FieldType) ∧ miC M_X8_takesPaper = 8 ∧ miV M_X8_takesPaper = 1 := ⟨rfl, rfl, rfl, rfl, rfl⟩
theorem ok_X8_takesPaper : mOK M_X8_takesPaper := mOKi 1007 (by decide +kernel) (by decide +kernel) rfl (by decide +kernel)
def M_X8_sides : MI := (yX8_sides, cX8_sides, 3, (Option.some FieldType.int), 8, 4)
theorem I_X8_sides : miB M_X8_sides = cX8_sides ∧ miL M_X8_sides = 3 ∧ miR M_X8_sides = (Option.some FieldType.int) ∧ miC M_X8_sides = 8 ∧ miV M_X8_sides = 4 := ⟨rfl, rfl, rfl, rfl, rfl⟩
theorem ok_X8_sides : mOK M_X8_sides := mOKi 1011 (by decide +kernel) (by decide +kernel) rfl (by decide +kernel)
def M_X8_beginsSheet : MI := (yX8_beginsSheet, cX8_beginsSheet, 3, (Option.none : Option FieldType), 8, 5)
theorem I_X8_beginsSheet : miB M_X8_beginsSheet = cX8_beginsSheet ∧ miL M_X8_beginsSheet = 3 ∧ miR M_X8_beginsSheet = (Option.none : Option FieldType) ∧ miC M_X8_beginsSheet = 8 ∧ miV M_X8_beginsSheet = 5 := ⟨rfl, rfl, rfl, rfl, rfl⟩
theorem ok_X8_beginsSheet : mOK M_X8_beginsSheet := mOKi 1003 (by decide +kernel) (by decide +kernel) rfl (by decide +kernel)
def M_X8_begins : MI := (yX8_begins, cX8_begins, 3, (Option.some FieldType.int), 8, 6)
theorem I_X8_begins : miB M_X8_begins = cX8_begins ∧ miL M_X8_begins = 3 ∧ miR M_X8_begins = (Option.some FieldType.int) ∧ miC M_X8_begins = 8 ∧ miV M_X8_begins = 6 := ⟨rfl, rfl, rfl, rfl, rfl⟩
theorem ok_X8_begins : mOK M_X8_begins := mOKi 975 (by decide +kernel) (by decide +kernel) rfl (by decide +kernel)
def M_X8_finishes : MI := (yX8_finishes, cX8_finishes, 3, (Option.none : Option FieldType), 8, 6)
theorem I_X8_finishes : miB M_X8_finishes = cX8_finishes ∧ miL M_X8_finishes = 3 ∧ miR M_X8_finishes = (Option.none : Option FieldType) ∧ miC M_X8_finishes = 8 ∧ miV M_X8_finishes = 6 := ⟨rfl, rfl, rfl, rfl, rfl⟩
theorem ok_X8_finishes : mOK M_X8_finishes := mOKi 1019 (by decide +kernel) (by decide +kernel) rfl (by decide +kernel)
def M_X8_goesBy : MI := (yX8_goesBy, cX8_goesBy, 4, (Option.some FieldType.int), 8, 7)
theorem I_X8_goesBy : miB M_X8_goesBy = cX8_goesBy ∧ miL M_X8_goesBy = 4 ∧ miR M_X8_goesBy = (Option.some FieldType.int) ∧ miC M_X8_goesBy = 8 ∧ miV M_X8_goesBy = 7 := ⟨rfl, rfl, rfl, rfl, rfl⟩
theorem ok_X8_goesBy : mOK M_X8_goesBy := mOKi 1015 (by decide +kernel) (by decide +kernel) rfl (by decide +kernel)
def M_X8_run : MI := (yX8_run, cX8_run, 4, (Option.some FieldType.int), 8, 8)
theorem I_X8_run : miB M_X8_run = cX8_run ∧ miL M_X8_run = 4 ∧ miR M_X8_run = (Option.some FieldType.int) ∧ miC M_X8_run = 8 ∧ miV M_X8_run = 8 := ⟨rfl, rfl, rfl, rfl, rfl⟩
theorem ok_X8_run : mOK M_X8_run := mOKi 970 (by decide +kernel) (by decide +kernel) rfl (by decide +kernel)
def M_X8_keeps : MI := (yX8_keeps, cX8_keeps, 2, (Option.none : Option FieldType), 8, 0)
theorem I_X8_keeps : miB M_X8_keeps = cX8_keeps ∧ miL M_X8_keeps = 2 ∧ miR M_X8_keeps = (Option.none : Option FieldType) ∧ miC M_X8_keeps = 8 ∧ miV M_X8_keeps = 0 := ⟨rfl, rfl, rfl, rfl, rfl⟩
theorem ok_X8_keeps : mOK M_X8_keeps := mOKi 1027 (by decide +kernel) (by decide +kernel) rfl (by decide +kernel)
def M_X8_takesBack : MI := (yX8_takesBack, cX8_takesBack, 2, (Option.none : Option FieldType), 8, 0)
theorem I_X8_takesBack : miB M_X8_takesBack = cX8_takesBack ∧ miL M_X8_takesBack = 2 ∧ miR M_X8_takesBack = (Option.none : Option FieldType) ∧ miC M_X8_takesBack = 8 ∧ miV M_X8_takesBack = 0 := ⟨rfl, rfl, rfl, rfl, rfl⟩
theorem ok_X8_takesBack : mOK M_X8_takesBack := mOKi 1031 (by decide +kernel) (by decide +kernel) rfl (by decide +kernel)
def M_X8_stop : MI := (yX8_stop, cX8_stop, 2, (Option.some FieldType.int), 8, 7)
theorem I_X8_stop : miB M_X8_stop = cX8_stop ∧ miL M_X8_stop = 2 ∧ miR M_X8_stop = (Option.some FieldType.int) ∧ miC M_X8_stop = 8 ∧ miV M_X8_stop = 7 := ⟨rfl, rfl, rfl, rfl, rfl⟩
theorem ok_X8_stop : mOK M_X8_stop := mOKi 1023 (by decide +kernel) (by decide +kernel) rfl (by decide +kernel)
def M_X8_count : MI := (yX8_count, cX8_count, 2, (Option.some FieldType.int), 8, 3)
theorem I_X8_count : miB M_X8_count = cX8_count ∧ miL M_X8_count = 2 ∧ miR M_X8_count = (Option.some FieldType.int) ∧ miC M_X8_count = 8 ∧ miV M_X8_count = 3 := ⟨rfl, rfl, rfl, rfl, rfl⟩
theorem ok_X8_count : mOK M_X8_count := mOKi 1035 (by decide +kernel) (by decide +kernel) rfl (by decide +kernel)
def M_X8_heldOnes : MI := (yX8_heldOnes, cX8_heldOnes, 3, (Option.some FieldType.int), 8, 2)
theorem I_X8_heldOnes : miB M_X8_heldOnes = cX8_heldOnes ∧ miL M_X8_heldOnes = 3 ∧ miR M_X8_heldOnes = (Option.some FieldType.int) ∧ miC M_X8_heldOnes = 8 ∧ miV M_X8_heldOnes = 2 := ⟨rfl, rfl, rfl, rfl, rfl⟩
theorem ok_X8_heldOnes : mOK M_X8_heldOnes := mOKi 1039 (by decide +kernel) (by decide +kernel) rfl (by decide +kernel)
def M_X8_account : MI := (yX8_account, cX8_account, 2, (Option.some FieldType.int), 8, 1)
theorem I_X8_account : miB M_X8_account = cX8_account ∧ miL M_X8_account = 2 ∧ miR M_X8_account = (Option.some FieldType.int) ∧ miC M_X8_account = 8 ∧ miV M_X8_account = 1 := ⟨rfl, rfl, rfl, rfl, rfl⟩
theorem ok_X8_account : mOK M_X8_account := mOKi 1043 (by decide +kernel) (by decide +kernel) rfl (by decide +kernel)
def M_X8_paper : MI := (yX8_paper, cX8_paper, 3, (Option.some FieldType.int), 8, 1)
theorem I_X8_paper : miB M_X8_paper = cX8_paper ∧ miL M_X8_paper = 3 ∧ miR M_X8_paper = (Option.some FieldType.int) ∧ miC M_X8_paper = 8 ∧ miV M_X8_paper = 1 := ⟨rfl, rfl, rfl, rfl, rfl⟩
theorem ok_X8_paper : mOK M_X8_paper := mOKi 1047 (by decide +kernel) (by decide +kernel) rfl (by decide +kernel)
def M_X8_lacking : MI := (yX8_lacking, cX8_lacking, 7, (Option.some FieldType.int), 8, 4)
theorem I_X8_lacking : miB M_X8_lacking = cX8_lacking ∧ miL M_X8_lacking = 7 ∧ miR M_X8_lacking = (Option.some FieldType.int) ∧ miC M_X8_lacking = 8 ∧ miV M_X8_lacking = 4 := ⟨rfl, rfl, rfl, rfl, rfl⟩
theorem ok_X8_lacking : mOK M_X8_lacking := mOKi 1051 (by decide +kernel) (by decide +kernel) rfl (by decide +kernel)
def M_X8_ticksTo : MI := (yX8_ticksTo, cX8_ticksTo, 4, (Option.some FieldType.int), 8, 8)
theorem I_X8_ticksTo : miB M_X8_ticksTo = cX8_ticksTo ∧ miL M_X8_ticksTo = 4 ∧ miR M_X8_ticksTo = (Option.some FieldType.int) ∧ miC M_X8_ticksTo = 8 ∧ miV M_X8_ticksTo = 8 := ⟨rfl, rfl, rfl, rfl, rfl⟩
theorem ok_X8_ticksTo : mOK M_X8_ticksTo := mOKi 1055 (by decide +kernel) (by decide +kernel) rfl (by decide +kernel)
def M_X8_type : MI := (yX8_type, cX8_type, 2, (Option.some FieldType.int), 8, 1)
theorem I_X8_type : miB M_X8_type = cX8_type ∧ miL M_X8_type = 2 ∧ miR M_X8_type = (Option.some FieldType.int) ∧ miC M_X8_type = 8 ∧ miV M_X8_type = 1 := ⟨rfl, rfl, rfl, rfl, rfl⟩
theorem ok_X8_type : mOK M_X8_type := mOKi 1059 (by decide +kernel) (by decide +kernel) rfl (by decide +kernel)
def M_X8_clearText : MI := (yX8_clearText, cX8_clearText, 2, (Option.some FieldType.int), 8, 0)
theorem I_X8_clearText : miB M_X8_clearText = cX8_clearText ∧ miL M_X8_clearText = 2 ∧ miR M_X8_clearText = (Option.some FieldType.int) ∧ miC M_X8_clearText = 8 ∧ miV M_X8_clearText = 0 := ⟨rfl, rfl, rfl, rfl, rfl⟩
theorem ok_X8_clearText : mOK M_X8_clearText := mOKi 1063 (by decide +kernel) (by decide +kernel) rfl (by decide +kernel)
def M_X8_isAt : MI := (yX8_isAt, cX8_isAt, 2, (Option.some FieldType.boolean), 8, 0)
theorem I_X8_isAt : miB M_X8_isAt = cX8_isAt ∧ miL M_X8_isAt = 2 ∧ miR M_X8_isAt = (Option.some FieldType.boolean) ∧ miC M_X8_isAt = 8 ∧ miV M_X8_isAt = 0 := ⟨rfl, rfl, rfl, rfl, rfl⟩
theorem ok_X8_isAt : mOK M_X8_isAt := mOKi 1087 (by decide +kernel) (by decide +kernel) rfl (by decide +kernel)
def M_X8_takes : MI := (yX8_takes, cX8_takes, 3, (Option.some FieldType.boolean), 8, 1)
theorem I_X8_takes : miB M_X8_takes = cX8_takes ∧ miL M_X8_takes = 3 ∧ miR M_X8_takes = (Option.some FieldType.boolean) ∧ miC M_X8_takes = 8 ∧ miV M_X8_takes = 1 := ⟨rfl, rfl, rfl, rfl, rfl⟩
theorem ok_X8_takes : mOK M_X8_takes := mOKi 1083 (by decide +kernel) (by decide +kernel) rfl (by decide +kernel)
def M_X8_takesNumber : MI := (yX8_takesNumber, cX8_takesNumber, 5, (Option.some FieldType.boolean), 8, 2)
theorem I_X8_takesNumber : miB M_X8_takesNumber = cX8_takesNumber ∧ miL M_X8_takesNumber = 5 ∧ miR M_X8_takesNumber = (Option.some FieldType.boolean) ∧ miC M_X8_takesNumber = 8 ∧ miV M_X8_takesNumber = 2 := ⟨rfl, rfl, rfl, rfl, rfl⟩
theorem ok_X8_takesNumber : mOK M_X8_takesNumber := mOKi 1079 (by decide +kernel) (by decide +kernel) rfl (by decide +kernel)
def M_X8_letterAt : MI := (yX8_letterAt, cX8_letterAt, 7, (Option.some FieldType.int), 8, 0)
theorem I_X8_letterAt : miB M_X8_letterAt = cX8_letterAt ∧ miL M_X8_letterAt = 7 ∧ miR M_X8_letterAt = (Option.some FieldType.int) ∧ miC M_X8_letterAt = 8 ∧ miV M_X8_letterAt = 0 := ⟨rfl, rfl, rfl, rfl, rfl⟩
theorem ok_X8_letterAt : mOK M_X8_letterAt := mOKi 1098 (by decide +kernel) (by decide +kernel) rfl (by decide +kernel)
def M_X8_takesWord : MI := (yX8_takesWord, cX8_takesWord, 4, (Option.some FieldType.boolean), 8, 1)
theorem I_X8_takesWord : miB M_X8_takesWord = cX8_takesWord ∧ miL M_X8_takesWord = 4 ∧ miR M_X8_takesWord = (Option.some FieldType.boolean) ∧ miC M_X8_takesWord = 8 ∧ miV M_X8_takesWord = 1 := ⟨rfl, rfl, rfl, rfl, rfl⟩
theorem ok_X8_takesWord : mOK M_X8_takesWord := mOKi 1095 (by decide +kernel) (by decide +kernel) rfl (by decide +kernel)
def M_X8_takesOption : MI := (yX8_takesOption, cX8_takesOption, 4, (Option.some FieldType.boolean), 8, 2)
theorem I_X8_takesOption : miB M_X8_takesOption = cX8_takesOption ∧ miL M_X8_takesOption = 4 ∧ miR M_X8_takesOption = (Option.some FieldType.boolean) ∧ miC M_X8_takesOption = 8 ∧ miV M_X8_takesOption = 2 := ⟨rfl, rfl, rfl, rfl, rfl⟩
theorem ok_X8_takesOption : mOK M_X8_takesOption := mOKi 1091 (by decide +kernel) (by decide +kernel) rfl (by decide +kernel)
def M_X8_takesSize : MI := (yX8_takesSize, cX8_takesSize, 1, (Option.some FieldType.boolean), 8, 2)
theorem I_X8_takesSize : miB M_X8_takesSize = cX8_takesSize ∧ miL M_X8_takesSize = 1 ∧ miR M_X8_takesSize = (Option.some FieldType.boolean) ∧ miC M_X8_takesSize = 8 ∧ miV M_X8_takesSize = 2 := ⟨rfl, rfl, rfl, rfl, rfl⟩
theorem ok_X8_takesSize : mOK M_X8_takesSize := mOKi 1112 (by decide +kernel) (by decide +kernel) rfl (by decide +kernel)
def M_X8_takesKind : MI := (yX8_takesKind, cX8_takesKind, 2, (Option.some FieldType.boolean), 8, 2)
theorem I_X8_takesKind : miB M_X8_takesKind = cX8_takesKind ∧ miL M_X8_takesKind = 2 ∧ miR M_X8_takesKind = (Option.some FieldType.boolean) ∧ miC M_X8_takesKind = 8 ∧ miV M_X8_takesKind = 2 := ⟨rfl, rfl, rfl, rfl, rfl⟩
theorem ok_X8_takesKind : mOK M_X8_takesKind := mOKi 1116 (by decide +kernel) (by decide +kernel) rfl (by decide +kernel)
def M_X8_takesJob : MI := (yX8_takesJob, cX8_takesJob, 1, (Option.some FieldType.boolean), 8, 3)
theorem I_X8_takesJob : miB M_X8_takesJob = cX8_takesJob ∧ miL M_X8_takesJob = 1 ∧ miR M_X8_takesJob = (Option.some FieldType.boolean) ∧ miC M_X8_takesJob = 8 ∧ miV M_X8_takesJob = 3 := ⟨rfl, rfl, rfl, rfl, rfl⟩
theorem ok_X8_takesJob : mOK M_X8_takesJob := mOKi 1075 (by decide +kernel) (by decide +kernel) rfl (by decide +kernel)
def M_X8_hasFault : MI := (yX8_hasFault, cX8_hasFault, 3, (Option.some FieldType.boolean), 8, 4)
theorem I_X8_hasFault : miB M_X8_hasFault = cX8_hasFault ∧ miL M_X8_hasFault = 3 ∧ miR M_X8_hasFault = (Option.some FieldType.boolean) ∧ miC M_X8_hasFault = 8 ∧ miV M_X8_hasFault = 4 := ⟨rfl, rfl, rfl, rfl, rfl⟩
theorem ok_X8_hasFault : mOK M_X8_hasFault := mOKi 1071 (by decide +kernel) (by decide +kernel) rfl (by decide +kernel)
def M_X8_fault : MI := (yX8_fault, cX8_fault, 2, (Option.some FieldType.int), 8, 5)
theorem I_X8_fault : miB M_X8_fault = cX8_fault ∧ miL M_X8_fault = 2 ∧ miR M_X8_fault = (Option.some FieldType.int) ∧ miC M_X8_fault = 8 ∧ miV M_X8_fault = 5 := ⟨rfl, rfl, rfl, rfl, rfl⟩
theorem ok_X8_fault : mOK M_X8_fault := mOKi 1067 (by decide +kernel) (by decide +kernel) rfl (by decide +kernel)
def M_X8_enter : MI := (yX8_enter, cX8_enter, 5, (Option.some FieldType.int), 8, 5)
theorem I_X8_enter : miB M_X8_enter = cX8_enter ∧ miL M_X8_enter = 5 ∧ miR M_X8_enter = (Option.some FieldType.int) ∧ miC M_X8_enter = 8 ∧ miV M_X8_enter = 5 := ⟨rfl, rfl, rfl, rfl, rfl⟩
theorem ok_X8_enter : mOK M_X8_enter := mOKi 1120 (by decide +kernel) (by decide +kernel) rfl (by decide +kernel)
def nestL : List Cond := [.methodLinkNest RX4 11 yX6_init RX7, .methodLinkNest RX5 21 yX1_init RX7, .methodLinkNest RX4 27 yX3_init RX7, .methodLinkNest RX7 28 yX2_init RX7, .methodLinkNest RX7 35 yX1_init RX7, .methodLinkNest RX6 27 yX7_isBelow RX7, .methodLinkNest RX1 58 yX7_isWithin RX7, .methodLinkNest RX3 37 yX7_isBelow RX7, .methodLinkNest RX2 19 yX7_isBelow RX7]
def callOK (c i kd n cl lv : Nat) (M : MI) : Prop := mOK M ∧ (parseMethodDescriptor (miN M).desc).map (fun d => d.parameters.length) = some n ∧ Cond.initialized (miN M).cls ∈ UW ∧ ((miN M).cls ≠ "java/lang/invoke/MethodHandle" ∧ (miN M).cls ≠ "java/lang/invoke/VarHandle") ∧ miC M = cl ∧ miV M = lv ∧ (match kd with
  | 0 => Cond.methodLink (RXs c) i (miN M) ∈ UW ∧ Cond.instanceMethod (miN M) ∈ UW ∧ Cond.selects (miN M).cls (miN M) (miN M) ∈ UW
  | 1 => Cond.methodLink (RXs c) i (miN M) ∈ UW ∧ Cond.static (miN M) ∈ UW
  | 2 => Cond.methodLink (RXs c) i (miN M) ∈ UW ∧ Cond.instanceMethod (miN M) ∈ UW ∧ (miN M).name = "<init>" ∧ miR M = none
  | 3 => Cond.methodLinkNest (RXs c) i (miN M) RX7 ∈ nestL ∧ Cond.static (miN M) ∈ UW
  | _ => Cond.methodLinkNest (RXs c) i (miN M) RX7 ∈ nestL ∧ Cond.instanceMethod (miN M) ∈ UW ∧ (miN M).name = "<init>" ∧ miR M = none)
theorem ca_0_17 : callOK 0 17 2 0 4 3 M_X4_init := ⟨ok_X4_init, by decide +kernel, uw 45 (by decide +kernel) rfl, by decide +kernel, rfl, rfl, ⟨uw 266 (by decide +kernel) rfl, uw 70 (by decide +kernel) rfl, rfl, rfl⟩⟩
theorem ca_0_22 : callOK 0 22 0 0 0 0 M_X0_dropOldest := ⟨ok_X0_dropOldest, by decide +kernel, uw 51 (by decide +kernel) rfl, by decide +kernel, rfl, rfl, ⟨uw 341 (by decide +kernel) rfl, uw 342 (by decide +kernel) rfl, uw 343 (by decide +kernel) rfl⟩⟩
theorem ca_0_25 : callOK 0 25 0 1 4 2 M_X4_copyFrom := ⟨ok_X4_copyFrom, by decide +kernel, uw 45 (by decide +kernel) rfl, by decide +kernel, rfl, rfl, ⟨uw 345 (by decide +kernel) rfl, uw 346 (by decide +kernel) rfl, uw 347 (by decide +kernel) rfl⟩⟩
theorem ca_1_58 : callOK 1 58 3 3 7 0 M_X7_isWithin := ⟨ok_X7_isWithin, by decide +kernel, uw 44 (by decide +kernel) rfl, by decide +kernel, rfl, rfl, ⟨List.mem_of_getElem? (i := 6) rfl, uw 335 (by decide +kernel) rfl⟩⟩
theorem ca_1_62 : callOK 1 62 0 0 1 0 M_X1_nextSheet := ⟨ok_X1_nextSheet, by decide +kernel, uw 48 (by decide +kernel) rfl, by decide +kernel, rfl, rfl, ⟨uw 474 (by decide +kernel) rfl, uw 475 (by decide +kernel) rfl, uw 476 (by decide +kernel) rfl⟩⟩
theorem ca_1_66 : callOK 1 66 0 0 1 0 M_X1_nextCopy := ⟨ok_X1_nextCopy, by decide +kernel, uw 48 (by decide +kernel) rfl, by decide +kernel, rfl, rfl, ⟨uw 478 (by decide +kernel) rfl, uw 479 (by decide +kernel) rfl, uw 480 (by decide +kernel) rfl⟩⟩
theorem ca_2_19 : callOK 2 19 3 2 7 0 M_X7_isBelow := ⟨ok_X7_isBelow, by decide +kernel, uw 44 (by decide +kernel) rfl, by decide +kernel, rfl, rfl, ⟨List.mem_of_getElem? (i := 8) rfl, uw 332 (by decide +kernel) rfl⟩⟩
theorem ca_2_33 : callOK 2 33 0 0 5 0 M_X5_room := ⟨ok_X5_room, by decide +kernel, uw 47 (by decide +kernel) rfl, by decide +kernel, rfl, rfl, ⟨uw 662 (by decide +kernel) rfl, uw 421 (by decide +kernel) rfl, uw 422 (by decide +kernel) rfl⟩⟩
theorem ca_2_51 : callOK 2 51 0 3 2 8 M_X2_reasonOfNext := ⟨ok_X2_reasonOfNext, by decide +kernel, uw 52 (by decide +kernel) rfl, by decide +kernel, rfl, rfl, ⟨uw 663 (by decide +kernel) rfl, uw 664 (by decide +kernel) rfl, uw 665 (by decide +kernel) rfl⟩⟩
theorem ca_2_55 : callOK 2 55 0 1 2 7 M_X2_readJob := ⟨ok_X2_readJob, by decide +kernel, uw 52 (by decide +kernel) rfl, by decide +kernel, rfl, rfl, ⟨uw 667 (by decide +kernel) rfl, uw 668 (by decide +kernel) rfl, uw 669 (by decide +kernel) rfl⟩⟩
theorem ca_2_59 : callOK 2 59 0 0 1 1 M_X1_isInRange := ⟨ok_X1_isInRange, by decide +kernel, uw 48 (by decide +kernel) rfl, by decide +kernel, rfl, rfl, ⟨uw 764 (by decide +kernel) rfl, uw 412 (by decide +kernel) rfl, uw 413 (by decide +kernel) rfl⟩⟩
theorem ca_2_65 : callOK 2 65 0 1 1 0 M_X1_staplingRefusal := ⟨ok_X1_staplingRefusal, by decide +kernel, uw 48 (by decide +kernel) rfl, by decide +kernel, rfl, rfl, ⟨uw 765 (by decide +kernel) rfl, uw 417 (by decide +kernel) rfl, uw 418 (by decide +kernel) rfl⟩⟩
theorem ca_2_71 : callOK 2 71 0 1 2 6 M_X2_readNumber := ⟨ok_X2_readNumber, by decide +kernel, uw 52 (by decide +kernel) rfl, by decide +kernel, rfl, rfl, ⟨uw 672 (by decide +kernel) rfl, uw 673 (by decide +kernel) rfl, uw 674 (by decide +kernel) rfl⟩⟩
theorem ca_2_77 : callOK 2 77 0 0 2 6 M_X2_readHow := ⟨ok_X2_readHow, by decide +kernel, uw 52 (by decide +kernel) rfl, by decide +kernel, rfl, rfl, ⟨uw 733 (by decide +kernel) rfl, uw 734 (by decide +kernel) rfl, uw 735 (by decide +kernel) rfl⟩⟩
theorem ca_2_80 : callOK 2 80 0 0 2 6 M_X2_readSize := ⟨ok_X2_readSize, by decide +kernel, uw 52 (by decide +kernel) rfl, by decide +kernel, rfl, rfl, ⟨uw 741 (by decide +kernel) rfl, uw 742 (by decide +kernel) rfl, uw 743 (by decide +kernel) rfl⟩⟩
theorem ca_2_83 : callOK 2 83 0 0 2 6 M_X2_readKind := ⟨ok_X2_readKind, by decide +kernel, uw 52 (by decide +kernel) rfl, by decide +kernel, rfl, rfl, ⟨uw 752 (by decide +kernel) rfl, uw 753 (by decide +kernel) rfl, uw 754 (by decide +kernel) rfl⟩⟩
theorem ca_2_86 : callOK 2 86 0 5 1 0 M_X1_describe := ⟨ok_X1_describe, by decide +kernel, uw 48 (by decide +kernel) rfl, by decide +kernel, rfl, rfl, ⟨uw 763 (by decide +kernel) rfl, uw 408 (by decide +kernel) rfl, uw 409 (by decide +kernel) rfl⟩⟩
theorem ca_2_90 : callOK 2 90 0 0 2 0 M_X2_digitAtPlace := ⟨ok_X2_digitAtPlace, by decide +kernel, uw 52 (by decide +kernel) rfl, by decide +kernel, rfl, rfl, ⟨uw 676 (by decide +kernel) rfl, uw 677 (by decide +kernel) rfl, uw 678 (by decide +kernel) rfl⟩⟩
theorem ca_2_93 : callOK 2 93 0 1 2 5 M_X2_skips := ⟨ok_X2_skips, by decide +kernel, uw 52 (by decide +kernel) rfl, by decide +kernel, rfl, rfl, ⟨uw 680 (by decide +kernel) rfl, uw 681 (by decide +kernel) rfl, uw 682 (by decide +kernel) rfl⟩⟩
theorem ca_2_105 : callOK 2 105 1 1 2 0 M_X2_sizeWord := ⟨ok_X2_sizeWord, by decide +kernel, uw 52 (by decide +kernel) rfl, by decide +kernel, rfl, rfl, ⟨uw 745 (by decide +kernel) rfl, uw 746 (by decide +kernel) rfl⟩⟩
theorem ca_2_109 : callOK 2 109 1 1 2 0 M_X2_kindWord := ⟨ok_X2_kindWord, by decide +kernel, uw 52 (by decide +kernel) rfl, by decide +kernel, rfl, rfl, ⟨uw 756 (by decide +kernel) rfl, uw 757 (by decide +kernel) rfl⟩⟩
theorem ca_3_37 : callOK 3 37 3 2 7 0 M_X7_isBelow := ⟨ok_X7_isBelow, by decide +kernel, uw 44 (by decide +kernel) rfl, by decide +kernel, rfl, rfl, ⟨List.mem_of_getElem? (i := 7) rfl, uw 332 (by decide +kernel) rfl⟩⟩
theorem ca_3_41 : callOK 3 41 0 2 3 1 M_X3_add := ⟨ok_X3_add, by decide +kernel, uw 49 (by decide +kernel) rfl, by decide +kernel, rfl, rfl, ⟨uw 560 (by decide +kernel) rfl, uw 449 (by decide +kernel) rfl, uw 450 (by decide +kernel) rfl⟩⟩
theorem ca_4_11 : callOK 4 11 4 0 6 1 M_X6_init := ⟨ok_X6_init, by decide +kernel, uw 46 (by decide +kernel) rfl, by decide +kernel, rfl, rfl, ⟨List.mem_of_getElem? (i := 0) rfl, uw 76 (by decide +kernel) rfl, rfl, rfl⟩⟩
theorem ca_4_20 : callOK 4 20 2 0 5 2 M_X5_init := ⟨ok_X5_init, by decide +kernel, uw 47 (by decide +kernel) rfl, by decide +kernel, rfl, rfl, ⟨uw 95 (by decide +kernel) rfl, uw 96 (by decide +kernel) rfl, rfl, rfl⟩⟩
theorem ca_4_27 : callOK 4 27 4 0 3 1 M_X3_init := ⟨ok_X3_init, by decide +kernel, uw 49 (by decide +kernel) rfl, by decide +kernel, rfl, rfl, ⟨List.mem_of_getElem? (i := 2) rfl, uw 186 (by decide +kernel) rfl, rfl, rfl⟩⟩
theorem ca_4_52 : callOK 4 52 0 1 6 1 M_X6_copyFrom := ⟨ok_X6_copyFrom, by decide +kernel, uw 46 (by decide +kernel) rfl, by decide +kernel, rfl, rfl, ⟨uw 349 (by decide +kernel) rfl, uw 350 (by decide +kernel) rfl, uw 351 (by decide +kernel) rfl⟩⟩
theorem ca_4_56 : callOK 4 56 0 1 5 1 M_X5_copyFrom := ⟨ok_X5_copyFrom, by decide +kernel, uw 47 (by decide +kernel) rfl, by decide +kernel, rfl, rfl, ⟨uw 354 (by decide +kernel) rfl, uw 355 (by decide +kernel) rfl, uw 356 (by decide +kernel) rfl⟩⟩
theorem ca_4_59 : callOK 4 59 0 1 3 1 M_X3_copyFrom := ⟨ok_X3_copyFrom, by decide +kernel, uw 49 (by decide +kernel) rfl, by decide +kernel, rfl, rfl, ⟨uw 362 (by decide +kernel) rfl, uw 363 (by decide +kernel) rfl, uw 364 (by decide +kernel) rfl⟩⟩
theorem ca_4_71 : callOK 4 71 0 0 4 5 M_X4_findWork := ⟨ok_X4_findWork, by decide +kernel, uw 45 (by decide +kernel) rfl, by decide +kernel, rfl, rfl, ⟨uw 507 (by decide +kernel) rfl, uw 508 (by decide +kernel) rfl, uw 509 (by decide +kernel) rfl⟩⟩
theorem ca_4_75 : callOK 4 75 0 1 4 5 M_X4_goOnWorking := ⟨ok_X4_goOnWorking, by decide +kernel, uw 45 (by decide +kernel) rfl, by decide +kernel, rfl, rfl, ⟨uw 565 (by decide +kernel) rfl, uw 566 (by decide +kernel) rfl, uw 567 (by decide +kernel) rfl⟩⟩
theorem ca_4_79 : callOK 4 79 0 2 3 1 M_X3_add := ⟨ok_X3_add, by decide +kernel, uw 49 (by decide +kernel) rfl, by decide +kernel, rfl, rfl, ⟨uw 448 (by decide +kernel) rfl, uw 449 (by decide +kernel) rfl, uw 450 (by decide +kernel) rfl⟩⟩
theorem ca_4_83 : callOK 4 83 0 1 5 0 M_X5_find := ⟨ok_X5_find, by decide +kernel, uw 47 (by decide +kernel) rfl, by decide +kernel, rfl, rfl, ⟨uw 573 (by decide +kernel) rfl, uw 437 (by decide +kernel) rfl, uw 438 (by decide +kernel) rfl⟩⟩
theorem ca_4_87 : callOK 4 87 0 0 5 1 M_X5_next := ⟨ok_X5_next, by decide +kernel, uw 47 (by decide +kernel) rfl, by decide +kernel, rfl, rfl, ⟨uw 511 (by decide +kernel) rfl, uw 512 (by decide +kernel) rfl, uw 513 (by decide +kernel) rfl⟩⟩
theorem ca_4_91 : callOK 4 91 0 1 4 1 M_X4_stopReason := ⟨ok_X4_stopReason, by decide +kernel, uw 45 (by decide +kernel) rfl, by decide +kernel, rfl, rfl, ⟨uw 515 (by decide +kernel) rfl, uw 516 (by decide +kernel) rfl, uw 517 (by decide +kernel) rfl⟩⟩
theorem ca_4_95 : callOK 4 95 0 0 1 0 M_X1_hasSetToStaple := ⟨ok_X1_hasSetToStaple, by decide +kernel, uw 48 (by decide +kernel) rfl, by decide +kernel, rfl, rfl, ⟨uw 519 (by decide +kernel) rfl, uw 520 (by decide +kernel) rfl, uw 521 (by decide +kernel) rfl⟩⟩
theorem ca_4_101 : callOK 4 101 0 1 4 4 M_X4_beginStapling := ⟨ok_X4_beginStapling, by decide +kernel, uw 45 (by decide +kernel) rfl, by decide +kernel, rfl, rfl, ⟨uw 527 (by decide +kernel) rfl, uw 528 (by decide +kernel) rfl, uw 529 (by decide +kernel) rfl⟩⟩
theorem ca_4_105 : callOK 4 105 0 1 4 3 M_X4_beginSheet := ⟨ok_X4_beginSheet, by decide +kernel, uw 45 (by decide +kernel) rfl, by decide +kernel, rfl, rfl, ⟨uw 547 (by decide +kernel) rfl, uw 548 (by decide +kernel) rfl, uw 549 (by decide +kernel) rfl⟩⟩
theorem ca_4_117 : callOK 4 117 0 2 6 0 M_X6_lowestWith := ⟨ok_X6_lowestWith, by decide +kernel, uw 46 (by decide +kernel) rfl, by decide +kernel, rfl, rfl, ⟨uw 523 (by decide +kernel) rfl, uw 524 (by decide +kernel) rfl, uw 525 (by decide +kernel) rfl⟩⟩
theorem ca_4_121 : callOK 4 121 0 2 6 1 M_X6_takeSheet := ⟨ok_X6_takeSheet, by decide +kernel, uw 46 (by decide +kernel) rfl, by decide +kernel, rfl, rfl, ⟨uw 551 (by decide +kernel) rfl, uw 552 (by decide +kernel) rfl, uw 553 (by decide +kernel) rfl⟩⟩
theorem ca_4_124 : callOK 4 124 0 2 3 2 M_X3_addTakenSheet := ⟨ok_X3_addTakenSheet, by decide +kernel, uw 49 (by decide +kernel) rfl, by decide +kernel, rfl, rfl, ⟨uw 556 (by decide +kernel) rfl, uw 557 (by decide +kernel) rfl, uw 558 (by decide +kernel) rfl⟩⟩
theorem ca_4_133 : callOK 4 133 0 0 1 1 M_X1_sidesOfNextSheet := ⟨ok_X1_sidesOfNextSheet, by decide +kernel, uw 48 (by decide +kernel) rfl, by decide +kernel, rfl, rfl, ⟨uw 561 (by decide +kernel) rfl, uw 562 (by decide +kernel) rfl, uw 563 (by decide +kernel) rfl⟩⟩
theorem ca_4_136 : callOK 4 136 0 1 4 3 M_X4_finishStapling := ⟨ok_X4_finishStapling, by decide +kernel, uw 45 (by decide +kernel) rfl, by decide +kernel, rfl, rfl, ⟨uw 531 (by decide +kernel) rfl, uw 532 (by decide +kernel) rfl, uw 533 (by decide +kernel) rfl⟩⟩
theorem ca_4_144 : callOK 4 144 0 0 4 4 M_X4_finishWork := ⟨ok_X4_finishWork, by decide +kernel, uw 45 (by decide +kernel) rfl, by decide +kernel, rfl, rfl, ⟨uw 569 (by decide +kernel) rfl, uw 570 (by decide +kernel) rfl, uw 571 (by decide +kernel) rfl⟩⟩
theorem ca_4_147 : callOK 4 147 0 1 4 3 M_X4_finishSheet := ⟨ok_X4_finishSheet, by decide +kernel, uw 45 (by decide +kernel) rfl, by decide +kernel, rfl, rfl, ⟨uw 574 (by decide +kernel) rfl, uw 575 (by decide +kernel) rfl, uw 576 (by decide +kernel) rfl⟩⟩
theorem ca_4_156 : callOK 4 156 0 1 4 2 M_X4_removeIfFinished := ⟨ok_X4_removeIfFinished, by decide +kernel, uw 45 (by decide +kernel) rfl, by decide +kernel, rfl, rfl, ⟨uw 538 (by decide +kernel) rfl, uw 539 (by decide +kernel) rfl, uw 540 (by decide +kernel) rfl⟩⟩
theorem ca_4_162 : callOK 4 162 0 0 1 0 M_X1_isFinished := ⟨ok_X1_isFinished, by decide +kernel, uw 48 (by decide +kernel) rfl, by decide +kernel, rfl, rfl, ⟨uw 542 (by decide +kernel) rfl, uw 543 (by decide +kernel) rfl, uw 544 (by decide +kernel) rfl⟩⟩
theorem ca_4_165 : callOK 4 165 0 1 5 0 M_X5_remove := ⟨ok_X5_remove, by decide +kernel, uw 47 (by decide +kernel) rfl, by decide +kernel, rfl, rfl, ⟨uw 546 (by decide +kernel) rfl, uw 458 (by decide +kernel) rfl, uw 459 (by decide +kernel) rfl⟩⟩
theorem ca_4_168 : callOK 4 168 0 1 4 2 M_X4_giveUpWorkOf := ⟨ok_X4_giveUpWorkOf, by decide +kernel, uw 45 (by decide +kernel) rfl, by decide +kernel, rfl, rfl, ⟨uw 444 (by decide +kernel) rfl, uw 445 (by decide +kernel) rfl, uw 446 (by decide +kernel) rfl⟩⟩
theorem ca_4_172 : callOK 4 172 0 2 5 1 M_X5_sheetsToPrint := ⟨ok_X5_sheetsToPrint, by decide +kernel, uw 47 (by decide +kernel) rfl, by decide +kernel, rfl, rfl, ⟨uw 612 (by decide +kernel) rfl, uw 613 (by decide +kernel) rfl, uw 614 (by decide +kernel) rfl⟩⟩
theorem ca_4_175 : callOK 4 175 0 2 6 0 M_X6_sheetsOf := ⟨ok_X6_sheetsOf, by decide +kernel, uw 46 (by decide +kernel) rfl, by decide +kernel, rfl, rfl, ⟨uw 620 (by decide +kernel) rfl, uw 384 (by decide +kernel) rfl, uw 385 (by decide +kernel) rfl⟩⟩
theorem ca_4_178 : callOK 4 178 0 2 1 0 M_X1_isOn := ⟨ok_X1_isOn, by decide +kernel, uw 48 (by decide +kernel) rfl, by decide +kernel, rfl, rfl, ⟨uw 621 (by decide +kernel) rfl, uw 617 (by decide +kernel) rfl, uw 618 (by decide +kernel) rfl⟩⟩
theorem ca_5_21 : callOK 5 21 4 0 1 1 M_X1_init := ⟨ok_X1_init, by decide +kernel, uw 48 (by decide +kernel) rfl, by decide +kernel, rfl, rfl, ⟨List.mem_of_getElem? (i := 1) rfl, uw 103 (by decide +kernel) rfl, rfl, rfl⟩⟩
theorem ca_5_28 : callOK 5 28 0 1 1 0 M_X1_copyFrom := ⟨ok_X1_copyFrom, by decide +kernel, uw 48 (by decide +kernel) rfl, by decide +kernel, rfl, rfl, ⟨uw 358 (by decide +kernel) rfl, uw 359 (by decide +kernel) rfl, uw 360 (by decide +kernel) rfl⟩⟩
theorem ca_5_42 : callOK 5 42 0 2 5 0 M_X5_isAhead := ⟨ok_X5_isAhead, by decide +kernel, uw 47 (by decide +kernel) rfl, by decide +kernel, rfl, rfl, ⟨uw 494 (by decide +kernel) rfl, uw 495 (by decide +kernel) rfl, uw 496 (by decide +kernel) rfl⟩⟩
theorem ca_5_46 : callOK 5 46 0 1 5 1 M_X5_jobsAheadOf := ⟨ok_X5_jobsAheadOf, by decide +kernel, uw 47 (by decide +kernel) rfl, by decide +kernel, rfl, rfl, ⟨uw 490 (by decide +kernel) rfl, uw 491 (by decide +kernel) rfl, uw 492 (by decide +kernel) rfl⟩⟩
theorem ca_5_50 : callOK 5 50 0 2 1 0 M_X1_isOn := ⟨ok_X1_isOn, by decide +kernel, uw 48 (by decide +kernel) rfl, by decide +kernel, rfl, rfl, ⟨uw 616 (by decide +kernel) rfl, uw 617 (by decide +kernel) rfl, uw 618 (by decide +kernel) rfl⟩⟩
theorem ca_6_27 : callOK 6 27 3 2 7 0 M_X7_isBelow := ⟨ok_X7_isBelow, by decide +kernel, uw 44 (by decide +kernel) rfl, by decide +kernel, rfl, rfl, ⟨List.mem_of_getElem? (i := 5) rfl, uw 332 (by decide +kernel) rfl⟩⟩
theorem ca_6_31 : callOK 6 31 0 2 6 0 M_X6_lowestWith := ⟨ok_X6_lowestWith, by decide +kernel, uw 46 (by decide +kernel) rfl, by decide +kernel, rfl, rfl, ⟨uw 555 (by decide +kernel) rfl, uw 524 (by decide +kernel) rfl, uw 525 (by decide +kernel) rfl⟩⟩
theorem ca_7_11 : callOK 7 11 2 0 4 3 M_X4_init := ⟨ok_X4_init, by decide +kernel, uw 45 (by decide +kernel) rfl, by decide +kernel, rfl, rfl, ⟨uw 69 (by decide +kernel) rfl, uw 70 (by decide +kernel) rfl, rfl, rfl⟩⟩
theorem ca_7_21 : callOK 7 21 2 0 0 4 M_X0_init := ⟨ok_X0_init, by decide +kernel, uw 51 (by decide +kernel) rfl, by decide +kernel, rfl, rfl, ⟨uw 260 (by decide +kernel) rfl, uw 261 (by decide +kernel) rfl, rfl, rfl⟩⟩
theorem ca_7_28 : callOK 7 28 4 0 2 1 M_X2_init := ⟨ok_X2_init, by decide +kernel, uw 52 (by decide +kernel) rfl, by decide +kernel, rfl, rfl, ⟨List.mem_of_getElem? (i := 3) rfl, uw 278 (by decide +kernel) rfl, rfl, rfl⟩⟩
theorem ca_7_35 : callOK 7 35 4 0 1 1 M_X1_init := ⟨ok_X1_init, by decide +kernel, uw 48 (by decide +kernel) rfl, by decide +kernel, rfl, rfl, ⟨List.mem_of_getElem? (i := 4) rfl, uw 103 (by decide +kernel) rfl, rfl, rfl⟩⟩
theorem ca_7_40 : callOK 7 40 1 2 7 0 M_X7_isBelow := ⟨ok_X7_isBelow, by decide +kernel, uw 44 (by decide +kernel) rfl, by decide +kernel, rfl, rfl, ⟨uw 331 (by decide +kernel) rfl, uw 332 (by decide +kernel) rfl⟩⟩
theorem ca_7_44 : callOK 7 44 1 3 7 0 M_X7_isWithin := ⟨ok_X7_isWithin, by decide +kernel, uw 44 (by decide +kernel) rfl, by decide +kernel, rfl, rfl, ⟨uw 334 (by decide +kernel) rfl, uw 335 (by decide +kernel) rfl⟩⟩
theorem ca_7_58 : callOK 7 58 0 1 0 3 M_X0_keep := ⟨ok_X0_keep, by decide +kernel, uw 51 (by decide +kernel) rfl, by decide +kernel, rfl, rfl, ⟨uw 337 (by decide +kernel) rfl, uw 338 (by decide +kernel) rfl, uw 339 (by decide +kernel) rfl⟩⟩
theorem ca_7_62 : callOK 7 62 1 2 7 1 M_X7_isPaper := ⟨ok_X7_isPaper, by decide +kernel, uw 44 (by decide +kernel) rfl, by decide +kernel, rfl, rfl, ⟨uw 371 (by decide +kernel) rfl, uw 372 (by decide +kernel) rfl⟩⟩
theorem ca_7_65 : callOK 7 65 0 3 6 1 M_X6_change := ⟨ok_X6_change, by decide +kernel, uw 46 (by decide +kernel) rfl, by decide +kernel, rfl, rfl, ⟨uw 374 (by decide +kernel) rfl, uw 375 (by decide +kernel) rfl, uw 376 (by decide +kernel) rfl⟩⟩
theorem ca_7_75 : callOK 7 75 0 2 6 0 M_X6_sheetsOf := ⟨ok_X6_sheetsOf, by decide +kernel, uw 46 (by decide +kernel) rfl, by decide +kernel, rfl, rfl, ⟨uw 383 (by decide +kernel) rfl, uw 384 (by decide +kernel) rfl, uw 385 (by decide +kernel) rfl⟩⟩
theorem ca_7_95 : callOK 7 95 0 5 1 0 M_X1_describe := ⟨ok_X1_describe, by decide +kernel, uw 48 (by decide +kernel) rfl, by decide +kernel, rfl, rfl, ⟨uw 407 (by decide +kernel) rfl, uw 408 (by decide +kernel) rfl, uw 409 (by decide +kernel) rfl⟩⟩
theorem ca_7_99 : callOK 7 99 0 0 1 1 M_X1_isInRange := ⟨ok_X1_isInRange, by decide +kernel, uw 48 (by decide +kernel) rfl, by decide +kernel, rfl, rfl, ⟨uw 411 (by decide +kernel) rfl, uw 412 (by decide +kernel) rfl, uw 413 (by decide +kernel) rfl⟩⟩
theorem ca_7_103 : callOK 7 103 0 1 1 0 M_X1_staplingRefusal := ⟨ok_X1_staplingRefusal, by decide +kernel, uw 48 (by decide +kernel) rfl, by decide +kernel, rfl, rfl, ⟨uw 416 (by decide +kernel) rfl, uw 417 (by decide +kernel) rfl, uw 418 (by decide +kernel) rfl⟩⟩
theorem ca_7_114 : callOK 7 114 0 0 5 0 M_X5_room := ⟨ok_X5_room, by decide +kernel, uw 47 (by decide +kernel) rfl, by decide +kernel, rfl, rfl, ⟨uw 420 (by decide +kernel) rfl, uw 421 (by decide +kernel) rfl, uw 422 (by decide +kernel) rfl⟩⟩
theorem ca_7_120 : callOK 7 120 0 1 5 1 M_X5_append := ⟨ok_X5_append, by decide +kernel, uw 47 (by decide +kernel) rfl, by decide +kernel, rfl, rfl, ⟨uw 424 (by decide +kernel) rfl, uw 425 (by decide +kernel) rfl, uw 426 (by decide +kernel) rfl⟩⟩
theorem ca_7_124 : callOK 7 124 0 1 5 0 M_X5_find := ⟨ok_X5_find, by decide +kernel, uw 47 (by decide +kernel) rfl, by decide +kernel, rfl, rfl, ⟨uw 436 (by decide +kernel) rfl, uw 437 (by decide +kernel) rfl, uw 438 (by decide +kernel) rfl⟩⟩
theorem ca_7_132 : callOK 7 132 0 1 4 3 M_X4_interrupt := ⟨ok_X4_interrupt, by decide +kernel, uw 45 (by decide +kernel) rfl, by decide +kernel, rfl, rfl, ⟨uw 440 (by decide +kernel) rfl, uw 441 (by decide +kernel) rfl, uw 442 (by decide +kernel) rfl⟩⟩
theorem ca_7_139 : callOK 7 139 0 1 5 0 M_X5_remove := ⟨ok_X5_remove, by decide +kernel, uw 47 (by decide +kernel) rfl, by decide +kernel, rfl, rfl, ⟨uw 457 (by decide +kernel) rfl, uw 458 (by decide +kernel) rfl, uw 459 (by decide +kernel) rfl⟩⟩
theorem ca_7_146 : callOK 7 146 0 2 3 1 M_X3_add := ⟨ok_X3_add, by decide +kernel, uw 49 (by decide +kernel) rfl, by decide +kernel, rfl, rfl, ⟨uw 461 (by decide +kernel) rfl, uw 449 (by decide +kernel) rfl, uw 450 (by decide +kernel) rfl⟩⟩
theorem ca_7_155 : callOK 7 155 0 1 1 1 M_X1_property := ⟨ok_X1_property, by decide +kernel, uw 48 (by decide +kernel) rfl, by decide +kernel, rfl, rfl, ⟨uw 470 (by decide +kernel) rfl, uw 471 (by decide +kernel) rfl, uw 472 (by decide +kernel) rfl⟩⟩
theorem ca_7_158 : callOK 7 158 0 1 5 2 M_X5_at := ⟨ok_X5_at, by decide +kernel, uw 47 (by decide +kernel) rfl, by decide +kernel, rfl, rfl, ⟨uw 486 (by decide +kernel) rfl, uw 487 (by decide +kernel) rfl, uw 488 (by decide +kernel) rfl⟩⟩
theorem ca_7_168 : callOK 7 168 0 1 4 6 M_X4_letGoBy := ⟨ok_X4_letGoBy, by decide +kernel, uw 45 (by decide +kernel) rfl, by decide +kernel, rfl, rfl, ⟨uw 503 (by decide +kernel) rfl, uw 504 (by decide +kernel) rfl, uw 505 (by decide +kernel) rfl⟩⟩
theorem ca_7_172 : callOK 7 172 0 1 4 2 M_X4_copyFrom := ⟨ok_X4_copyFrom, by decide +kernel, uw 45 (by decide +kernel) rfl, by decide +kernel, rfl, rfl, ⟨uw 582 (by decide +kernel) rfl, uw 346 (by decide +kernel) rfl, uw 347 (by decide +kernel) rfl⟩⟩
theorem ca_7_175 : callOK 7 175 0 0 4 5 M_X4_findWork := ⟨ok_X4_findWork, by decide +kernel, uw 45 (by decide +kernel) rfl, by decide +kernel, rfl, rfl, ⟨uw 583 (by decide +kernel) rfl, uw 508 (by decide +kernel) rfl, uw 509 (by decide +kernel) rfl⟩⟩
theorem ca_7_181 : callOK 7 181 0 0 5 0 M_X5_heldJobs := ⟨ok_X5_heldJobs, by decide +kernel, uw 47 (by decide +kernel) rfl, by decide +kernel, rfl, rfl, ⟨uw 588 (by decide +kernel) rfl, uw 589 (by decide +kernel) rfl, uw 590 (by decide +kernel) rfl⟩⟩
theorem ca_7_205 : callOK 7 205 0 1 7 1 M_X7_settingAt := ⟨ok_X7_settingAt, by decide +kernel, uw 44 (by decide +kernel) rfl, by decide +kernel, rfl, rfl, ⟨uw 592 (by decide +kernel) rfl, uw 594 (by decide +kernel) rfl, uw 0 (by decide +kernel) rfl⟩⟩
theorem ca_7_217 : callOK 7 217 0 2 4 2 M_X4_lackingSheets := ⟨ok_X4_lackingSheets, by decide +kernel, uw 45 (by decide +kernel) rfl, by decide +kernel, rfl, rfl, ⟨uw 608 (by decide +kernel) rfl, uw 609 (by decide +kernel) rfl, uw 610 (by decide +kernel) rfl⟩⟩
theorem ca_7_220 : callOK 7 220 0 1 4 6 M_X4_ticksUntilGone := ⟨ok_X4_ticksUntilGone, by decide +kernel, uw 45 (by decide +kernel) rfl, by decide +kernel, rfl, rfl, ⟨uw 629 (by decide +kernel) rfl, uw 630 (by decide +kernel) rfl, uw 631 (by decide +kernel) rfl⟩⟩
theorem ca_7_223 : callOK 7 223 0 1 0 3 M_X0_restore := ⟨ok_X0_restore, by decide +kernel, uw 51 (by decide +kernel) rfl, by decide +kernel, rfl, rfl, ⟨uw 637 (by decide +kernel) rfl, uw 638 (by decide +kernel) rfl, uw 639 (by decide +kernel) rfl⟩⟩
theorem ca_7_227 : callOK 7 227 0 1 2 1 M_X2_append := ⟨ok_X2_append, by decide +kernel, uw 52 (by decide +kernel) rfl, by decide +kernel, rfl, rfl, ⟨uw 645 (by decide +kernel) rfl, uw 646 (by decide +kernel) rfl, uw 647 (by decide +kernel) rfl⟩⟩
theorem ca_7_230 : callOK 7 230 0 2 2 9 M_X2_examine := ⟨ok_X2_examine, by decide +kernel, uw 52 (by decide +kernel) rfl, by decide +kernel, rfl, rfl, ⟨uw 658 (by decide +kernel) rfl, uw 659 (by decide +kernel) rfl, uw 660 (by decide +kernel) rfl⟩⟩
theorem ca_7_246 : callOK 7 246 0 1 2 7 M_X2_readJob := ⟨ok_X2_readJob, by decide +kernel, uw 52 (by decide +kernel) rfl, by decide +kernel, rfl, rfl, ⟨uw 771 (by decide +kernel) rfl, uw 668 (by decide +kernel) rfl, uw 669 (by decide +kernel) rfl⟩⟩
theorem ca_8_32 : callOK 8 32 1 3 8 0 M_X8_in := ⟨ok_X8_in, by decide +kernel, uw 53 (by decide +kernel) rfl, by decide +kernel, rfl, rfl, ⟨uw 826 (by decide +kernel) rfl, uw 827 (by decide +kernel) rfl⟩⟩
theorem ca_8_36 : callOK 8 36 1 1 8 1 M_X8_isTray := ⟨ok_X8_isTray, by decide +kernel, uw 53 (by decide +kernel) rfl, by decide +kernel, rfl, rfl, ⟨uw 823 (by decide +kernel) rfl, uw 824 (by decide +kernel) rfl⟩⟩
theorem ca_8_40 : callOK 8 40 0 0 8 0 M_X8_records := ⟨ok_X8_records, by decide +kernel, uw 53 (by decide +kernel) rfl, by decide +kernel, rfl, rfl, ⟨uw 829 (by decide +kernel) rfl, uw 831 (by decide +kernel) rfl, uw 1 (by decide +kernel) rfl⟩⟩
theorem ca_8_43 : callOK 8 43 1 2 8 1 M_X8_isPaper := ⟨ok_X8_isPaper, by decide +kernel, uw 53 (by decide +kernel) rfl, by decide +kernel, rfl, rfl, ⟨uw 837 (by decide +kernel) rfl, uw 838 (by decide +kernel) rfl⟩⟩
theorem ca_8_47 : callOK 8 47 0 3 8 0 M_X8_isOf := ⟨ok_X8_isOf, by decide +kernel, uw 53 (by decide +kernel) rfl, by decide +kernel, rfl, rfl, ⟨uw 848 (by decide +kernel) rfl, uw 850 (by decide +kernel) rfl, uw 3 (by decide +kernel) rfl⟩⟩
theorem ca_8_50 : callOK 8 50 0 2 8 1 M_X8_sheetsOf := ⟨ok_X8_sheetsOf, by decide +kernel, uw 53 (by decide +kernel) rfl, by decide +kernel, rfl, rfl, ⟨uw 844 (by decide +kernel) rfl, uw 846 (by decide +kernel) rfl, uw 2 (by decide +kernel) rfl⟩⟩
theorem ca_8_54 : callOK 8 54 0 2 8 1 M_X8_puts := ⟨ok_X8_puts, by decide +kernel, uw 53 (by decide +kernel) rfl, by decide +kernel, rfl, rfl, ⟨uw 856 (by decide +kernel) rfl, uw 858 (by decide +kernel) rfl, uw 4 (by decide +kernel) rfl⟩⟩
theorem ca_8_57 : callOK 8 57 1 2 8 1 M_X8_isSetting := ⟨ok_X8_isSetting, by decide +kernel, uw 53 (by decide +kernel) rfl, by decide +kernel, rfl, rfl, ⟨uw 868 (by decide +kernel) rfl, uw 869 (by decide +kernel) rfl⟩⟩
theorem ca_8_60 : callOK 8 60 1 1 8 0 M_X8_jobAt := ⟨ok_X8_jobAt, by decide +kernel, uw 53 (by decide +kernel) rfl, by decide +kernel, rfl, rfl, ⟨uw 892 (by decide +kernel) rfl, uw 893 (by decide +kernel) rfl⟩⟩
theorem ca_8_64 : callOK 8 64 0 2 8 1 M_X8_of := ⟨ok_X8_of, by decide +kernel, uw 53 (by decide +kernel) rfl, by decide +kernel, rfl, rfl, ⟨uw 907 (by decide +kernel) rfl, uw 909 (by decide +kernel) rfl, uw 8 (by decide +kernel) rfl⟩⟩
theorem ca_8_67 : callOK 8 67 1 2 8 0 M_X8_setOf := ⟨ok_X8_setOf, by decide +kernel, uw 53 (by decide +kernel) rfl, by decide +kernel, rfl, rfl, ⟨uw 885 (by decide +kernel) rfl, uw 886 (by decide +kernel) rfl⟩⟩
theorem ca_8_70 : callOK 8 70 1 1 8 1 M_X8_isPages := ⟨ok_X8_isPages, by decide +kernel, uw 53 (by decide +kernel) rfl, by decide +kernel, rfl, rfl, ⟨uw 875 (by decide +kernel) rfl, uw 876 (by decide +kernel) rfl⟩⟩
theorem ca_8_73 : callOK 8 73 1 1 8 1 M_X8_isCopies := ⟨ok_X8_isCopies, by decide +kernel, uw 53 (by decide +kernel) rfl, by decide +kernel, rfl, rfl, ⟨uw 878 (by decide +kernel) rfl, uw 879 (by decide +kernel) rfl⟩⟩
theorem ca_8_76 : callOK 8 76 0 3 8 1 M_X8_whyNot := ⟨ok_X8_whyNot, by decide +kernel, uw 53 (by decide +kernel) rfl, by decide +kernel, rfl, rfl, ⟨uw 881 (by decide +kernel) rfl, uw 883 (by decide +kernel) rfl, uw 5 (by decide +kernel) rfl⟩⟩
theorem ca_8_80 : callOK 8 80 0 5 8 1 M_X8_comes := ⟨ok_X8_comes, by decide +kernel, uw 53 (by decide +kernel) rfl, by decide +kernel, rfl, rfl, ⟨uw 888 (by decide +kernel) rfl, uw 890 (by decide +kernel) rfl, uw 6 (by decide +kernel) rfl⟩⟩
theorem ca_8_84 : callOK 8 84 0 0 8 0 M_X8_endsWork := ⟨ok_X8_endsWork, by decide +kernel, uw 53 (by decide +kernel) rfl, by decide +kernel, rfl, rfl, ⟨uw 915 (by decide +kernel) rfl, uw 917 (by decide +kernel) rfl, uw 10 (by decide +kernel) rfl⟩⟩
theorem ca_8_87 : callOK 8 87 0 1 8 2 M_X8_placeOf := ⟨ok_X8_placeOf, by decide +kernel, uw 53 (by decide +kernel) rfl, by decide +kernel, rfl, rfl, ⟨uw 903 (by decide +kernel) rfl, uw 905 (by decide +kernel) rfl, uw 7 (by decide +kernel) rfl⟩⟩
theorem ca_8_90 : callOK 8 90 0 1 8 1 M_X8_givesUp := ⟨ok_X8_givesUp, by decide +kernel, uw 53 (by decide +kernel) rfl, by decide +kernel, rfl, rfl, ⟨uw 911 (by decide +kernel) rfl, uw 913 (by decide +kernel) rfl, uw 9 (by decide +kernel) rfl⟩⟩
theorem ca_8_94 : callOK 8 94 0 1 8 1 M_X8_goesJob := ⟨ok_X8_goesJob, by decide +kernel, uw 53 (by decide +kernel) rfl, by decide +kernel, rfl, rfl, ⟨uw 923 (by decide +kernel) rfl, uw 925 (by decide +kernel) rfl, uw 11 (by decide +kernel) rfl⟩⟩
theorem ca_8_97 : callOK 8 97 0 1 8 2 M_X8_setSheets := ⟨ok_X8_setSheets, by decide +kernel, uw 53 (by decide +kernel) rfl, by decide +kernel, rfl, rfl, ⟨uw 943 (by decide +kernel) rfl, uw 945 (by decide +kernel) rfl, uw 14 (by decide +kernel) rfl⟩⟩
theorem ca_8_100 : callOK 8 100 0 1 8 2 M_X8_isGathered := ⟨ok_X8_isGathered, by decide +kernel, uw 53 (by decide +kernel) rfl, by decide +kernel, rfl, rfl, ⟨uw 951 (by decide +kernel) rfl, uw 953 (by decide +kernel) rfl, uw 16 (by decide +kernel) rfl⟩⟩
theorem ca_8_103 : callOK 8 103 0 1 8 3 M_X8_allSheets := ⟨ok_X8_allSheets, by decide +kernel, uw 53 (by decide +kernel) rfl, by decide +kernel, rfl, rfl, ⟨uw 939 (by decide +kernel) rfl, uw 941 (by decide +kernel) rfl, uw 13 (by decide +kernel) rfl⟩⟩
theorem ca_8_106 : callOK 8 106 0 1 8 3 M_X8_nextSheet := ⟨ok_X8_nextSheet, by decide +kernel, uw 53 (by decide +kernel) rfl, by decide +kernel, rfl, rfl, ⟨uw 947 (by decide +kernel) rfl, uw 949 (by decide +kernel) rfl, uw 15 (by decide +kernel) rfl⟩⟩
theorem ca_8_109 : callOK 8 109 0 1 8 3 M_X8_nextCopy := ⟨ok_X8_nextCopy, by decide +kernel, uw 53 (by decide +kernel) rfl, by decide +kernel, rfl, rfl, ⟨uw 955 (by decide +kernel) rfl, uw 957 (by decide +kernel) rfl, uw 17 (by decide +kernel) rfl⟩⟩
theorem ca_8_112 : callOK 8 112 0 2 8 4 M_X8_tellJob := ⟨ok_X8_tellJob, by decide +kernel, uw 53 (by decide +kernel) rfl, by decide +kernel, rfl, rfl, ⟨uw 935 (by decide +kernel) rfl, uw 937 (by decide +kernel) rfl, uw 12 (by decide +kernel) rfl⟩⟩
theorem ca_8_115 : callOK 8 115 0 2 8 2 M_X8_isAhead := ⟨ok_X8_isAhead, by decide +kernel, uw 53 (by decide +kernel) rfl, by decide +kernel, rfl, rfl, ⟨uw 963 (by decide +kernel) rfl, uw 965 (by decide +kernel) rfl, uw 18 (by decide +kernel) rfl⟩⟩
theorem ca_8_118 : callOK 8 118 0 1 8 2 M_X8_staplesOf := ⟨ok_X8_staplesOf, by decide +kernel, uw 53 (by decide +kernel) rfl, by decide +kernel, rfl, rfl, ⟨uw 988 (by decide +kernel) rfl, uw 990 (by decide +kernel) rfl, uw 23 (by decide +kernel) rfl⟩⟩
theorem ca_8_121 : callOK 8 121 0 1 8 3 M_X8_hasSet := ⟨ok_X8_hasSet, by decide +kernel, uw 53 (by decide +kernel) rfl, by decide +kernel, rfl, rfl, ⟨uw 984 (by decide +kernel) rfl, uw 986 (by decide +kernel) rfl, uw 22 (by decide +kernel) rfl⟩⟩
theorem ca_8_124 : callOK 8 124 0 1 8 4 M_X8_leaves := ⟨ok_X8_leaves, by decide +kernel, uw 53 (by decide +kernel) rfl, by decide +kernel, rfl, rfl, ⟨uw 996 (by decide +kernel) rfl, uw 998 (by decide +kernel) rfl, uw 25 (by decide +kernel) rfl⟩⟩
theorem ca_8_127 : callOK 8 127 0 2 8 1 M_X8_takesPaper := ⟨ok_X8_takesPaper, by decide +kernel, uw 53 (by decide +kernel) rfl, by decide +kernel, rfl, rfl, ⟨uw 1004 (by decide +kernel) rfl, uw 1006 (by decide +kernel) rfl, uw 27 (by decide +kernel) rfl⟩⟩
theorem ca_8_131 : callOK 8 131 0 1 8 4 M_X8_sides := ⟨ok_X8_sides, by decide +kernel, uw 53 (by decide +kernel) rfl, by decide +kernel, rfl, rfl, ⟨uw 1008 (by decide +kernel) rfl, uw 1010 (by decide +kernel) rfl, uw 28 (by decide +kernel) rfl⟩⟩
theorem ca_8_134 : callOK 8 134 0 0 8 3 M_X8_nextJob := ⟨ok_X8_nextJob, by decide +kernel, uw 53 (by decide +kernel) rfl, by decide +kernel, rfl, rfl, ⟨uw 976 (by decide +kernel) rfl, uw 978 (by decide +kernel) rfl, uw 20 (by decide +kernel) rfl⟩⟩
theorem ca_8_138 : callOK 8 138 0 1 8 4 M_X8_whyStop := ⟨ok_X8_whyStop, by decide +kernel, uw 53 (by decide +kernel) rfl, by decide +kernel, rfl, rfl, ⟨uw 980 (by decide +kernel) rfl, uw 982 (by decide +kernel) rfl, uw 21 (by decide +kernel) rfl⟩⟩
theorem ca_8_141 : callOK 8 141 0 1 8 5 M_X8_stapled := ⟨ok_X8_stapled, by decide +kernel, uw 53 (by decide +kernel) rfl, by decide +kernel, rfl, rfl, ⟨uw 992 (by decide +kernel) rfl, uw 994 (by decide +kernel) rfl, uw 24 (by decide +kernel) rfl⟩⟩
theorem ca_8_144 : callOK 8 144 0 1 8 5 M_X8_beginsSheet := ⟨ok_X8_beginsSheet, by decide +kernel, uw 53 (by decide +kernel) rfl, by decide +kernel, rfl, rfl, ⟨uw 1000 (by decide +kernel) rfl, uw 1002 (by decide +kernel) rfl, uw 26 (by decide +kernel) rfl⟩⟩
theorem ca_8_147 : callOK 8 147 0 0 8 6 M_X8_finishes := ⟨ok_X8_finishes, by decide +kernel, uw 53 (by decide +kernel) rfl, by decide +kernel, rfl, rfl, ⟨uw 1016 (by decide +kernel) rfl, uw 1018 (by decide +kernel) rfl, uw 30 (by decide +kernel) rfl⟩⟩
theorem ca_8_151 : callOK 8 151 0 0 8 6 M_X8_begins := ⟨ok_X8_begins, by decide +kernel, uw 53 (by decide +kernel) rfl, by decide +kernel, rfl, rfl, ⟨uw 972 (by decide +kernel) rfl, uw 974 (by decide +kernel) rfl, uw 19 (by decide +kernel) rfl⟩⟩
theorem ca_8_154 : callOK 8 154 0 2 8 7 M_X8_goesBy := ⟨ok_X8_goesBy, by decide +kernel, uw 53 (by decide +kernel) rfl, by decide +kernel, rfl, rfl, ⟨uw 1012 (by decide +kernel) rfl, uw 1014 (by decide +kernel) rfl, uw 29 (by decide +kernel) rfl⟩⟩
theorem ca_8_157 : callOK 8 157 0 0 8 0 M_X8_keeps := ⟨ok_X8_keeps, by decide +kernel, uw 53 (by decide +kernel) rfl, by decide +kernel, rfl, rfl, ⟨uw 1024 (by decide +kernel) rfl, uw 1026 (by decide +kernel) rfl, uw 31 (by decide +kernel) rfl⟩⟩
theorem ca_8_160 : callOK 8 160 0 0 8 0 M_X8_takesBack := ⟨ok_X8_takesBack, by decide +kernel, uw 53 (by decide +kernel) rfl, by decide +kernel, rfl, rfl, ⟨uw 1028 (by decide +kernel) rfl, uw 1030 (by decide +kernel) rfl, uw 32 (by decide +kernel) rfl⟩⟩
theorem ca_8_163 : callOK 8 163 0 0 8 2 M_X8_heldOnes := ⟨ok_X8_heldOnes, by decide +kernel, uw 53 (by decide +kernel) rfl, by decide +kernel, rfl, rfl, ⟨uw 1036 (by decide +kernel) rfl, uw 1038 (by decide +kernel) rfl, uw 33 (by decide +kernel) rfl⟩⟩
theorem ca_8_172 : callOK 8 172 0 1 8 0 M_X8_isAt := ⟨ok_X8_isAt, by decide +kernel, uw 53 (by decide +kernel) rfl, by decide +kernel, rfl, rfl, ⟨uw 1084 (by decide +kernel) rfl, uw 1086 (by decide +kernel) rfl, uw 38 (by decide +kernel) rfl⟩⟩
theorem ca_8_175 : callOK 8 175 0 1 8 1 M_X8_takes := ⟨ok_X8_takes, by decide +kernel, uw 53 (by decide +kernel) rfl, by decide +kernel, rfl, rfl, ⟨uw 1080 (by decide +kernel) rfl, uw 1082 (by decide +kernel) rfl, uw 37 (by decide +kernel) rfl⟩⟩
theorem ca_8_198 : callOK 8 198 1 2 8 0 M_X8_letterAt := ⟨ok_X8_letterAt, by decide +kernel, uw 53 (by decide +kernel) rfl, by decide +kernel, rfl, rfl, ⟨uw 1096 (by decide +kernel) rfl, uw 1097 (by decide +kernel) rfl⟩⟩
theorem ca_8_201 : callOK 8 201 0 1 8 1 M_X8_takesWord := ⟨ok_X8_takesWord, by decide +kernel, uw 53 (by decide +kernel) rfl, by decide +kernel, rfl, rfl, ⟨uw 1092 (by decide +kernel) rfl, uw 1094 (by decide +kernel) rfl, uw 40 (by decide +kernel) rfl⟩⟩
theorem ca_8_204 : callOK 8 204 0 2 8 2 M_X8_takesNumber := ⟨ok_X8_takesNumber, by decide +kernel, uw 53 (by decide +kernel) rfl, by decide +kernel, rfl, rfl, ⟨uw 1076 (by decide +kernel) rfl, uw 1078 (by decide +kernel) rfl, uw 36 (by decide +kernel) rfl⟩⟩
theorem ca_8_207 : callOK 8 207 0 1 8 2 M_X8_takesOption := ⟨ok_X8_takesOption, by decide +kernel, uw 53 (by decide +kernel) rfl, by decide +kernel, rfl, rfl, ⟨uw 1088 (by decide +kernel) rfl, uw 1090 (by decide +kernel) rfl, uw 39 (by decide +kernel) rfl⟩⟩
theorem ca_8_210 : callOK 8 210 0 0 8 2 M_X8_takesSize := ⟨ok_X8_takesSize, by decide +kernel, uw 53 (by decide +kernel) rfl, by decide +kernel, rfl, rfl, ⟨uw 1109 (by decide +kernel) rfl, uw 1111 (by decide +kernel) rfl, uw 41 (by decide +kernel) rfl⟩⟩
theorem ca_8_214 : callOK 8 214 0 0 8 2 M_X8_takesKind := ⟨ok_X8_takesKind, by decide +kernel, uw 53 (by decide +kernel) rfl, by decide +kernel, rfl, rfl, ⟨uw 1113 (by decide +kernel) rfl, uw 1115 (by decide +kernel) rfl, uw 42 (by decide +kernel) rfl⟩⟩
theorem ca_8_220 : callOK 8 220 0 0 8 3 M_X8_takesJob := ⟨ok_X8_takesJob, by decide +kernel, uw 53 (by decide +kernel) rfl, by decide +kernel, rfl, rfl, ⟨uw 1072 (by decide +kernel) rfl, uw 1074 (by decide +kernel) rfl, uw 35 (by decide +kernel) rfl⟩⟩
theorem ca_8_229 : callOK 8 229 0 0 8 4 M_X8_hasFault := ⟨ok_X8_hasFault, by decide +kernel, uw 53 (by decide +kernel) rfl, by decide +kernel, rfl, rfl, ⟨uw 1068 (by decide +kernel) rfl, uw 1070 (by decide +kernel) rfl, uw 34 (by decide +kernel) rfl⟩⟩
theorem ca_9_9 : callOK 9 9 2 0 7 5 M_X7_init := ⟨ok_X7_init, by decide +kernel, uw 44 (by decide +kernel) rfl, by decide +kernel, rfl, rfl, ⟨uw 61 (by decide +kernel) rfl, uw 62 (by decide +kernel) rfl, rfl, rfl⟩⟩
theorem ca_9_12 : callOK 9 12 2 0 8 1 M_X8_init := ⟨ok_X8_init, by decide +kernel, uw 53 (by decide +kernel) rfl, by decide +kernel, rfl, rfl, ⟨uw 774 (by decide +kernel) rfl, uw 775 (by decide +kernel) rfl, rfl, rfl⟩⟩
theorem ca_9_13 : callOK 9 13 0 2 7 4 M_X7_fill := ⟨ok_X7_fill, by decide +kernel, uw 44 (by decide +kernel) rfl, by decide +kernel, rfl, rfl, ⟨uw 327 (by decide +kernel) rfl, uw 328 (by decide +kernel) rfl, uw 329 (by decide +kernel) rfl⟩⟩
theorem ca_9_17 : callOK 9 17 0 2 8 2 M_X8_fill := ⟨ok_X8_fill, by decide +kernel, uw 53 (by decide +kernel) rfl, by decide +kernel, rfl, rfl, ⟨uw 819 (by decide +kernel) rfl, uw 820 (by decide +kernel) rfl, uw 821 (by decide +kernel) rfl⟩⟩
theorem ca_9_18 : callOK 9 18 0 3 7 4 M_X7_load := ⟨ok_X7_load, by decide +kernel, uw 44 (by decide +kernel) rfl, by decide +kernel, rfl, rfl, ⟨uw 367 (by decide +kernel) rfl, uw 368 (by decide +kernel) rfl, uw 369 (by decide +kernel) rfl⟩⟩
theorem ca_9_22 : callOK 9 22 0 3 8 2 M_X8_load := ⟨ok_X8_load, by decide +kernel, uw 53 (by decide +kernel) rfl, by decide +kernel, rfl, rfl, ⟨uw 833 (by decide +kernel) rfl, uw 834 (by decide +kernel) rfl, uw 835 (by decide +kernel) rfl⟩⟩
theorem ca_9_23 : callOK 9 23 0 2 7 1 M_X7_tray := ⟨ok_X7_tray, by decide +kernel, uw 44 (by decide +kernel) rfl, by decide +kernel, rfl, rfl, ⟨uw 379 (by decide +kernel) rfl, uw 380 (by decide +kernel) rfl, uw 381 (by decide +kernel) rfl⟩⟩
theorem ca_9_26 : callOK 9 26 0 2 8 2 M_X8_tray := ⟨ok_X8_tray, by decide +kernel, uw 53 (by decide +kernel) rfl, by decide +kernel, rfl, rfl, ⟨uw 840 (by decide +kernel) rfl, uw 841 (by decide +kernel) rfl, uw 842 (by decide +kernel) rfl⟩⟩
theorem ca_9_27 : callOK 9 27 0 1 7 4 M_X7_staples := ⟨ok_X7_staples, by decide +kernel, uw 44 (by decide +kernel) rfl, by decide +kernel, rfl, rfl, ⟨uw 387 (by decide +kernel) rfl, uw 388 (by decide +kernel) rfl, uw 389 (by decide +kernel) rfl⟩⟩
theorem ca_9_31 : callOK 9 31 0 1 8 2 M_X8_staples := ⟨ok_X8_staples, by decide +kernel, uw 53 (by decide +kernel) rfl, by decide +kernel, rfl, rfl, ⟨uw 852 (by decide +kernel) rfl, uw 853 (by decide +kernel) rfl, uw 854 (by decide +kernel) rfl⟩⟩
theorem ca_9_32 : callOK 9 32 0 0 7 4 M_X7_emptyBin := ⟨ok_X7_emptyBin, by decide +kernel, uw 44 (by decide +kernel) rfl, by decide +kernel, rfl, rfl, ⟨uw 391 (by decide +kernel) rfl, uw 392 (by decide +kernel) rfl, uw 393 (by decide +kernel) rfl⟩⟩
theorem ca_9_36 : callOK 9 36 0 0 8 2 M_X8_emptyBin := ⟨ok_X8_emptyBin, by decide +kernel, uw 53 (by decide +kernel) rfl, by decide +kernel, rfl, rfl, ⟨uw 860 (by decide +kernel) rfl, uw 861 (by decide +kernel) rfl, uw 862 (by decide +kernel) rfl⟩⟩
theorem ca_9_37 : callOK 9 37 0 2 7 4 M_X7_set := ⟨ok_X7_set, by decide +kernel, uw 44 (by decide +kernel) rfl, by decide +kernel, rfl, rfl, ⟨uw 395 (by decide +kernel) rfl, uw 396 (by decide +kernel) rfl, uw 397 (by decide +kernel) rfl⟩⟩
theorem ca_9_40 : callOK 9 40 0 2 8 2 M_X8_set := ⟨ok_X8_set, by decide +kernel, uw 53 (by decide +kernel) rfl, by decide +kernel, rfl, rfl, ⟨uw 864 (by decide +kernel) rfl, uw 865 (by decide +kernel) rfl, uw 866 (by decide +kernel) rfl⟩⟩
theorem ca_9_41 : callOK 9 41 0 5 7 4 M_X7_job := ⟨ok_X7_job, by decide +kernel, uw 44 (by decide +kernel) rfl, by decide +kernel, rfl, rfl, ⟨uw 403 (by decide +kernel) rfl, uw 404 (by decide +kernel) rfl, uw 405 (by decide +kernel) rfl⟩⟩
theorem ca_9_45 : callOK 9 45 0 5 8 2 M_X8_job := ⟨ok_X8_job, by decide +kernel, uw 53 (by decide +kernel) rfl, by decide +kernel, rfl, rfl, ⟨uw 871 (by decide +kernel) rfl, uw 872 (by decide +kernel) rfl, uw 873 (by decide +kernel) rfl⟩⟩
theorem ca_9_46 : callOK 9 46 0 0 7 0 M_X7_refusal := ⟨ok_X7_refusal, by decide +kernel, uw 44 (by decide +kernel) rfl, by decide +kernel, rfl, rfl, ⟨uw 428 (by decide +kernel) rfl, uw 429 (by decide +kernel) rfl, uw 430 (by decide +kernel) rfl⟩⟩
theorem ca_9_49 : callOK 9 49 0 0 8 0 M_X8_refusal := ⟨ok_X8_refusal, by decide +kernel, uw 53 (by decide +kernel) rfl, by decide +kernel, rfl, rfl, ⟨uw 895 (by decide +kernel) rfl, uw 896 (by decide +kernel) rfl, uw 897 (by decide +kernel) rfl⟩⟩
theorem ca_9_50 : callOK 9 50 0 2 7 4 M_X7_hold := ⟨ok_X7_hold, by decide +kernel, uw 44 (by decide +kernel) rfl, by decide +kernel, rfl, rfl, ⟨uw 432 (by decide +kernel) rfl, uw 433 (by decide +kernel) rfl, uw 434 (by decide +kernel) rfl⟩⟩
theorem ca_9_53 : callOK 9 53 0 2 8 3 M_X8_hold := ⟨ok_X8_hold, by decide +kernel, uw 53 (by decide +kernel) rfl, by decide +kernel, rfl, rfl, ⟨uw 899 (by decide +kernel) rfl, uw 900 (by decide +kernel) rfl, uw 901 (by decide +kernel) rfl⟩⟩
theorem ca_9_54 : callOK 9 54 0 1 7 4 M_X7_cancel := ⟨ok_X7_cancel, by decide +kernel, uw 44 (by decide +kernel) rfl, by decide +kernel, rfl, rfl, ⟨uw 453 (by decide +kernel) rfl, uw 454 (by decide +kernel) rfl, uw 455 (by decide +kernel) rfl⟩⟩
theorem ca_9_57 : callOK 9 57 0 1 8 3 M_X8_cancel := ⟨ok_X8_cancel, by decide +kernel, uw 53 (by decide +kernel) rfl, by decide +kernel, rfl, rfl, ⟨uw 919 (by decide +kernel) rfl, uw 920 (by decide +kernel) rfl, uw 921 (by decide +kernel) rfl⟩⟩
theorem ca_9_58 : callOK 9 58 0 2 7 4 M_X7_priority := ⟨ok_X7_priority, by decide +kernel, uw 44 (by decide +kernel) rfl, by decide +kernel, rfl, rfl, ⟨uw 462 (by decide +kernel) rfl, uw 463 (by decide +kernel) rfl, uw 464 (by decide +kernel) rfl⟩⟩
theorem ca_9_61 : callOK 9 61 0 2 8 3 M_X8_priority := ⟨ok_X8_priority, by decide +kernel, uw 53 (by decide +kernel) rfl, by decide +kernel, rfl, rfl, ⟨uw 927 (by decide +kernel) rfl, uw 928 (by decide +kernel) rfl, uw 929 (by decide +kernel) rfl⟩⟩
theorem ca_9_62 : callOK 9 62 0 2 7 2 M_X7_jobInfo := ⟨ok_X7_jobInfo, by decide +kernel, uw 44 (by decide +kernel) rfl, by decide +kernel, rfl, rfl, ⟨uw 466 (by decide +kernel) rfl, uw 467 (by decide +kernel) rfl, uw 468 (by decide +kernel) rfl⟩⟩
theorem ca_9_65 : callOK 9 65 0 2 8 5 M_X8_jobInfo := ⟨ok_X8_jobInfo, by decide +kernel, uw 53 (by decide +kernel) rfl, by decide +kernel, rfl, rfl, ⟨uw 931 (by decide +kernel) rfl, uw 932 (by decide +kernel) rfl, uw 933 (by decide +kernel) rfl⟩⟩
theorem ca_9_66 : callOK 9 66 0 1 7 3 M_X7_queued := ⟨ok_X7_queued, by decide +kernel, uw 44 (by decide +kernel) rfl, by decide +kernel, rfl, rfl, ⟨uw 482 (by decide +kernel) rfl, uw 483 (by decide +kernel) rfl, uw 484 (by decide +kernel) rfl⟩⟩
theorem ca_9_69 : callOK 9 69 0 1 8 3 M_X8_queued := ⟨ok_X8_queued, by decide +kernel, uw 53 (by decide +kernel) rfl, by decide +kernel, rfl, rfl, ⟨uw 959 (by decide +kernel) rfl, uw 960 (by decide +kernel) rfl, uw 961 (by decide +kernel) rfl⟩⟩
theorem ca_9_70 : callOK 9 70 0 1 7 7 M_X7_run := ⟨ok_X7_run, by decide +kernel, uw 44 (by decide +kernel) rfl, by decide +kernel, rfl, rfl, ⟨uw 498 (by decide +kernel) rfl, uw 499 (by decide +kernel) rfl, uw 500 (by decide +kernel) rfl⟩⟩
theorem ca_9_73 : callOK 9 73 0 1 8 8 M_X8_run := ⟨ok_X8_run, by decide +kernel, uw 53 (by decide +kernel) rfl, by decide +kernel, rfl, rfl, ⟨uw 967 (by decide +kernel) rfl, uw 968 (by decide +kernel) rfl, uw 969 (by decide +kernel) rfl⟩⟩
theorem ca_9_74 : callOK 9 74 0 0 7 6 M_X7_stop := ⟨ok_X7_stop, by decide +kernel, uw 44 (by decide +kernel) rfl, by decide +kernel, rfl, rfl, ⟨uw 578 (by decide +kernel) rfl, uw 579 (by decide +kernel) rfl, uw 580 (by decide +kernel) rfl⟩⟩
theorem ca_9_77 : callOK 9 77 0 0 8 7 M_X8_stop := ⟨ok_X8_stop, by decide +kernel, uw 53 (by decide +kernel) rfl, by decide +kernel, rfl, rfl, ⟨uw 1020 (by decide +kernel) rfl, uw 1021 (by decide +kernel) rfl, uw 1022 (by decide +kernel) rfl⟩⟩
theorem ca_9_78 : callOK 9 78 0 1 7 2 M_X7_count := ⟨ok_X7_count, by decide +kernel, uw 44 (by decide +kernel) rfl, by decide +kernel, rfl, rfl, ⟨uw 584 (by decide +kernel) rfl, uw 585 (by decide +kernel) rfl, uw 586 (by decide +kernel) rfl⟩⟩
theorem ca_9_81 : callOK 9 81 0 1 8 3 M_X8_count := ⟨ok_X8_count, by decide +kernel, uw 53 (by decide +kernel) rfl, by decide +kernel, rfl, rfl, ⟨uw 1032 (by decide +kernel) rfl, uw 1033 (by decide +kernel) rfl, uw 1034 (by decide +kernel) rfl⟩⟩
theorem ca_9_82 : callOK 9 82 0 1 7 1 M_X7_account := ⟨ok_X7_account, by decide +kernel, uw 44 (by decide +kernel) rfl, by decide +kernel, rfl, rfl, ⟨uw 596 (by decide +kernel) rfl, uw 597 (by decide +kernel) rfl, uw 598 (by decide +kernel) rfl⟩⟩
theorem ca_9_85 : callOK 9 85 0 1 8 1 M_X8_account := ⟨ok_X8_account, by decide +kernel, uw 53 (by decide +kernel) rfl, by decide +kernel, rfl, rfl, ⟨uw 1040 (by decide +kernel) rfl, uw 1041 (by decide +kernel) rfl, uw 1042 (by decide +kernel) rfl⟩⟩
theorem ca_9_86 : callOK 9 86 0 2 7 1 M_X7_paper := ⟨ok_X7_paper, by decide +kernel, uw 44 (by decide +kernel) rfl, by decide +kernel, rfl, rfl, ⟨uw 600 (by decide +kernel) rfl, uw 601 (by decide +kernel) rfl, uw 602 (by decide +kernel) rfl⟩⟩
theorem ca_9_89 : callOK 9 89 0 2 8 1 M_X8_paper := ⟨ok_X8_paper, by decide +kernel, uw 53 (by decide +kernel) rfl, by decide +kernel, rfl, rfl, ⟨uw 1044 (by decide +kernel) rfl, uw 1045 (by decide +kernel) rfl, uw 1046 (by decide +kernel) rfl⟩⟩
theorem ca_9_90 : callOK 9 90 0 2 7 3 M_X7_lacking := ⟨ok_X7_lacking, by decide +kernel, uw 44 (by decide +kernel) rfl, by decide +kernel, rfl, rfl, ⟨uw 604 (by decide +kernel) rfl, uw 605 (by decide +kernel) rfl, uw 606 (by decide +kernel) rfl⟩⟩
theorem ca_9_93 : callOK 9 93 0 2 8 4 M_X8_lacking := ⟨ok_X8_lacking, by decide +kernel, uw 53 (by decide +kernel) rfl, by decide +kernel, rfl, rfl, ⟨uw 1048 (by decide +kernel) rfl, uw 1049 (by decide +kernel) rfl, uw 1050 (by decide +kernel) rfl⟩⟩
theorem ca_9_94 : callOK 9 94 0 1 7 7 M_X7_ticksTo := ⟨ok_X7_ticksTo, by decide +kernel, uw 44 (by decide +kernel) rfl, by decide +kernel, rfl, rfl, ⟨uw 625 (by decide +kernel) rfl, uw 626 (by decide +kernel) rfl, uw 627 (by decide +kernel) rfl⟩⟩
theorem ca_9_97 : callOK 9 97 0 1 8 8 M_X8_ticksTo := ⟨ok_X8_ticksTo, by decide +kernel, uw 53 (by decide +kernel) rfl, by decide +kernel, rfl, rfl, ⟨uw 1052 (by decide +kernel) rfl, uw 1053 (by decide +kernel) rfl, uw 1054 (by decide +kernel) rfl⟩⟩
theorem ca_9_98 : callOK 9 98 0 0 7 4 M_X7_undo := ⟨ok_X7_undo, by decide +kernel, uw 44 (by decide +kernel) rfl, by decide +kernel, rfl, rfl, ⟨uw 633 (by decide +kernel) rfl, uw 634 (by decide +kernel) rfl, uw 635 (by decide +kernel) rfl⟩⟩
theorem ca_9_101 : callOK 9 101 0 0 8 0 M_X8_undo := ⟨ok_X8_undo, by decide +kernel, uw 53 (by decide +kernel) rfl, by decide +kernel, rfl, rfl, ⟨uw 815 (by decide +kernel) rfl, uw 816 (by decide +kernel) rfl, uw 817 (by decide +kernel) rfl⟩⟩
theorem ca_9_102 : callOK 9 102 0 1 7 2 M_X7_type := ⟨ok_X7_type, by decide +kernel, uw 44 (by decide +kernel) rfl, by decide +kernel, rfl, rfl, ⟨uw 641 (by decide +kernel) rfl, uw 642 (by decide +kernel) rfl, uw 643 (by decide +kernel) rfl⟩⟩
theorem ca_9_105 : callOK 9 105 0 1 8 1 M_X8_type := ⟨ok_X8_type, by decide +kernel, uw 53 (by decide +kernel) rfl, by decide +kernel, rfl, rfl, ⟨uw 1056 (by decide +kernel) rfl, uw 1057 (by decide +kernel) rfl, uw 1058 (by decide +kernel) rfl⟩⟩
theorem ca_9_106 : callOK 9 106 0 0 7 0 M_X7_clearText := ⟨ok_X7_clearText, by decide +kernel, uw 44 (by decide +kernel) rfl, by decide +kernel, rfl, rfl, ⟨uw 650 (by decide +kernel) rfl, uw 651 (by decide +kernel) rfl, uw 652 (by decide +kernel) rfl⟩⟩
theorem ca_9_109 : callOK 9 109 0 0 8 0 M_X8_clearText := ⟨ok_X8_clearText, by decide +kernel, uw 53 (by decide +kernel) rfl, by decide +kernel, rfl, rfl, ⟨uw 1060 (by decide +kernel) rfl, uw 1061 (by decide +kernel) rfl, uw 1062 (by decide +kernel) rfl⟩⟩
theorem ca_9_110 : callOK 9 110 0 1 7 10 M_X7_fault := ⟨ok_X7_fault, by decide +kernel, uw 44 (by decide +kernel) rfl, by decide +kernel, rfl, rfl, ⟨uw 654 (by decide +kernel) rfl, uw 655 (by decide +kernel) rfl, uw 656 (by decide +kernel) rfl⟩⟩
theorem ca_9_113 : callOK 9 113 0 1 8 5 M_X8_fault := ⟨ok_X8_fault, by decide +kernel, uw 53 (by decide +kernel) rfl, by decide +kernel, rfl, rfl, ⟨uw 1064 (by decide +kernel) rfl, uw 1065 (by decide +kernel) rfl, uw 1066 (by decide +kernel) rfl⟩⟩
theorem ca_9_114 : callOK 9 114 0 0 7 10 M_X7_enter := ⟨ok_X7_enter, by decide +kernel, uw 44 (by decide +kernel) rfl, by decide +kernel, rfl, rfl, ⟨uw 767 (by decide +kernel) rfl, uw 768 (by decide +kernel) rfl, uw 769 (by decide +kernel) rfl⟩⟩
theorem ca_9_117 : callOK 9 117 0 0 8 5 M_X8_enter := ⟨ok_X8_enter, by decide +kernel, uw 53 (by decide +kernel) rfl, by decide +kernel, rfl, rfl, ⟨uw 1117 (by decide +kernel) rfl, uw 1118 (by decide +kernel) rfl, uw 1119 (by decide +kernel) rfl⟩⟩
def mthL_0 : List (Nat × Nat × Nat × Nat × Nat × MI) := [(17, 2, 0, 4, 3, M_X4_init), (22, 0, 0, 0, 0, M_X0_dropOldest), (25, 0, 1, 4, 2, M_X4_copyFrom)]
theorem mthO_0 : ∀ e ∈ mthL_0, callOK 0 e.1 e.2.1 e.2.2.1 e.2.2.2.1 e.2.2.2.2.1 e.2.2.2.2.2 := List.forall_mem_cons.mpr ⟨ca_0_17, List.forall_mem_cons.mpr ⟨ca_0_22, List.forall_mem_cons.mpr ⟨ca_0_25, fun _ h => absurd h List.not_mem_nil⟩⟩⟩
def mthL_1 : List (Nat × Nat × Nat × Nat × Nat × MI) := [(58, 3, 3, 7, 0, M_X7_isWithin), (62, 0, 0, 1, 0, M_X1_nextSheet), (66, 0, 0, 1, 0, M_X1_nextCopy)]
theorem mthO_1 : ∀ e ∈ mthL_1, callOK 1 e.1 e.2.1 e.2.2.1 e.2.2.2.1 e.2.2.2.2.1 e.2.2.2.2.2 := List.forall_mem_cons.mpr ⟨ca_1_58, List.forall_mem_cons.mpr ⟨ca_1_62, List.forall_mem_cons.mpr ⟨ca_1_66, fun _ h => absurd h List.not_mem_nil⟩⟩⟩
def mthL_2 : List (Nat × Nat × Nat × Nat × Nat × MI) := [(19, 3, 2, 7, 0, M_X7_isBelow), (33, 0, 0, 5, 0, M_X5_room), (51, 0, 3, 2, 8, M_X2_reasonOfNext), (55, 0, 1, 2, 7, M_X2_readJob), (59, 0, 0, 1, 1, M_X1_isInRange), (65, 0, 1, 1, 0, M_X1_staplingRefusal), (71, 0, 1, 2, 6, M_X2_readNumber), (77, 0, 0, 2, 6, M_X2_readHow), (80, 0, 0, 2, 6, M_X2_readSize), (83, 0, 0, 2, 6, M_X2_readKind), (86, 0, 5, 1, 0, M_X1_describe), (90, 0, 0, 2, 0, M_X2_digitAtPlace), (93, 0, 1, 2, 5, M_X2_skips), (105, 1, 1, 2, 0, M_X2_sizeWord), (109, 1, 1, 2, 0, M_X2_kindWord)]
theorem mthO_2 : ∀ e ∈ mthL_2, callOK 2 e.1 e.2.1 e.2.2.1 e.2.2.2.1 e.2.2.2.2.1 e.2.2.2.2.2 := List.forall_mem_cons.mpr ⟨ca_2_19, List.forall_mem_cons.mpr ⟨ca_2_33, List.forall_mem_cons.mpr ⟨ca_2_51, List.forall_mem_cons.mpr ⟨ca_2_55, List.forall_mem_cons.mpr ⟨ca_2_59, List.forall_mem_cons.mpr ⟨ca_2_65, List.forall_mem_cons.mpr ⟨ca_2_71, List.forall_mem_cons.mpr ⟨ca_2_77, List.forall_mem_cons.mpr ⟨ca_2_80, List.forall_mem_cons.mpr ⟨ca_2_83, List.forall_mem_cons.mpr ⟨ca_2_86, List.forall_mem_cons.mpr ⟨ca_2_90, List.forall_mem_cons.mpr ⟨ca_2_93, List.forall_mem_cons.mpr ⟨ca_2_105, List.forall_mem_cons.mpr ⟨ca_2_109, fun _ h => absurd h List.not_mem_nil⟩⟩⟩⟩⟩⟩⟩⟩⟩⟩⟩⟩⟩⟩⟩
def mthL_3 : List (Nat × Nat × Nat × Nat × Nat × MI) := [(37, 3, 2, 7, 0, M_X7_isBelow), (41, 0, 2, 3, 1, M_X3_add)]
theorem mthO_3 : ∀ e ∈ mthL_3, callOK 3 e.1 e.2.1 e.2.2.1 e.2.2.2.1 e.2.2.2.2.1 e.2.2.2.2.2 := List.forall_mem_cons.mpr ⟨ca_3_37, List.forall_mem_cons.mpr ⟨ca_3_41, fun _ h => absurd h List.not_mem_nil⟩⟩
def mthL_4 : List (Nat × Nat × Nat × Nat × Nat × MI) := [(11, 4, 0, 6, 1, M_X6_init), (20, 2, 0, 5, 2, M_X5_init), (27, 4, 0, 3, 1, M_X3_init), (52, 0, 1, 6, 1, M_X6_copyFrom), (56, 0, 1, 5, 1, M_X5_copyFrom), (59, 0, 1, 3, 1, M_X3_copyFrom), (71, 0, 0, 4, 5, M_X4_findWork), (75, 0, 1, 4, 5, M_X4_goOnWorking), (79, 0, 2, 3, 1, M_X3_add), (83, 0, 1, 5, 0, M_X5_find), (87, 0, 0, 5, 1, M_X5_next), (91, 0, 1, 4, 1, M_X4_stopReason), (95, 0, 0, 1, 0, M_X1_hasSetToStaple), (101, 0, 1, 4, 4, M_X4_beginStapling), (105, 0, 1, 4, 3, M_X4_beginSheet), (117, 0, 2, 6, 0, M_X6_lowestWith), (121, 0, 2, 6, 1, M_X6_takeSheet), (124, 0, 2, 3, 2, M_X3_addTakenSheet), (133, 0, 0, 1, 1, M_X1_sidesOfNextSheet), (136, 0, 1, 4, 3, M_X4_finishStapling), (144, 0, 0, 4, 4, M_X4_finishWork), (147, 0, 1, 4, 3, M_X4_finishSheet), (156, 0, 1, 4, 2, M_X4_removeIfFinished), (162, 0, 0, 1, 0, M_X1_isFinished), (165, 0, 1, 5, 0, M_X5_remove), (168, 0, 1, 4, 2, M_X4_giveUpWorkOf), (172, 0, 2, 5, 1, M_X5_sheetsToPrint), (175, 0, 2, 6, 0, M_X6_sheetsOf), (178, 0, 2, 1, 0, M_X1_isOn)]
theorem mthO_4 : ∀ e ∈ mthL_4, callOK 4 e.1 e.2.1 e.2.2.1 e.2.2.2.1 e.2.2.2.2.1 e.2.2.2.2.2 := List.forall_mem_cons.mpr ⟨ca_4_11, List.forall_mem_cons.mpr ⟨ca_4_20, List.forall_mem_cons.mpr ⟨ca_4_27, List.forall_mem_cons.mpr ⟨ca_4_52, List.forall_mem_cons.mpr ⟨ca_4_56, List.forall_mem_cons.mpr ⟨ca_4_59, List.forall_mem_cons.mpr ⟨ca_4_71, List.forall_mem_cons.mpr ⟨ca_4_75, List.forall_mem_cons.mpr ⟨ca_4_79, List.forall_mem_cons.mpr ⟨ca_4_83, List.forall_mem_cons.mpr ⟨ca_4_87, List.forall_mem_cons.mpr ⟨ca_4_91, List.forall_mem_cons.mpr ⟨ca_4_95, List.forall_mem_cons.mpr ⟨ca_4_101, List.forall_mem_cons.mpr ⟨ca_4_105, List.forall_mem_cons.mpr ⟨ca_4_117, List.forall_mem_cons.mpr ⟨ca_4_121, List.forall_mem_cons.mpr ⟨ca_4_124, List.forall_mem_cons.mpr ⟨ca_4_133, List.forall_mem_cons.mpr ⟨ca_4_136, List.forall_mem_cons.mpr ⟨ca_4_144, List.forall_mem_cons.mpr ⟨ca_4_147, List.forall_mem_cons.mpr ⟨ca_4_156, List.forall_mem_cons.mpr ⟨ca_4_162, List.forall_mem_cons.mpr ⟨ca_4_165, List.forall_mem_cons.mpr ⟨ca_4_168, List.forall_mem_cons.mpr ⟨ca_4_172, List.forall_mem_cons.mpr ⟨ca_4_175, List.forall_mem_cons.mpr ⟨ca_4_178, fun _ h => absurd h List.not_mem_nil⟩⟩⟩⟩⟩⟩⟩⟩⟩⟩⟩⟩⟩⟩⟩⟩⟩⟩⟩⟩⟩⟩⟩⟩⟩⟩⟩⟩⟩
def mthL_5 : List (Nat × Nat × Nat × Nat × Nat × MI) := [(21, 4, 0, 1, 1, M_X1_init), (28, 0, 1, 1, 0, M_X1_copyFrom), (42, 0, 2, 5, 0, M_X5_isAhead), (46, 0, 1, 5, 1, M_X5_jobsAheadOf), (50, 0, 2, 1, 0, M_X1_isOn)]
theorem mthO_5 : ∀ e ∈ mthL_5, callOK 5 e.1 e.2.1 e.2.2.1 e.2.2.2.1 e.2.2.2.2.1 e.2.2.2.2.2 := List.forall_mem_cons.mpr ⟨ca_5_21, List.forall_mem_cons.mpr ⟨ca_5_28, List.forall_mem_cons.mpr ⟨ca_5_42, List.forall_mem_cons.mpr ⟨ca_5_46, List.forall_mem_cons.mpr ⟨ca_5_50, fun _ h => absurd h List.not_mem_nil⟩⟩⟩⟩⟩
def mthL_6 : List (Nat × Nat × Nat × Nat × Nat × MI) := [(27, 3, 2, 7, 0, M_X7_isBelow), (31, 0, 2, 6, 0, M_X6_lowestWith)]
theorem mthO_6 : ∀ e ∈ mthL_6, callOK 6 e.1 e.2.1 e.2.2.1 e.2.2.2.1 e.2.2.2.2.1 e.2.2.2.2.2 := List.forall_mem_cons.mpr ⟨ca_6_27, List.forall_mem_cons.mpr ⟨ca_6_31, fun _ h => absurd h List.not_mem_nil⟩⟩
def mthL_7 : List (Nat × Nat × Nat × Nat × Nat × MI) := [(11, 2, 0, 4, 3, M_X4_init), (21, 2, 0, 0, 4, M_X0_init), (28, 4, 0, 2, 1, M_X2_init), (35, 4, 0, 1, 1, M_X1_init), (40, 1, 2, 7, 0, M_X7_isBelow), (44, 1, 3, 7, 0, M_X7_isWithin), (58, 0, 1, 0, 3, M_X0_keep), (62, 1, 2, 7, 1, M_X7_isPaper), (65, 0, 3, 6, 1, M_X6_change), (75, 0, 2, 6, 0, M_X6_sheetsOf), (95, 0, 5, 1, 0, M_X1_describe), (99, 0, 0, 1, 1, M_X1_isInRange), (103, 0, 1, 1, 0, M_X1_staplingRefusal), (114, 0, 0, 5, 0, M_X5_room), (120, 0, 1, 5, 1, M_X5_append), (124, 0, 1, 5, 0, M_X5_find), (132, 0, 1, 4, 3, M_X4_interrupt), (139, 0, 1, 5, 0, M_X5_remove), (146, 0, 2, 3, 1, M_X3_add), (155, 0, 1, 1, 1, M_X1_property), (158, 0, 1, 5, 2, M_X5_at), (168, 0, 1, 4, 6, M_X4_letGoBy), (172, 0, 1, 4, 2, M_X4_copyFrom), (175, 0, 0, 4, 5, M_X4_findWork), (181, 0, 0, 5, 0, M_X5_heldJobs), (205, 0, 1, 7, 1, M_X7_settingAt), (217, 0, 2, 4, 2, M_X4_lackingSheets), (220, 0, 1, 4, 6, M_X4_ticksUntilGone), (223, 0, 1, 0, 3, M_X0_restore), (227, 0, 1, 2, 1, M_X2_append), (230, 0, 2, 2, 9, M_X2_examine), (246, 0, 1, 2, 7, M_X2_readJob)]
theorem mthO_7 : ∀ e ∈ mthL_7, callOK 7 e.1 e.2.1 e.2.2.1 e.2.2.2.1 e.2.2.2.2.1 e.2.2.2.2.2 := List.forall_mem_cons.mpr ⟨ca_7_11, List.forall_mem_cons.mpr ⟨ca_7_21, List.forall_mem_cons.mpr ⟨ca_7_28, List.forall_mem_cons.mpr ⟨ca_7_35, List.forall_mem_cons.mpr ⟨ca_7_40, List.forall_mem_cons.mpr ⟨ca_7_44, List.forall_mem_cons.mpr ⟨ca_7_58, List.forall_mem_cons.mpr ⟨ca_7_62, List.forall_mem_cons.mpr ⟨ca_7_65, List.forall_mem_cons.mpr ⟨ca_7_75, List.forall_mem_cons.mpr ⟨ca_7_95, List.forall_mem_cons.mpr ⟨ca_7_99, List.forall_mem_cons.mpr ⟨ca_7_103, List.forall_mem_cons.mpr ⟨ca_7_114, List.forall_mem_cons.mpr ⟨ca_7_120, List.forall_mem_cons.mpr ⟨ca_7_124, List.forall_mem_cons.mpr ⟨ca_7_132, List.forall_mem_cons.mpr ⟨ca_7_139, List.forall_mem_cons.mpr ⟨ca_7_146, List.forall_mem_cons.mpr ⟨ca_7_155, List.forall_mem_cons.mpr ⟨ca_7_158, List.forall_mem_cons.mpr ⟨ca_7_168, List.forall_mem_cons.mpr ⟨ca_7_172, List.forall_mem_cons.mpr ⟨ca_7_175, List.forall_mem_cons.mpr ⟨ca_7_181, List.forall_mem_cons.mpr ⟨ca_7_205, List.forall_mem_cons.mpr ⟨ca_7_217, List.forall_mem_cons.mpr ⟨ca_7_220, List.forall_mem_cons.mpr ⟨ca_7_223, List.forall_mem_cons.mpr ⟨ca_7_227, List.forall_mem_cons.mpr ⟨ca_7_230, List.forall_mem_cons.mpr ⟨ca_7_246, fun _ h => absurd h List.not_mem_nil⟩⟩⟩⟩⟩⟩⟩⟩⟩⟩⟩⟩⟩⟩⟩⟩⟩⟩⟩⟩⟩⟩⟩⟩⟩⟩⟩⟩⟩⟩⟩⟩
def mthL_8 : List (Nat × Nat × Nat × Nat × Nat × MI) := [(32, 1, 3, 8, 0, M_X8_in), (36, 1, 1, 8, 1, M_X8_isTray), (40, 0, 0, 8, 0, M_X8_records), (43, 1, 2, 8, 1, M_X8_isPaper), (47, 0, 3, 8, 0, M_X8_isOf), (50, 0, 2, 8, 1, M_X8_sheetsOf), (54, 0, 2, 8, 1, M_X8_puts), (57, 1, 2, 8, 1, M_X8_isSetting), (60, 1, 1, 8, 0, M_X8_jobAt), (64, 0, 2, 8, 1, M_X8_of), (67, 1, 2, 8, 0, M_X8_setOf), (70, 1, 1, 8, 1, M_X8_isPages), (73, 1, 1, 8, 1, M_X8_isCopies), (76, 0, 3, 8, 1, M_X8_whyNot), (80, 0, 5, 8, 1, M_X8_comes), (84, 0, 0, 8, 0, M_X8_endsWork), (87, 0, 1, 8, 2, M_X8_placeOf), (90, 0, 1, 8, 1, M_X8_givesUp), (94, 0, 1, 8, 1, M_X8_goesJob), (97, 0, 1, 8, 2, M_X8_setSheets), (100, 0, 1, 8, 2, M_X8_isGathered), (103, 0, 1, 8, 3, M_X8_allSheets), (106, 0, 1, 8, 3, M_X8_nextSheet), (109, 0, 1, 8, 3, M_X8_nextCopy), (112, 0, 2, 8, 4, M_X8_tellJob), (115, 0, 2, 8, 2, M_X8_isAhead), (118, 0, 1, 8, 2, M_X8_staplesOf), (121, 0, 1, 8, 3, M_X8_hasSet), (124, 0, 1, 8, 4, M_X8_leaves), (127, 0, 2, 8, 1, M_X8_takesPaper), (131, 0, 1, 8, 4, M_X8_sides), (134, 0, 0, 8, 3, M_X8_nextJob), (138, 0, 1, 8, 4, M_X8_whyStop), (141, 0, 1, 8, 5, M_X8_stapled), (144, 0, 1, 8, 5, M_X8_beginsSheet), (147, 0, 0, 8, 6, M_X8_finishes), (151, 0, 0, 8, 6, M_X8_begins), (154, 0, 2, 8, 7, M_X8_goesBy), (157, 0, 0, 8, 0, M_X8_keeps), (160, 0, 0, 8, 0, M_X8_takesBack), (163, 0, 0, 8, 2, M_X8_heldOnes), (172, 0, 1, 8, 0, M_X8_isAt), (175, 0, 1, 8, 1, M_X8_takes), (198, 1, 2, 8, 0, M_X8_letterAt), (201, 0, 1, 8, 1, M_X8_takesWord), (204, 0, 2, 8, 2, M_X8_takesNumber), (207, 0, 1, 8, 2, M_X8_takesOption), (210, 0, 0, 8, 2, M_X8_takesSize), (214, 0, 0, 8, 2, M_X8_takesKind), (220, 0, 0, 8, 3, M_X8_takesJob), (229, 0, 0, 8, 4, M_X8_hasFault)]
theorem mthO_8 : ∀ e ∈ mthL_8, callOK 8 e.1 e.2.1 e.2.2.1 e.2.2.2.1 e.2.2.2.2.1 e.2.2.2.2.2 := List.forall_mem_cons.mpr ⟨ca_8_32, List.forall_mem_cons.mpr ⟨ca_8_36, List.forall_mem_cons.mpr ⟨ca_8_40, List.forall_mem_cons.mpr ⟨ca_8_43, List.forall_mem_cons.mpr ⟨ca_8_47, List.forall_mem_cons.mpr ⟨ca_8_50, List.forall_mem_cons.mpr ⟨ca_8_54, List.forall_mem_cons.mpr ⟨ca_8_57, List.forall_mem_cons.mpr ⟨ca_8_60, List.forall_mem_cons.mpr ⟨ca_8_64, List.forall_mem_cons.mpr ⟨ca_8_67, List.forall_mem_cons.mpr ⟨ca_8_70, List.forall_mem_cons.mpr ⟨ca_8_73, List.forall_mem_cons.mpr ⟨ca_8_76, List.forall_mem_cons.mpr ⟨ca_8_80, List.forall_mem_cons.mpr ⟨ca_8_84, List.forall_mem_cons.mpr ⟨ca_8_87, List.forall_mem_cons.mpr ⟨ca_8_90, List.forall_mem_cons.mpr ⟨ca_8_94, List.forall_mem_cons.mpr ⟨ca_8_97, List.forall_mem_cons.mpr ⟨ca_8_100, List.forall_mem_cons.mpr ⟨ca_8_103, List.forall_mem_cons.mpr ⟨ca_8_106, List.forall_mem_cons.mpr ⟨ca_8_109, List.forall_mem_cons.mpr ⟨ca_8_112, List.forall_mem_cons.mpr ⟨ca_8_115, List.forall_mem_cons.mpr ⟨ca_8_118, List.forall_mem_cons.mpr ⟨ca_8_121, List.forall_mem_cons.mpr ⟨ca_8_124, List.forall_mem_cons.mpr ⟨ca_8_127, List.forall_mem_cons.mpr ⟨ca_8_131, List.forall_mem_cons.mpr ⟨ca_8_134, List.forall_mem_cons.mpr ⟨ca_8_138, List.forall_mem_cons.mpr ⟨ca_8_141, List.forall_mem_cons.mpr ⟨ca_8_144, List.forall_mem_cons.mpr ⟨ca_8_147, List.forall_mem_cons.mpr ⟨ca_8_151, List.forall_mem_cons.mpr ⟨ca_8_154, List.forall_mem_cons.mpr ⟨ca_8_157, List.forall_mem_cons.mpr ⟨ca_8_160, List.forall_mem_cons.mpr ⟨ca_8_163, List.forall_mem_cons.mpr ⟨ca_8_172, List.forall_mem_cons.mpr ⟨ca_8_175, List.forall_mem_cons.mpr ⟨ca_8_198, List.forall_mem_cons.mpr ⟨ca_8_201, List.forall_mem_cons.mpr ⟨ca_8_204, List.forall_mem_cons.mpr ⟨ca_8_207, List.forall_mem_cons.mpr ⟨ca_8_210, List.forall_mem_cons.mpr ⟨ca_8_214, List.forall_mem_cons.mpr ⟨ca_8_220, List.forall_mem_cons.mpr ⟨ca_8_229, fun _ h => absurd h List.not_mem_nil⟩⟩⟩⟩⟩⟩⟩⟩⟩⟩⟩⟩⟩⟩⟩⟩⟩⟩⟩⟩⟩⟩⟩⟩⟩⟩⟩⟩⟩⟩⟩⟩⟩⟩⟩⟩⟩⟩⟩⟩⟩⟩⟩⟩⟩⟩⟩⟩⟩⟩⟩
def mthL_9 : List (Nat × Nat × Nat × Nat × Nat × MI) := [(9, 2, 0, 7, 5, M_X7_init), (12, 2, 0, 8, 1, M_X8_init), (13, 0, 2, 7, 4, M_X7_fill), (17, 0, 2, 8, 2, M_X8_fill), (18, 0, 3, 7, 4, M_X7_load), (22, 0, 3, 8, 2, M_X8_load), (23, 0, 2, 7, 1, M_X7_tray), (26, 0, 2, 8, 2, M_X8_tray), (27, 0, 1, 7, 4, M_X7_staples), (31, 0, 1, 8, 2, M_X8_staples), (32, 0, 0, 7, 4, M_X7_emptyBin), (36, 0, 0, 8, 2, M_X8_emptyBin), (37, 0, 2, 7, 4, M_X7_set), (40, 0, 2, 8, 2, M_X8_set), (41, 0, 5, 7, 4, M_X7_job), (45, 0, 5, 8, 2, M_X8_job), (46, 0, 0, 7, 0, M_X7_refusal), (49, 0, 0, 8, 0, M_X8_refusal), (50, 0, 2, 7, 4, M_X7_hold), (53, 0, 2, 8, 3, M_X8_hold), (54, 0, 1, 7, 4, M_X7_cancel), (57, 0, 1, 8, 3, M_X8_cancel), (58, 0, 2, 7, 4, M_X7_priority), (61, 0, 2, 8, 3, M_X8_priority), (62, 0, 2, 7, 2, M_X7_jobInfo), (65, 0, 2, 8, 5, M_X8_jobInfo), (66, 0, 1, 7, 3, M_X7_queued), (69, 0, 1, 8, 3, M_X8_queued), (70, 0, 1, 7, 7, M_X7_run), (73, 0, 1, 8, 8, M_X8_run), (74, 0, 0, 7, 6, M_X7_stop), (77, 0, 0, 8, 7, M_X8_stop), (78, 0, 1, 7, 2, M_X7_count), (81, 0, 1, 8, 3, M_X8_count), (82, 0, 1, 7, 1, M_X7_account), (85, 0, 1, 8, 1, M_X8_account), (86, 0, 2, 7, 1, M_X7_paper), (89, 0, 2, 8, 1, M_X8_paper), (90, 0, 2, 7, 3, M_X7_lacking), (93, 0, 2, 8, 4, M_X8_lacking), (94, 0, 1, 7, 7, M_X7_ticksTo), (97, 0, 1, 8, 8, M_X8_ticksTo), (98, 0, 0, 7, 4, M_X7_undo), (101, 0, 0, 8, 0, M_X8_undo), (102, 0, 1, 7, 2, M_X7_type), (105, 0, 1, 8, 1, M_X8_type), (106, 0, 0, 7, 0, M_X7_clearText), (109, 0, 0, 8, 0, M_X8_clearText), (110, 0, 1, 7, 10, M_X7_fault), (113, 0, 1, 8, 5, M_X8_fault), (114, 0, 0, 7, 10, M_X7_enter), (117, 0, 0, 8, 5, M_X8_enter)]
theorem mthO_9 : ∀ e ∈ mthL_9, callOK 9 e.1 e.2.1 e.2.2.1 e.2.2.2.1 e.2.2.2.2.1 e.2.2.2.2.2 := List.forall_mem_cons.mpr ⟨ca_9_9, List.forall_mem_cons.mpr ⟨ca_9_12, List.forall_mem_cons.mpr ⟨ca_9_13, List.forall_mem_cons.mpr ⟨ca_9_17, List.forall_mem_cons.mpr ⟨ca_9_18, List.forall_mem_cons.mpr ⟨ca_9_22, List.forall_mem_cons.mpr ⟨ca_9_23, List.forall_mem_cons.mpr ⟨ca_9_26, List.forall_mem_cons.mpr ⟨ca_9_27, List.forall_mem_cons.mpr ⟨ca_9_31, List.forall_mem_cons.mpr ⟨ca_9_32, List.forall_mem_cons.mpr ⟨ca_9_36, List.forall_mem_cons.mpr ⟨ca_9_37, List.forall_mem_cons.mpr ⟨ca_9_40, List.forall_mem_cons.mpr ⟨ca_9_41, List.forall_mem_cons.mpr ⟨ca_9_45, List.forall_mem_cons.mpr ⟨ca_9_46, List.forall_mem_cons.mpr ⟨ca_9_49, List.forall_mem_cons.mpr ⟨ca_9_50, List.forall_mem_cons.mpr ⟨ca_9_53, List.forall_mem_cons.mpr ⟨ca_9_54, List.forall_mem_cons.mpr ⟨ca_9_57, List.forall_mem_cons.mpr ⟨ca_9_58, List.forall_mem_cons.mpr ⟨ca_9_61, List.forall_mem_cons.mpr ⟨ca_9_62, List.forall_mem_cons.mpr ⟨ca_9_65, List.forall_mem_cons.mpr ⟨ca_9_66, List.forall_mem_cons.mpr ⟨ca_9_69, List.forall_mem_cons.mpr ⟨ca_9_70, List.forall_mem_cons.mpr ⟨ca_9_73, List.forall_mem_cons.mpr ⟨ca_9_74, List.forall_mem_cons.mpr ⟨ca_9_77, List.forall_mem_cons.mpr ⟨ca_9_78, List.forall_mem_cons.mpr ⟨ca_9_81, List.forall_mem_cons.mpr ⟨ca_9_82, List.forall_mem_cons.mpr ⟨ca_9_85, List.forall_mem_cons.mpr ⟨ca_9_86, List.forall_mem_cons.mpr ⟨ca_9_89, List.forall_mem_cons.mpr ⟨ca_9_90, List.forall_mem_cons.mpr ⟨ca_9_93, List.forall_mem_cons.mpr ⟨ca_9_94, List.forall_mem_cons.mpr ⟨ca_9_97, List.forall_mem_cons.mpr ⟨ca_9_98, List.forall_mem_cons.mpr ⟨ca_9_101, List.forall_mem_cons.mpr ⟨ca_9_102, List.forall_mem_cons.mpr ⟨ca_9_105, List.forall_mem_cons.mpr ⟨ca_9_106, List.forall_mem_cons.mpr ⟨ca_9_109, List.forall_mem_cons.mpr ⟨ca_9_110, List.forall_mem_cons.mpr ⟨ca_9_113, List.forall_mem_cons.mpr ⟨ca_9_114, List.forall_mem_cons.mpr ⟨ca_9_117, fun _ h => absurd h List.not_mem_nil⟩⟩⟩⟩⟩⟩⟩⟩⟩⟩⟩⟩⟩⟩⟩⟩⟩⟩⟩⟩⟩⟩⟩⟩⟩⟩⟩⟩⟩⟩⟩⟩⟩⟩⟩⟩⟩⟩⟩⟩⟩⟩⟩⟩⟩⟩⟩⟩⟩⟩⟩⟩
def mthL (c : Nat) : List (Nat × Nat × Nat × Nat × Nat × MI) := match c with
  | 0 => mthL_0
  | 1 => mthL_1
  | 2 => mthL_2
  | 3 => mthL_3
  | 4 => mthL_4
  | 5 => mthL_5
  | 6 => mthL_6
  | 7 => mthL_7
  | 8 => mthL_8
  | 9 => mthL_9
  | _ => []
theorem mthO : ∀ c, ∀ e ∈ mthL c, callOK c e.1 e.2.1 e.2.2.1 e.2.2.2.1 e.2.2.2.2.1 e.2.2.2.2.2 := by
  intro c
  match c with
  | 0 => exact mthO_0
  | 1 => exact mthO_1
  | 2 => exact mthO_2
  | 3 => exact mthO_3
  | 4 => exact mthO_4
  | 5 => exact mthO_5
  | 6 => exact mthO_6
  | 7 => exact mthO_7
  | 8 => exact mthO_8
  | 9 => exact mthO_9
  | n + 10 => exact fun e h => absurd h List.not_mem_nil
def mthR (c i : Nat) : Option (Nat × Nat × Nat × Nat × MI) := ((mthL c).find? (fun e => e.1 == i)).map (fun e => e.2)
theorem mthOK {c i kd n cl lv : Nat} {M : MI} (h : mthR c i = some (kd, n, cl, lv, M)) : callOK c i kd n cl lv M := by
  unfold mthR at h
  cases hf : (mthL c).find? (fun e => e.1 == i) with
  | none => rw [hf] at h; cases h
  | some e =>
    rw [hf] at h
    have h1 := List.find?_some hf
    have h2 := mthO c e (List.mem_of_find?_eq_some hf)
    obtain ⟨a, b, d, f, u, v⟩ := e
    simp only [Option.map_some, Option.some.injEq, Prod.mk.injEq] at h
    simp only [beq_iff_eq] at h1
    obtain ⟨rfl, rfl, rfl, rfl, rfl⟩ := h
    subst h1
    exact h2
theorem mr_0 : mthR 0 17 = some (2, 0, 4, 3, M_X4_init) ∧ mthR 0 22 = some (0, 0, 0, 0, M_X0_dropOldest) ∧ mthR 0 25 = some (0, 1, 4, 2, M_X4_copyFrom) := ⟨rfl, rfl, rfl⟩
theorem mr_1 : mthR 1 58 = some (3, 3, 7, 0, M_X7_isWithin) ∧ mthR 1 62 = some (0, 0, 1, 0, M_X1_nextSheet) ∧ mthR 1 66 = some (0, 0, 1, 0, M_X1_nextCopy) := ⟨rfl, rfl, rfl⟩
theorem mr_2 : mthR 2 19 = some (3, 2, 7, 0, M_X7_isBelow) ∧ mthR 2 33 = some (0, 0, 5, 0, M_X5_room) ∧ mthR 2 51 = some (0, 3, 2, 8, M_X2_reasonOfNext) ∧ mthR 2 55 = some (0, 1, 2, 7, M_X2_readJob) ∧ mthR 2 59 = some (0, 0, 1, 1, M_X1_isInRange) ∧ mthR 2 65 = some (0, 1, 1, 0, M_X1_staplingRefusal) ∧ mthR 2 71 = some (0, 1, 2, 6, M_X2_readNumber) ∧ mthR 2 77 = some (0, 0, 2, 6, M_X2_readHow) ∧ mthR 2 80 = some (0, 0, 2, 6, M_X2_readSize) ∧ mthR 2 83 = some (0, 0, 2, 6, M_X2_readKind) ∧ mthR 2 86 = some (0, 5, 1, 0, M_X1_describe) ∧ mthR 2 90 = some (0, 0, 2, 0, M_X2_digitAtPlace) ∧ mthR 2 93 = some (0, 1, 2, 5, M_X2_skips) ∧ mthR 2 105 = some (1, 1, 2, 0, M_X2_sizeWord) ∧ mthR 2 109 = some (1, 1, 2, 0, M_X2_kindWord) := ⟨rfl, rfl, rfl, rfl, rfl, rfl, rfl, rfl, rfl, rfl, rfl, rfl, rfl, rfl, rfl⟩
theorem mr_3 : mthR 3 37 = some (3, 2, 7, 0, M_X7_isBelow) ∧ mthR 3 41 = some (0, 2, 3, 1, M_X3_add) := ⟨rfl, rfl⟩
theorem mr_4 : mthR 4 11 = some (4, 0, 6, 1, M_X6_init) ∧ mthR 4 20 = some (2, 0, 5, 2, M_X5_init) ∧ mthR 4 27 = some (4, 0, 3, 1, M_X3_init) ∧ mthR 4 52 = some (0, 1, 6, 1, M_X6_copyFrom) ∧ mthR 4 56 = some (0, 1, 5, 1, M_X5_copyFrom) ∧ mthR 4 59 = some (0, 1, 3, 1, M_X3_copyFrom) ∧ mthR 4 71 = some (0, 0, 4, 5, M_X4_findWork) ∧ mthR 4 75 = some (0, 1, 4, 5, M_X4_goOnWorking) ∧ mthR 4 79 = some (0, 2, 3, 1, M_X3_add) ∧ mthR 4 83 = some (0, 1, 5, 0, M_X5_find) ∧ mthR 4 87 = some (0, 0, 5, 1, M_X5_next) ∧ mthR 4 91 = some (0, 1, 4, 1, M_X4_stopReason) ∧ mthR 4 95 = some (0, 0, 1, 0, M_X1_hasSetToStaple) ∧ mthR 4 101 = some (0, 1, 4, 4, M_X4_beginStapling) ∧ mthR 4 105 = some (0, 1, 4, 3, M_X4_beginSheet) ∧ mthR 4 117 = some (0, 2, 6, 0, M_X6_lowestWith) ∧ mthR 4 121 = some (0, 2, 6, 1, M_X6_takeSheet) ∧ mthR 4 124 = some (0, 2, 3, 2, M_X3_addTakenSheet) ∧ mthR 4 133 = some (0, 0, 1, 1, M_X1_sidesOfNextSheet) ∧ mthR 4 136 = some (0, 1, 4, 3, M_X4_finishStapling) ∧ mthR 4 144 = some (0, 0, 4, 4, M_X4_finishWork) ∧ mthR 4 147 = some (0, 1, 4, 3, M_X4_finishSheet) ∧ mthR 4 156 = some (0, 1, 4, 2, M_X4_removeIfFinished) ∧ mthR 4 162 = some (0, 0, 1, 0, M_X1_isFinished) ∧ mthR 4 165 = some (0, 1, 5, 0, M_X5_remove) ∧ mthR 4 168 = some (0, 1, 4, 2, M_X4_giveUpWorkOf) ∧ mthR 4 172 = some (0, 2, 5, 1, M_X5_sheetsToPrint) ∧ mthR 4 175 = some (0, 2, 6, 0, M_X6_sheetsOf) ∧ mthR 4 178 = some (0, 2, 1, 0, M_X1_isOn) := ⟨rfl, rfl, rfl, rfl, rfl, rfl, rfl, rfl, rfl, rfl, rfl, rfl, rfl, rfl, rfl, rfl, rfl, rfl, rfl, rfl, rfl, rfl, rfl, rfl, rfl, rfl, rfl, rfl, rfl⟩
theorem mr_5 : mthR 5 21 = some (4, 0, 1, 1, M_X1_init) ∧ mthR 5 28 = some (0, 1, 1, 0, M_X1_copyFrom) ∧ mthR 5 42 = some (0, 2, 5, 0, M_X5_isAhead) ∧ mthR 5 46 = some (0, 1, 5, 1, M_X5_jobsAheadOf) ∧ mthR 5 50 = some (0, 2, 1, 0, M_X1_isOn) := ⟨rfl, rfl, rfl, rfl, rfl⟩
theorem mr_6 : mthR 6 27 = some (3, 2, 7, 0, M_X7_isBelow) ∧ mthR 6 31 = some (0, 2, 6, 0, M_X6_lowestWith) := ⟨rfl, rfl⟩
theorem mr_7 : mthR 7 11 = some (2, 0, 4, 3, M_X4_init) ∧ mthR 7 21 = some (2, 0, 0, 4, M_X0_init) ∧ mthR 7 28 = some (4, 0, 2, 1, M_X2_init) ∧ mthR 7 35 = some (4, 0, 1, 1, M_X1_init) ∧ mthR 7 40 = some (1, 2, 7, 0, M_X7_isBelow) ∧ mthR 7 44 = some (1, 3, 7, 0, M_X7_isWithin) ∧ mthR 7 58 = some (0, 1, 0, 3, M_X0_keep) ∧ mthR 7 62 = some (1, 2, 7, 1, M_X7_isPaper) ∧ mthR 7 65 = some (0, 3, 6, 1, M_X6_change) ∧ mthR 7 75 = some (0, 2, 6, 0, M_X6_sheetsOf) ∧ mthR 7 95 = some (0, 5, 1, 0, M_X1_describe) ∧ mthR 7 99 = some (0, 0, 1, 1, M_X1_isInRange) ∧ mthR 7 103 = some (0, 1, 1, 0, M_X1_staplingRefusal) ∧ mthR 7 114 = some (0, 0, 5, 0, M_X5_room) ∧ mthR 7 120 = some (0, 1, 5, 1, M_X5_append) ∧ mthR 7 124 = some (0, 1, 5, 0, M_X5_find) ∧ mthR 7 132 = some (0, 1, 4, 3, M_X4_interrupt) ∧ mthR 7 139 = some (0, 1, 5, 0, M_X5_remove) ∧ mthR 7 146 = some (0, 2, 3, 1, M_X3_add) ∧ mthR 7 155 = some (0, 1, 1, 1, M_X1_property) ∧ mthR 7 158 = some (0, 1, 5, 2, M_X5_at) ∧ mthR 7 168 = some (0, 1, 4, 6, M_X4_letGoBy) ∧ mthR 7 172 = some (0, 1, 4, 2, M_X4_copyFrom) ∧ mthR 7 175 = some (0, 0, 4, 5, M_X4_findWork) ∧ mthR 7 181 = some (0, 0, 5, 0, M_X5_heldJobs) ∧ mthR 7 205 = some (0, 1, 7, 1, M_X7_settingAt) ∧ mthR 7 217 = some (0, 2, 4, 2, M_X4_lackingSheets) ∧ mthR 7 220 = some (0, 1, 4, 6, M_X4_ticksUntilGone) ∧ mthR 7 223 = some (0, 1, 0, 3, M_X0_restore) ∧ mthR 7 227 = some (0, 1, 2, 1, M_X2_append) ∧ mthR 7 230 = some (0, 2, 2, 9, M_X2_examine) ∧ mthR 7 246 = some (0, 1, 2, 7, M_X2_readJob) := ⟨rfl, rfl, rfl, rfl, rfl, rfl, rfl, rfl, rfl, rfl, rfl, rfl, rfl, rfl, rfl, rfl, rfl, rfl, rfl, rfl, rfl, rfl, rfl, rfl, rfl, rfl, rfl, rfl, rfl, rfl, rfl, rfl⟩
theorem mr_8 : mthR 8 32 = some (1, 3, 8, 0, M_X8_in) ∧ mthR 8 36 = some (1, 1, 8, 1, M_X8_isTray) ∧ mthR 8 40 = some (0, 0, 8, 0, M_X8_records) ∧ mthR 8 43 = some (1, 2, 8, 1, M_X8_isPaper) ∧ mthR 8 47 = some (0, 3, 8, 0, M_X8_isOf) ∧ mthR 8 50 = some (0, 2, 8, 1, M_X8_sheetsOf) ∧ mthR 8 54 = some (0, 2, 8, 1, M_X8_puts) ∧ mthR 8 57 = some (1, 2, 8, 1, M_X8_isSetting) ∧ mthR 8 60 = some (1, 1, 8, 0, M_X8_jobAt) ∧ mthR 8 64 = some (0, 2, 8, 1, M_X8_of) ∧ mthR 8 67 = some (1, 2, 8, 0, M_X8_setOf) ∧ mthR 8 70 = some (1, 1, 8, 1, M_X8_isPages) ∧ mthR 8 73 = some (1, 1, 8, 1, M_X8_isCopies) ∧ mthR 8 76 = some (0, 3, 8, 1, M_X8_whyNot) ∧ mthR 8 80 = some (0, 5, 8, 1, M_X8_comes) ∧ mthR 8 84 = some (0, 0, 8, 0, M_X8_endsWork) ∧ mthR 8 87 = some (0, 1, 8, 2, M_X8_placeOf) ∧ mthR 8 90 = some (0, 1, 8, 1, M_X8_givesUp) ∧ mthR 8 94 = some (0, 1, 8, 1, M_X8_goesJob) ∧ mthR 8 97 = some (0, 1, 8, 2, M_X8_setSheets) ∧ mthR 8 100 = some (0, 1, 8, 2, M_X8_isGathered) ∧ mthR 8 103 = some (0, 1, 8, 3, M_X8_allSheets) ∧ mthR 8 106 = some (0, 1, 8, 3, M_X8_nextSheet) ∧ mthR 8 109 = some (0, 1, 8, 3, M_X8_nextCopy) ∧ mthR 8 112 = some (0, 2, 8, 4, M_X8_tellJob) ∧ mthR 8 115 = some (0, 2, 8, 2, M_X8_isAhead) ∧ mthR 8 118 = some (0, 1, 8, 2, M_X8_staplesOf) ∧ mthR 8 121 = some (0, 1, 8, 3, M_X8_hasSet) ∧ mthR 8 124 = some (0, 1, 8, 4, M_X8_leaves) ∧ mthR 8 127 = some (0, 2, 8, 1, M_X8_takesPaper) ∧ mthR 8 131 = some (0, 1, 8, 4, M_X8_sides) ∧ mthR 8 134 = some (0, 0, 8, 3, M_X8_nextJob) ∧ mthR 8 138 = some (0, 1, 8, 4, M_X8_whyStop) ∧ mthR 8 141 = some (0, 1, 8, 5, M_X8_stapled) ∧ mthR 8 144 = some (0, 1, 8, 5, M_X8_beginsSheet) ∧ mthR 8 147 = some (0, 0, 8, 6, M_X8_finishes) ∧ mthR 8 151 = some (0, 0, 8, 6, M_X8_begins) ∧ mthR 8 154 = some (0, 2, 8, 7, M_X8_goesBy) ∧ mthR 8 157 = some (0, 0, 8, 0, M_X8_keeps) ∧ mthR 8 160 = some (0, 0, 8, 0, M_X8_takesBack) ∧ mthR 8 163 = some (0, 0, 8, 2, M_X8_heldOnes) ∧ mthR 8 172 = some (0, 1, 8, 0, M_X8_isAt) ∧ mthR 8 175 = some (0, 1, 8, 1, M_X8_takes) ∧ mthR 8 198 = some (1, 2, 8, 0, M_X8_letterAt) ∧ mthR 8 201 = some (0, 1, 8, 1, M_X8_takesWord) ∧ mthR 8 204 = some (0, 2, 8, 2, M_X8_takesNumber) ∧ mthR 8 207 = some (0, 1, 8, 2, M_X8_takesOption) ∧ mthR 8 210 = some (0, 0, 8, 2, M_X8_takesSize) ∧ mthR 8 214 = some (0, 0, 8, 2, M_X8_takesKind) ∧ mthR 8 220 = some (0, 0, 8, 3, M_X8_takesJob) ∧ mthR 8 229 = some (0, 0, 8, 4, M_X8_hasFault) := ⟨rfl, rfl, rfl, rfl, rfl, rfl, rfl, rfl, rfl, rfl, rfl, rfl, rfl, rfl, rfl, rfl, rfl, rfl, rfl, rfl, rfl, rfl, rfl, rfl, rfl, rfl, rfl, rfl, rfl, rfl, rfl, rfl, rfl, rfl, rfl, rfl, rfl, rfl, rfl, rfl, rfl, rfl, rfl, rfl, rfl, rfl, rfl, rfl, rfl, rfl, rfl⟩
theorem mr_9 : mthR 9 9 = some (2, 0, 7, 5, M_X7_init) ∧ mthR 9 12 = some (2, 0, 8, 1, M_X8_init) ∧ mthR 9 13 = some (0, 2, 7, 4, M_X7_fill) ∧ mthR 9 17 = some (0, 2, 8, 2, M_X8_fill) ∧ mthR 9 18 = some (0, 3, 7, 4, M_X7_load) ∧ mthR 9 22 = some (0, 3, 8, 2, M_X8_load) ∧ mthR 9 23 = some (0, 2, 7, 1, M_X7_tray) ∧ mthR 9 26 = some (0, 2, 8, 2, M_X8_tray) ∧ mthR 9 27 = some (0, 1, 7, 4, M_X7_staples) ∧ mthR 9 31 = some (0, 1, 8, 2, M_X8_staples) ∧ mthR 9 32 = some (0, 0, 7, 4, M_X7_emptyBin) ∧ mthR 9 36 = some (0, 0, 8, 2, M_X8_emptyBin) ∧ mthR 9 37 = some (0, 2, 7, 4, M_X7_set) ∧ mthR 9 40 = some (0, 2, 8, 2, M_X8_set) ∧ mthR 9 41 = some (0, 5, 7, 4, M_X7_job) ∧ mthR 9 45 = some (0, 5, 8, 2, M_X8_job) ∧ mthR 9 46 = some (0, 0, 7, 0, M_X7_refusal) ∧ mthR 9 49 = some (0, 0, 8, 0, M_X8_refusal) ∧ mthR 9 50 = some (0, 2, 7, 4, M_X7_hold) ∧ mthR 9 53 = some (0, 2, 8, 3, M_X8_hold) ∧ mthR 9 54 = some (0, 1, 7, 4, M_X7_cancel) ∧ mthR 9 57 = some (0, 1, 8, 3, M_X8_cancel) ∧ mthR 9 58 = some (0, 2, 7, 4, M_X7_priority) ∧ mthR 9 61 = some (0, 2, 8, 3, M_X8_priority) ∧ mthR 9 62 = some (0, 2, 7, 2, M_X7_jobInfo) ∧ mthR 9 65 = some (0, 2, 8, 5, M_X8_jobInfo) ∧ mthR 9 66 = some (0, 1, 7, 3, M_X7_queued) ∧ mthR 9 69 = some (0, 1, 8, 3, M_X8_queued) ∧ mthR 9 70 = some (0, 1, 7, 7, M_X7_run) ∧ mthR 9 73 = some (0, 1, 8, 8, M_X8_run) ∧ mthR 9 74 = some (0, 0, 7, 6, M_X7_stop) ∧ mthR 9 77 = some (0, 0, 8, 7, M_X8_stop) ∧ mthR 9 78 = some (0, 1, 7, 2, M_X7_count) ∧ mthR 9 81 = some (0, 1, 8, 3, M_X8_count) ∧ mthR 9 82 = some (0, 1, 7, 1, M_X7_account) ∧ mthR 9 85 = some (0, 1, 8, 1, M_X8_account) ∧ mthR 9 86 = some (0, 2, 7, 1, M_X7_paper) ∧ mthR 9 89 = some (0, 2, 8, 1, M_X8_paper) ∧ mthR 9 90 = some (0, 2, 7, 3, M_X7_lacking) ∧ mthR 9 93 = some (0, 2, 8, 4, M_X8_lacking) ∧ mthR 9 94 = some (0, 1, 7, 7, M_X7_ticksTo) ∧ mthR 9 97 = some (0, 1, 8, 8, M_X8_ticksTo) ∧ mthR 9 98 = some (0, 0, 7, 4, M_X7_undo) ∧ mthR 9 101 = some (0, 0, 8, 0, M_X8_undo) ∧ mthR 9 102 = some (0, 1, 7, 2, M_X7_type) ∧ mthR 9 105 = some (0, 1, 8, 1, M_X8_type) ∧ mthR 9 106 = some (0, 0, 7, 0, M_X7_clearText) ∧ mthR 9 109 = some (0, 0, 8, 0, M_X8_clearText) ∧ mthR 9 110 = some (0, 1, 7, 10, M_X7_fault) ∧ mthR 9 113 = some (0, 1, 8, 5, M_X8_fault) ∧ mthR 9 114 = some (0, 0, 7, 10, M_X7_enter) ∧ mthR 9 117 = some (0, 0, 8, 5, M_X8_enter) := ⟨rfl, rfl, rfl, rfl, rfl, rfl, rfl, rfl, rfl, rfl, rfl, rfl, rfl, rfl, rfl, rfl, rfl, rfl, rfl, rfl, rfl, rfl, rfl, rfl, rfl, rfl, rfl, rfl, rfl, rfl, rfl, rfl, rfl, rfl, rfl, rfl, rfl, rfl, rfl, rfl, rfl, rfl, rfl, rfl, rfl, rfl, rfl, rfl, rfl, rfl, rfl, rfl⟩
def othL : List (Nat × Nat × Nat × Nat) := [(7, 3, 0, 64), (0, 3, 0, 263), (1, 3, 0, 105), (2, 3, 0, 280), (2, 128, 4, 684), (2, 132, 5, 694), (3, 3, 0, 188), (3, 24, 1, 366), (4, 3, 0, 72), (4, 46, 1, 216), (4, 139, 2, 535), (4, 182, 3, 622), (5, 3, 0, 98), (6, 3, 0, 78), (6, 21, 1, 353), (8, 1, 0, 777)]
def othN : Nat → MethodName := fun k => match k with
  | 0 => objectInit
  | 1 => arraycopyName
  | 2 => Lib.Math.min.name
  | 3 => Lib.Math.max.name
  | 4 => yJ0_length_8abf5
  | _ => yJ0_charAt_5068e
def othR (c i : Nat) : Option Nat := (othL.find? (fun e => e.1 == c && e.2.1 == i)).map (fun e => e.2.2.1)
theorem othBs : othL.all (fun e => decide (lw_tbl[e.2.2.2]? = some (Cond.methodLink (RXs e.1) e.2.1 (othN e.2.2.1)))) = true := by decide +kernel
theorem othOK {c i k : Nat} (h : othR c i = some k) : Cond.methodLink (RXs c) i (othN k) ∈ UW := by
  unfold othR at h
  cases hf : othL.find? (fun e => e.1 == c && e.2.1 == i) with
  | none => rw [hf] at h; cases h
  | some e =>
    rw [hf] at h
    have h1 := List.find?_some hf
    have h2 := List.all_eq_true.mp othBs e (List.mem_of_find?_eq_some hf)
    obtain ⟨a, b, d, f⟩ := e
    simp only [Option.map_some, Option.some.injEq] at h
    simp only [Bool.and_eq_true, beq_iff_eq] at h1
    obtain ⟨rfl, rfl⟩ := h1
    subst h
    exact uw f (of_decide_eq_true h2) rfl
theorem or_a : othR 7 3 = some 0 ∧ othR 0 3 = some 0 ∧ othR 1 3 = some 0 ∧ othR 2 3 = some 0 ∧ othR 2 128 = some 4 ∧ othR 2 132 = some 5 ∧ othR 3 3 = some 0 ∧ othR 3 24 = some 1 ∧ othR 4 3 = some 0 ∧ othR 4 46 = some 1 ∧ othR 4 139 = some 2 ∧ othR 4 182 = some 3 ∧ othR 5 3 = some 0 ∧ othR 6 3 = some 0 ∧ othR 6 21 = some 1 ∧ othR 8 1 = some 0 := ⟨rfl, rfl, rfl, rfl, rfl, rfl, rfl, rfl, rfl, rfl, rfl, rfl, rfl, rfl, rfl, rfl⟩
theorem or_n : othR 0 17 = none ∧ othR 0 22 = none ∧ othR 0 25 = none ∧ othR 1 58 = none ∧ othR 1 62 = none ∧ othR 1 66 = none ∧ othR 2 19 = none ∧ othR 2 33 = none ∧ othR 2 51 = none ∧ othR 2 55 = none ∧ othR 2 59 = none ∧ othR 2 65 = none ∧ othR 2 71 = none ∧ othR 2 77 = none ∧ othR 2 80 = none ∧ othR 2 83 = none ∧ othR 2 86 = none ∧ othR 2 90 = none ∧ othR 2 93 = none ∧ othR 2 105 = none ∧ othR 2 109 = none ∧ othR 3 37 = none ∧ othR 3 41 = none ∧ othR 4 11 = none ∧ othR 4 20 = none ∧ othR 4 27 = none ∧ othR 4 52 = none ∧ othR 4 56 = none ∧ othR 4 59 = none ∧ othR 4 71 = none ∧ othR 4 75 = none ∧ othR 4 79 = none ∧ othR 4 83 = none ∧ othR 4 87 = none ∧ othR 4 91 = none ∧ othR 4 95 = none ∧ othR 4 101 = none ∧ othR 4 105 = none ∧ othR 4 117 = none ∧ othR 4 121 = none ∧ othR 4 124 = none ∧ othR 4 133 = none ∧ othR 4 136 = none ∧ othR 4 144 = none ∧ othR 4 147 = none ∧ othR 4 156 = none ∧ othR 4 162 = none ∧ othR 4 165 = none ∧ othR 4 168 = none ∧ othR 4 172 = none ∧ othR 4 175 = none ∧ othR 4 178 = none ∧ othR 5 21 = none ∧ othR 5 28 = none ∧ othR 5 42 = none ∧ othR 5 46 = none ∧ othR 5 50 = none ∧ othR 6 27 = none ∧ othR 6 31 = none ∧ othR 7 11 = none ∧ othR 7 21 = none ∧ othR 7 28 = none ∧ othR 7 35 = none ∧ othR 7 40 = none ∧ othR 7 44 = none ∧ othR 7 58 = none ∧ othR 7 62 = none ∧ othR 7 65 = none ∧ othR 7 75 = none ∧ othR 7 95 = none ∧ othR 7 99 = none ∧ othR 7 103 = none ∧ othR 7 114 = none ∧ othR 7 120 = none ∧ othR 7 124 = none ∧ othR 7 132 = none ∧ othR 7 139 = none ∧ othR 7 146 = none ∧ othR 7 155 = none ∧ othR 7 158 = none ∧ othR 7 168 = none ∧ othR 7 172 = none ∧ othR 7 175 = none ∧ othR 7 181 = none ∧ othR 7 205 = none ∧ othR 7 217 = none ∧ othR 7 220 = none ∧ othR 7 223 = none ∧ othR 7 227 = none ∧ othR 7 230 = none ∧ othR 7 246 = none ∧ othR 8 32 = none ∧ othR 8 36 = none ∧ othR 8 40 = none ∧ othR 8 43 = none ∧ othR 8 47 = none ∧ othR 8 50 = none ∧ othR 8 54 = none ∧ othR 8 57 = none ∧ othR 8 60 = none ∧ othR 8 64 = none ∧ othR 8 67 = none ∧ othR 8 70 = none ∧ othR 8 73 = none ∧ othR 8 76 = none ∧ othR 8 80 = none ∧ othR 8 84 = none ∧ othR 8 87 = none ∧ othR 8 90 = none ∧ othR 8 94 = none ∧ othR 8 97 = none ∧ othR 8 100 = none ∧ othR 8 103 = none ∧ othR 8 106 = none ∧ othR 8 109 = none ∧ othR 8 112 = none ∧ othR 8 115 = none ∧ othR 8 118 = none ∧ othR 8 121 = none ∧ othR 8 124 = none ∧ othR 8 127 = none ∧ othR 8 131 = none ∧ othR 8 134 = none ∧ othR 8 138 = none ∧ othR 8 141 = none ∧ othR 8 144 = none ∧ othR 8 147 = none ∧ othR 8 151 = none ∧ othR 8 154 = none ∧ othR 8 157 = none ∧ othR 8 160 = none ∧ othR 8 163 = none ∧ othR 8 172 = none ∧ othR 8 175 = none ∧ othR 8 198 = none ∧ othR 8 201 = none ∧ othR 8 204 = none ∧ othR 8 207 = none ∧ othR 8 210 = none ∧ othR 8 214 = none ∧ othR 8 220 = none ∧ othR 8 229 = none ∧ othR 9 9 = none ∧ othR 9 12 = none ∧ othR 9 13 = none ∧ othR 9 17 = none ∧ othR 9 18 = none ∧ othR 9 22 = none ∧ othR 9 23 = none ∧ othR 9 26 = none ∧ othR 9 27 = none ∧ othR 9 31 = none ∧ othR 9 32 = none ∧ othR 9 36 = none ∧ othR 9 37 = none ∧ othR 9 40 = none ∧ othR 9 41 = none ∧ othR 9 45 = none ∧ othR 9 46 = none ∧ othR 9 49 = none ∧ othR 9 50 = none ∧ othR 9 53 = none ∧ othR 9 54 = none ∧ othR 9 57 = none ∧ othR 9 58 = none ∧ othR 9 61 = none ∧ othR 9 62 = none ∧ othR 9 65 = none ∧ othR 9 66 = none ∧ othR 9 69 = none ∧ othR 9 70 = none ∧ othR 9 73 = none ∧ othR 9 74 = none ∧ othR 9 77 = none ∧ othR 9 78 = none ∧ othR 9 81 = none ∧ othR 9 82 = none ∧ othR 9 85 = none ∧ othR 9 86 = none ∧ othR 9 89 = none ∧ othR 9 90 = none ∧ othR 9 93 = none ∧ othR 9 94 = none ∧ othR 9 97 = none ∧ othR 9 98 = none ∧ othR 9 101 = none ∧ othR 9 102 = none ∧ othR 9 105 = none ∧ othR 9 106 = none ∧ othR 9 109 = none ∧ othR 9 110 = none ∧ othR 9 113 = none ∧ othR 9 114 = none ∧ othR 9 117 = none := ⟨rfl, rfl, rfl, rfl, rfl, rfl, rfl, rfl, rfl, rfl, rfl, rfl, rfl, rfl, rfl, rfl, rfl, rfl, rfl, rfl, rfl, rfl, rfl, rfl, rfl, rfl, rfl, rfl, rfl, rfl, rfl, rfl, rfl, rfl, rfl, rfl, rfl, rfl, rfl, rfl, rfl, rfl, rfl, rfl, rfl, rfl, rfl, rfl, rfl, rfl, rfl, rfl, rfl, rfl, rfl, rfl, rfl, rfl, rfl, rfl, rfl, rfl, rfl, rfl, rfl, rfl, rfl, rfl, rfl, rfl, rfl, rfl, rfl, rfl, rfl, rfl, rfl, rfl, rfl, rfl, rfl, rfl, rfl, rfl, rfl, rfl, rfl, rfl, rfl, rfl, rfl, rfl, rfl, rfl, rfl, rfl, rfl, rfl, rfl, rfl, rfl, rfl, rfl, rfl, rfl, rfl, rfl, rfl, rfl, rfl, rfl, rfl, rfl, rfl, rfl, rfl, rfl, rfl, rfl, rfl, rfl, rfl, rfl, rfl, rfl, rfl, rfl, rfl, rfl, rfl, rfl, rfl, rfl, rfl, rfl, rfl, rfl, rfl, rfl, rfl, rfl, rfl, rfl, rfl, rfl, rfl, rfl, rfl, rfl, rfl, rfl, rfl, rfl, rfl, rfl, rfl, rfl, rfl, rfl, rfl, rfl, rfl, rfl, rfl, rfl, rfl, rfl, rfl, rfl, rfl, rfl, rfl, rfl, rfl, rfl, rfl, rfl, rfl, rfl, rfl, rfl, rfl, rfl, rfl, rfl, rfl, rfl, rfl, rfl, rfl, rfl, rfl, rfl, rfl⟩
theorem mr_n : mthR 7 3 = none ∧ mthR 0 3 = none ∧ mthR 1 3 = none ∧ mthR 2 3 = none ∧ mthR 2 128 = none ∧ mthR 2 132 = none ∧ mthR 3 3 = none ∧ mthR 3 24 = none ∧ mthR 4 3 = none ∧ mthR 4 46 = none ∧ mthR 4 139 = none ∧ mthR 4 182 = none ∧ mthR 5 3 = none ∧ mthR 6 3 = none ∧ mthR 6 21 = none ∧ mthR 8 1 = none := ⟨rfl, rfl, rfl, rfl, rfl, rfl, rfl, rfl, rfl, rfl, rfl, rfl, rfl, rfl, rfl, rfl⟩
theorem uoO : Cond.instanceMethod objectInit ∈ UW := uw 65 (by decide +kernel) rfl
theorem uoC : Cond.code objectInit ⟨#[0xb1]⟩ 1 none ∈ UW := uw 66 (by decide +kernel) rfl
theorem uaN : Cond.native arraycopyName ∈ UW := uw 218 (by decide +kernel) rfl
theorem uaS : Cond.static arraycopyName ∈ UW := uw 217 (by decide +kernel) rfl
theorem uaI : Cond.initialized "java/lang/System" ∈ UW := uw 50 (by decide +kernel) rfl
theorem umminS : Cond.static Lib.Math.min.name ∈ UW := uw 536 (by decide +kernel) rfl
theorem umminC : Cond.code Lib.Math.min.name Lib.Math.min.code 2 (some .int) ∈ UW := uw 537 (by decide +kernel) rfl
theorem ummaxS : Cond.static Lib.Math.max.name ∈ UW := uw 623 (by decide +kernel) rfl
theorem ummaxC : Cond.code Lib.Math.max.name Lib.Math.max.code 2 (some .int) ∈ UW := uw 624 (by decide +kernel) rfl
theorem umI : Cond.initialized "java/lang/Math" ∈ UW := uw 54 (by decide +kernel) rfl
theorem uLeast : Cond.fieldLink RX7 86 RX7 "LEAST_SETTING" "[I" ∈ UW := uw 399 (by decide +kernel) rfl
theorem uGreat : Cond.fieldLink RX7 89 RX7 "GREATEST_SETTING" "[I" ∈ UW := uw 401 (by decide +kernel) rfl
def clsL : List (Nat × Nat × Nat × Nat) := [(9, 7, 7, 59), (7, 9, 4, 67), (4, 9, 6, 73), (4, 18, 5, 93), (5, 9, 1, 99), (4, 25, 3, 183), (7, 19, 0, 258), (0, 9, 4, 264), (7, 26, 2, 275), (7, 33, 1, 306), (9, 10, 8, 772)]
def clsR (c i : Nat) : Option Nat := (clsL.find? (fun e => e.1 == c && e.2.1 == i)).map (fun e => e.2.2.1)
theorem clsBs : clsL.all (fun e => decide (e.2.2.1 < 9) && decide (lw_tbl[e.2.2.2]? = some (Cond.classLink (RXs e.1) e.2.1 (RXs e.2.2.1)))) = true := by decide +kernel
theorem clsOK {c i k : Nat} (h : clsR c i = some k) : k < 9 ∧ Cond.classLink (RXs c) i (RXs k) ∈ UW := by
  unfold clsR at h
  cases hf : clsL.find? (fun e => e.1 == c && e.2.1 == i) with
  | none => rw [hf] at h; cases h
  | some e =>
    rw [hf] at h
    have h1 := List.find?_some hf
    have h2 := List.all_eq_true.mp clsBs e (List.mem_of_find?_eq_some hf)
    obtain ⟨a, b, d, f⟩ := e
    simp only [Option.map_some, Option.some.injEq] at h
    simp only [Bool.and_eq_true, beq_iff_eq] at h1
    obtain ⟨rfl, rfl⟩ := h1
    subst h
    simp only [Bool.and_eq_true, decide_eq_true_eq] at h2
    exact ⟨h2.1, uw f h2.2 rfl⟩
theorem cr_a : clsR 9 7 = some 7 ∧ clsR 7 9 = some 4 ∧ clsR 4 9 = some 6 ∧ clsR 4 18 = some 5 ∧ clsR 5 9 = some 1 ∧ clsR 4 25 = some 3 ∧ clsR 7 19 = some 0 ∧ clsR 0 9 = some 4 ∧ clsR 7 26 = some 2 ∧ clsR 7 33 = some 1 ∧ clsR 9 10 = some 8 := by decide +kernel
theorem uac_int : Cond.arrayClass .int ∈ UW := uw 92 (by decide +kernel) rfl
theorem uac_char : Cond.arrayClass .char ∈ UW := uw 305 (by decide +kernel) rfl
def cnLt : List (Nat × Nat × Int64 × Nat) := [(8, 178, 1651471464, 1099), (8, 180, 113668262487410, 1100), (8, 182, 126943688158309, 1101), (8, 184, 65, 1102), (8, 186, 119183001281906, 1103), (8, 188, 482854660462, 1104), (8, 190, 499967943531, 1105), (8, 192, 27988534211274084, 1106), (8, 194, 1718185069, 1107), (8, 196, 255, 1108)]
def cnIt : List (Nat × Nat × Int32 × Nat) := [(7, 167, 1000000, 502), (8, 150, 1000000, 971)]
def cnIR (c i : Nat) : Option Int32 := (cnIt.find? (fun e => e.1 == c && e.2.1 == i)).map (fun e => e.2.2.1)
theorem cnIBs : cnIt.all (fun e => decide (lw_tbl[e.2.2.2]? = some (Cond.constant (RXs e.1) e.2.1 e.2.2.1))) = true := by decide +kernel
theorem cnIOK {c i : Nat} {k : Int32} (h : cnIR c i = some k) : Cond.constant (RXs c) i k ∈ UW := by
  unfold cnIR at h
  cases hf : cnIt.find? (fun e => e.1 == c && e.2.1 == i) with
  | none => rw [hf] at h; cases h
  | some e =>
    rw [hf] at h
    have h1 := List.find?_some hf
    have h2 := List.all_eq_true.mp cnIBs e (List.mem_of_find?_eq_some hf)
    obtain ⟨a, b, d, f⟩ := e
    simp only [Option.map_some, Option.some.injEq] at h
    simp only [Bool.and_eq_true, beq_iff_eq] at h1
    obtain ⟨rfl, rfl⟩ := h1
    subst h
    exact uw f (of_decide_eq_true h2) rfl
theorem cnI_a : cnIR 7 167 = some 1000000 ∧ cnIR 8 150 = some 1000000 := by decide +kernel
def cnLR (c i : Nat) : Option Int64 := (cnLt.find? (fun e => e.1 == c && e.2.1 == i)).map (fun e => e.2.2.1)
theorem cnLBs : cnLt.all (fun e => decide (lw_tbl[e.2.2.2]? = some (Cond.constantLong (RXs e.1) e.2.1 e.2.2.1))) = true := by decide +kernel
theorem cnLOK {c i : Nat} {k : Int64} (h : cnLR c i = some k) : Cond.constantLong (RXs c) i k ∈ UW := by
  unfold cnLR at h
  cases hf : cnLt.find? (fun e => e.1 == c && e.2.1 == i) with
  | none => rw [hf] at h; cases h
  | some e =>
    rw [hf] at h
    have h1 := List.find?_some hf
    have h2 := List.all_eq_true.mp cnLBs e (List.mem_of_find?_eq_some hf)
    obtain ⟨a, b, d, f⟩ := e
    simp only [Option.map_some, Option.some.injEq] at h
    simp only [Bool.and_eq_true, beq_iff_eq] at h1
    obtain ⟨rfl, rfl⟩ := h1
    subst h
    exact uw f (of_decide_eq_true h2) rfl
theorem cnL_a : cnLR 8 178 = some 1651471464 ∧ cnLR 8 180 = some 113668262487410 ∧ cnLR 8 182 = some 126943688158309 ∧ cnLR 8 184 = some 65 ∧ cnLR 8 186 = some 119183001281906 ∧ cnLR 8 188 = some 482854660462 ∧ cnLR 8 190 = some 499967943531 ∧ cnLR 8 192 = some 27988534211274084 ∧ cnLR 8 194 = some 1718185069 ∧ cnLR 8 196 = some 255 := by decide +kernel
