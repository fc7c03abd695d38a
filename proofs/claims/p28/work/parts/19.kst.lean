/-! A MACHINE'S STORE: cells by their places behind it, the jobs' places -/
def MB (b : Nat) : Prop := b = 1 ∨ b = 24 ∨ b = 49 ∨ b = 72 ∨ b = 95 ∨ b = 118
def srf (i : Nat) (q : Int) : Option Nat :=
  if i = 0 then (if q = 0 then some 1 else if q = 1 then some 5 else if q = 2 then some 17 else if q = 3 then some 22 else none)
  else if i = 1 then (if q = 0 then some 2 else if q = 1 then some 3 else if q = 2 then some 4 else none)
  else if i = 5 then (if q = 0 then some 6 else none)
  else if i = 17 then (if q = 0 then some 18 else if q = 1 then some 19 else if q = 2 then some 20 else if q = 3 then some 21 else none)
  else none
def kst (b : Nat) (σ : Sto) (c : Nat → Int → Int) (π : Int → Nat) : Sto :=
  (fun i => if b ≤ i ∧ i < b + 23 then c (i - b) else σ.1 i,
   fun i => if i = b + 6 then (fun j => some (b + π j)) else if b ≤ i ∧ i < b + 23 then (fun q => (srf (i - b) q).map (fun x => b + x)) else σ.2.1 i, σ.2.2)
theorem kb_lt {b i : Nat} (hB : MB b) (hi : i < 23) : b + i < 144 := by
  rcases hB with h | h | h | h | h | h <;> omega
theorem shB {b i : Nat} (hB : MB b) (hi : i < 23) : sh (b + i) = shM i := by
  have key : ∀ i : Nat, i < 23 → sh (1 + i) = shM i ∧ sh (24 + i) = shM i ∧ sh (49 + i) = shM i ∧ sh (72 + i) = shM i ∧ sh (95 + i) = shM i ∧ sh (118 + i) = shM i := by decide +kernel
  obtain ⟨k1, k2, k3, k4, k5, k6⟩ := key i hi
  rcases hB with h | h | h | h | h | h <;> rw [h] <;> assumption
theorem shM_j {i : Nat} (h0 : 7 ≤ i) (h1 : i ≤ 16) : shM i = (0, 1) := by
  have key : ∀ i : Nat, i < 17 → 7 ≤ i → shM i = (0, 1) := by decide +kernel
  exact key i (by omega) h0
theorem kst_1 {b : Nat} {σ : Sto} {c : Nat → Int → Int} {π : Int → Nat} {i : Nat} (hi : i < 23) : (kst b σ c π).1 (b + i) = c i := by
  show (if b ≤ b + i ∧ b + i < b + 23 then c (b + i - b) else σ.1 (b + i)) = c i
  rw [if_pos (by omega), show b + i - b = i by omega]
theorem kst_2 {b : Nat} {σ : Sto} {c : Nat → Int → Int} {π : Int → Nat} {i : Nat} (hi : i < 23) (h6 : ¬ i = 6) (q : Int) : (kst b σ c π).2.1 (b + i) q = (srf i q).map (fun x => b + x) := by
  show (if b + i = b + 6 then (fun j => some (b + π j)) else if b ≤ b + i ∧ b + i < b + 23 then (fun q => (srf (b + i - b) q).map (fun x => b + x)) else σ.2.1 (b + i)) q = _
  rw [if_neg (by omega), if_pos (by omega), show b + i - b = i by omega]
theorem kst_6 {b : Nat} {σ : Sto} {c : Nat → Int → Int} {π : Int → Nat} (j : Int) : (kst b σ c π).2.1 (b + 6) j = some (b + π j) := by
  show (if b + 6 = b + 6 then (fun j => some (b + π j)) else _) j = _
  rw [if_pos rfl]
theorem kst_o1 {b : Nat} {σ : Sto} {c : Nat → Int → Int} {π : Int → Nat} {j : Nat} (h : j < b ∨ b + 23 ≤ j) : (kst b σ c π).1 j = σ.1 j := by
  show (if b ≤ j ∧ j < b + 23 then _ else _) = _
  rw [if_neg (by omega)]
theorem kst_o2 {b : Nat} {σ : Sto} {c : Nat → Int → Int} {π : Int → Nat} {j : Nat} (h : j < b ∨ b + 23 ≤ j) : (kst b σ c π).2.1 j = σ.2.1 j := by
  show (if j = b + 6 then _ else if b ≤ j ∧ j < b + 23 then _ else _) = _
  rw [if_neg (by omega), if_neg (by omega)]
theorem kst_setI {b : Nat} {σ : Sto} {c : Nat → Int → Int} {π : Int → Nat} {i : Nat} {q x : Int} (hi : i < 23) : setI (kst b σ c π) (b + i) q x = kst b σ (up2 c i q x) π := by
  refine setI_eq rfl ?_ (fun j hj => ?_)
  · rw [kst_1 hi, kst_1 hi, up2_at]
  · by_cases h : b ≤ j ∧ j < b + 23
    · obtain ⟨m, rfl⟩ := Nat.exists_eq_add_of_le h.1
      rw [kst_1 (by omega), kst_1 (by omega), up2_ne (by omega)]
    · rw [kst_o1 (by omega), kst_o1 (by omega)]
theorem kst_setR {b : Nat} {σ : Sto} {c : Nat → Int → Int} {π : Int → Nat} {j : Int} {m : Nat} : setR (kst b σ c π) (b + 6) j (some (b + m)) = kst b σ c (up1 π j m) := by
  refine Prod.ext rfl (Prod.ext (funext fun a => ?_) rfl)
  show up2 (kst b σ c π).2.1 (b + 6) j (some (b + m)) a = (kst b σ c (up1 π j m)).2.1 a
  by_cases h : a = b + 6
  · subst h
    rw [up2_at]
    funext q
    rw [kst_6]
    unfold up1
    split
    · rfl
    · rw [kst_6]
  · rw [up2_ne h]
    show (if a = b + 6 then _ else _) = (if a = b + 6 then _ else _)
    rw [if_neg h, if_neg h]
section KST
variable {M : MI} {N1 pc : Nat} {ls : List (Nat × Value)} {st : List Value} {Q : Option Value → Sto → Prop} {σ : Sto} {b a i : Nat} {c : Nat → Int → Int} {π : Int → Nat} {ix ci k n : Nat} {q : Int}
theorem Vk_get (hB : MB b) (ha : a = b + i) (hi : i < 23) (hs : shM i = (0, ci)) (hf : fldR (miC M) ix = some (ci, k)) (hd : decode (miB M) pc = .ok (.getfield ix, 3)) (ht : isRf (tyXs ci k) = false) (hq : (k : Int) = q) (kk : V M N1 (pc + 3) ls (zI (c i q) :: st) 144 (kst b σ c π) Q) : V M N1 pc ls (.ref a :: st) 144 (kst b σ c π) Q := by
  subst ha
  refine V_get hf hd ht hq (kb_lt hB hi) ((shB hB hi).trans hs) ?_
  rw [kst_1 hi]
  exact kk
theorem Vk_getR {j : Nat} (hB : MB b) (ha : a = b + i) (hi : i < 23) (hs : shM i = (0, ci)) (hf : fldR (miC M) ix = some (ci, k)) (hd : decode (miB M) pc = .ok (.getfield ix, 3)) (ht : isRf (tyXs ci k) = true) (hq : (k : Int) = q) (h6 : ¬ i = 6) (hr : srf i q = some j) (kk : V M N1 (pc + 3) ls (.ref (b + j) :: st) 144 (kst b σ c π) Q) : V M N1 pc ls (.ref a :: st) 144 (kst b σ c π) Q := by
  subst ha
  refine V_getR hf hd ht hq (kb_lt hB hi) ((shB hB hi).trans hs) ?_ kk
  rw [kst_2 hi h6, hr]
  rfl
theorem Vk_put {x : Int} (hB : MB b) (ha : a = b + i) (hi : i < 23) (hs : shM i = (0, ci)) (hf : fldR (miC M) ix = some (ci, k)) (hd : decode (miB M) pc = .ok (.putfield ix, 3)) (ht : isRf (tyXs ci k) = false) (hq : (k : Int) = q) (hn : narrow (tyXs ci k) (zI x) = zI x) (hfit : fits (tyXs ci k) (zI x) = true) (hfin : (TXs ci k).2.2.2 = false) (kk : V M N1 (pc + 3) ls st 144 (kst b σ (up2 c i q x) π) Q) : V M N1 pc ls (zI x :: .ref a :: st) 144 (kst b σ c π) Q := by
  subst ha
  refine V_put hf hd ht hq hn hfit hfin (kb_lt hB hi) ((shB hB hi).trans hs) ?_
  rw [kst_setI hi]
  exact kk
theorem Vk_ld {j : Int} (hB : MB b) (ha : a = b + i) (hi : i < 23) (hs : shM i = (1, n)) (hn : n < 2147483648) (hd : decode (miB M) pc = .ok (.iaload, 1)) (h : 0 ≤ j ∧ j < (n : Int)) (kk : V M N1 (pc + 1) ls (zI (c i j) :: st) 144 (kst b σ c π) Q) : V M N1 pc ls (zI j :: .ref a :: st) 144 (kst b σ c π) Q := by
  subst ha
  refine V_iald hd (kb_lt hB hi) ((shB hB hi).trans hs) h.1 h.2 hn ?_
  rw [kst_1 hi]
  exact kk
theorem Vk_st {j x : Int} (hB : MB b) (ha : a = b + i) (hi : i < 23) (hs : shM i = (1, n)) (hn : n < 2147483648) (hd : decode (miB M) pc = .ok (.iastore, 1)) (h : 0 ≤ j ∧ j < (n : Int)) (kk : V M N1 (pc + 1) ls st 144 (kst b σ (up2 c i j x) π) Q) : V M N1 pc ls (zI x :: zI j :: .ref a :: st) 144 (kst b σ c π) Q := by
  subst ha
  refine V_iast hd (kb_lt hB hi) ((shB hB hi).trans hs) h.1 h.2 hn ?_
  rw [kst_setI hi]
  exact kk
theorem Vk_ald {j : Int} (hB : MB b) (ha : a = b + 6) (hd : decode (miB M) pc = .ok (.aaload, 1)) (h : 0 ≤ j ∧ j < 10) (kk : V M N1 (pc + 1) ls (.ref (b + π j) :: st) 144 (kst b σ c π) Q) : V M N1 pc ls (zI j :: .ref a :: st) 144 (kst b σ c π) Q := by
  subst ha
  exact V_aald (k := 1) (n := 10) hd (kb_lt hB (by decide)) ((shB hB (by decide)).trans rfl) (Or.inl rfl) h.1 h.2 (by decide) (kst_6 j) kk
theorem Vk_ast {j : Int} {v m : Nat} (hB : MB b) (ha : a = b + 6) (hv : v = b + m) (hm : 7 ≤ m ∧ m ≤ 16) (hd : decode (miB M) pc = .ok (.aastore, 1)) (h : 0 ≤ j ∧ j < 10) (kk : V M N1 (pc + 1) ls st 144 (kst b σ c (up1 π j m)) Q) : V M N1 pc ls (.ref v :: zI j :: .ref a :: st) 144 (kst b σ c π) Q := by
  subst ha
  subst hv
  refine V_aast (k := 1) (n := 10) hd (kb_lt hB (by decide)) ((shB hB (by decide)).trans rfl) (Or.inl rfl) (kb_lt hB (by omega)) ((shB hB (by omega)).trans (shM_j hm.1 hm.2)) h.1 h.2 (by decide) ?_
  rw [kst_setR]
  exact kk
end KST
/-! what a machine's cells are of a row -/
theorem up2_o {α : Type} {f : Nat → Int → α} {i a : Nat} {k q : Int} {v : α} (h : ¬ (a = i ∧ q = k)) : up2 f i k v a q = f a q := if_neg h
theorem up2_e {α : Type} {f : Nat → Int → α} {i : Nat} {k : Int} {v : α} : up2 f i k v i k = v := if_pos ⟨rfl, rfl⟩
def TR (c : Nat → Int → Int) (r : Int → Int) : Prop := ∀ t : Int, 0 ≤ t → t < 4 → c 2 t = r (25 + 3 * t) ∧ c 3 t = r (25 + 3 * t + 1) ∧ c 4 t = r (25 + 3 * t + 2)
def LR (c : Nat → Int → Int) (r : Int → Int) : Prop := (∀ k : Int, 0 ≤ k → k < 9 → c 18 k = r (16 + k)) ∧ c 17 4 = r 9 ∧ c 17 5 = r 8 ∧ ∀ k : Int, 0 ≤ k → k < r 9 → c 19 k = r (37 + 3 * k) ∧ c 20 k = r (37 + 3 * k + 1) ∧ c 21 k = r (37 + 3 * k + 2)
def SR (c : Nat → Int → Int) (r : Int → Int) : Prop := ∀ k : Int, 0 ≤ k → k < 6 → c 22 k = r (10 + k)
def KR (c : Nat → Int → Int) (r : Int → Int) : Prop := c 0 4 = r 3 ∧ c 0 5 = r 2 ∧ c 0 6 = r 5 ∧ (¬ r 5 = 0 → c 0 7 = r 6) ∧ c 0 8 = r 4
/-- cell i is the p-th job of the row -/
def JR (c : Nat → Int → Int) (i : Nat) (r : Int → Int) (p : Int) : Prop := c i 0 = jf r p 0 ∧ c i 1 = jf r p 1 ∧ c i 2 = jf r p 2 ∧ c i 3 = jf r p 3 ∧ c i 4 = jf r p 4 ∧ c i 5 = jf r p 5 ∧ c i 6 = jf r p 5 % 2 ∧ c i 7 = jf r p 5 / 2 % 2 ∧ c i 8 = jf r p 5 / 4 ∧ c i 9 = sst r p ∧ c i 10 = als r p ∧ c i 11 = jf r p 6 ∧ c i 12 = jf r p 7 ∧ c i 13 = jf r p 8 ∧ c i 14 = jf r p 9
def PI (π : Int → Nat) : Prop := (∀ j : Int, 0 ≤ j → j < 10 → 7 ≤ π j ∧ π j ≤ 16) ∧ ∀ i j : Int, 0 ≤ i → i < 10 → 0 ≤ j → j < 10 → π i = π j → i = j
def QR (c : Nat → Int → Int) (π : Int → Nat) (r : Int → Int) : Prop := c 5 1 = r 0 ∧ c 5 2 = r 1 ∧ ((r 7 = -4 ∧ c 5 3 = -1) ∨ (0 ≤ r 7 ∧ c 5 3 = r 7)) ∧ PI π ∧ ∀ j : Int, 0 ≤ j → j < r 0 → JR c (π j) r j
def MR (c : Nat → Int → Int) (π : Int → Nat) (r : Int → Int) : Prop := TR c r ∧ LR c r ∧ SR c r ∧ KR c r ∧ QR c π r
