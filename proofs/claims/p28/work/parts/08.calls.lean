/-! CALLS by arity; locals; the model's state -/
abbrev vpu (v : Option Value) (r : List Value) : List Value := match v with | some x => x :: r | none => r
theorem vpu_eq (v : Option Value) (r : List Value) : v.toList ++ r = vpu v r := by cases v <;> rfl
def lsub (ls : List (Nat × Value)) : List (Nat × Value) → Prop
  | [] => True
  | q :: r => lk q.1 ls = some q.2 ∧ lsub ls r
theorem lsub_in {ls : List (Nat × Value)} : ∀ {l : List (Nat × Value)}, lsub ls l → ∀ q ∈ l, lk q.1 ls = some q.2
  | [], _, q, h => absurd h List.not_mem_nil
  | a :: r, h, q, hq => by
    rcases List.mem_cons.mp hq with e | e
    · rw [e]; exact h.1
    · exact lsub_in h.2 q e
section CALLS8
variable {M M' : MI} {N N1 pc : Nat} {ls : List (Nat × Value)} {st rest : List Value} {Q : Option Value → Sto → Prop} {σ : Sto} {i kd n cl lv b : Nat}
theorem V_ls (ls' : List (Nat × Value)) (h : lsub ls ls') (k : V M N1 pc ls' st N σ Q) : V M N1 pc ls st N σ Q := by
  intro p l e R s m args below meth c g N0 H locs lsA Zq C hW hS hN hl hret
  refine k p l e R s m args below meth c g N0 H locs lsA Zq C hW hS hN ⟨hl.1, hl.2.1, fun q hq => ?_⟩ hret
  obtain ⟨x, hx, rfl⟩ := List.mem_map.mp hq
  exact lk_at hl (lsub_in h x hx)
theorem V_mono {Q' : Option Value → Sto → Prop} (h : V M N1 pc ls st N σ Q') (k : ∀ v σ', Q' v σ' → Q v σ') : V M N1 pc ls st N σ Q := by
  intro p l e R s m args below meth c g N0 H locs lsA Zq C hW hS hN hl hret
  exact h p l e R s m args below meth c g N0 H locs lsA Zq C hW hS hN hl (fun v σ' H' locs' lsA' pc' q => hret v σ' H' locs' lsA' pc' (k v σ' q))
theorem V_in (h : N ≤ N1 → V M N1 pc ls st N σ Q) : V M N1 pc ls st N σ Q := by
  intro p l e R s m args below meth c g N0 H locs lsA Zq C hW hS hN hl hret
  exact h hN.2.1 p l e R s m args below meth c g N0 H locs lsA Zq C hW hS hN hl hret
theorem V_cI {N' : Nat} (hm : callOK (miC M) i 2 0 cl lv M') (hd : decode (miB M) pc = .ok (.invokespecial i, 3)) (hlv : lv < miV M) (hc : (rest.map fun v => v.category).sum ≤ 8) (hN' : N' ≤ N1)
    (hcon : Con M' N N' σ [.ref b] (fun v σ' => V M N1 (pc + 3) ls (vpu v rest) N' σ' Q)) : V M N1 pc ls (.ref b :: rest) N σ Q :=
  V_callI (As := []) hm hd hlv rfl hc hN' hcon (fun v σ' h => by rw [vpu_eq]; exact h)
theorem V_cIN {N' : Nat} (hm : callOK (miC M) i 4 0 cl lv M') (hd : decode (miB M) pc = .ok (.invokespecial i, 3)) (hlv : lv < miV M) (hc : (rest.map fun v => v.category).sum ≤ 8) (hN' : N' ≤ N1)
    (hcon : Con M' N N' σ [.ref b] (fun v σ' => V M N1 (pc + 3) ls (vpu v rest) N' σ' Q)) : V M N1 pc ls (.ref b :: rest) N σ Q :=
  V_callIN (As := []) hm hd hlv rfl hc hN' hcon (fun v σ' h => by rw [vpu_eq]; exact h)
theorem V_cV0 (hm : callOK (miC M) i 0 0 cl lv M') (hd : decode (miB M) pc = .ok (.invokevirtual i, 3)) (hlv : lv < miV M) (hc : (rest.map fun v => v.category).sum ≤ 8) (hb : b < N) (hs : sh b = (0, cl)) (hcl : cl < 9)
    (hcon : Con M' N N σ [.ref b] (fun v σ' => V M N1 (pc + 3) ls (vpu v rest) N σ' Q)) : V M N1 pc ls (.ref b :: rest) N σ Q :=
  V_in fun hN => V_callV (As := []) hm hd hlv rfl hc hb hs hcl hN hcon (fun v σ' h => by rw [vpu_eq]; exact h)
theorem V_cV1 {a1 : Value} (hm : callOK (miC M) i 0 1 cl lv M') (hd : decode (miB M) pc = .ok (.invokevirtual i, 3)) (hlv : lv < miV M) (hc : (rest.map fun v => v.category).sum ≤ 8) (hb : b < N) (hs : sh b = (0, cl)) (hcl : cl < 9)
    (hcon : Con M' N N σ [.ref b, a1] (fun v σ' => V M N1 (pc + 3) ls (vpu v rest) N σ' Q)) : V M N1 pc ls (a1 :: .ref b :: rest) N σ Q :=
  V_in fun hN => V_callV (As := [a1]) hm hd hlv rfl hc hb hs hcl hN hcon (fun v σ' h => by rw [vpu_eq]; exact h)
theorem V_cS1 {a1 : Value} (hm : callOK (miC M) i 1 1 cl lv M') (hd : decode (miB M) pc = .ok (.invokestatic i, 3)) (hlv : lv < miV M) (hc : (rest.map fun v => v.category).sum ≤ 8)
    (hcon : Con M' N N σ [a1] (fun v σ' => V M N1 (pc + 3) ls (vpu v rest) N σ' Q)) : V M N1 pc ls (a1 :: rest) N σ Q :=
  V_in fun hN => V_callS (As := [a1]) hm hd hlv rfl hc hN hcon (fun v σ' h => by rw [vpu_eq]; exact h)
theorem V_cN1 {a1 : Value} (hm : callOK (miC M) i 3 1 cl lv M') (hd : decode (miB M) pc = .ok (.invokestatic i, 3)) (hlv : lv < miV M) (hc : (rest.map fun v => v.category).sum ≤ 8)
    (hcon : Con M' N N σ [a1] (fun v σ' => V M N1 (pc + 3) ls (vpu v rest) N σ' Q)) : V M N1 pc ls (a1 :: rest) N σ Q :=
  V_in fun hN => V_callSN (As := [a1]) hm hd hlv rfl hc hN hcon (fun v σ' h => by rw [vpu_eq]; exact h)
theorem V_cV2 {a1 a2 : Value} (hm : callOK (miC M) i 0 2 cl lv M') (hd : decode (miB M) pc = .ok (.invokevirtual i, 3)) (hlv : lv < miV M) (hc : (rest.map fun v => v.category).sum ≤ 8) (hb : b < N) (hs : sh b = (0, cl)) (hcl : cl < 9)
    (hcon : Con M' N N σ [.ref b, a1, a2] (fun v σ' => V M N1 (pc + 3) ls (vpu v rest) N σ' Q)) : V M N1 pc ls (a2 :: a1 :: .ref b :: rest) N σ Q :=
  V_in fun hN => V_callV (As := [a1, a2]) hm hd hlv rfl hc hb hs hcl hN hcon (fun v σ' h => by rw [vpu_eq]; exact h)
theorem V_cS2 {a1 a2 : Value} (hm : callOK (miC M) i 1 2 cl lv M') (hd : decode (miB M) pc = .ok (.invokestatic i, 3)) (hlv : lv < miV M) (hc : (rest.map fun v => v.category).sum ≤ 8)
    (hcon : Con M' N N σ [a1, a2] (fun v σ' => V M N1 (pc + 3) ls (vpu v rest) N σ' Q)) : V M N1 pc ls (a2 :: a1 :: rest) N σ Q :=
  V_in fun hN => V_callS (As := [a1, a2]) hm hd hlv rfl hc hN hcon (fun v σ' h => by rw [vpu_eq]; exact h)
theorem V_cN2 {a1 a2 : Value} (hm : callOK (miC M) i 3 2 cl lv M') (hd : decode (miB M) pc = .ok (.invokestatic i, 3)) (hlv : lv < miV M) (hc : (rest.map fun v => v.category).sum ≤ 8)
    (hcon : Con M' N N σ [a1, a2] (fun v σ' => V M N1 (pc + 3) ls (vpu v rest) N σ' Q)) : V M N1 pc ls (a2 :: a1 :: rest) N σ Q :=
  V_in fun hN => V_callSN (As := [a1, a2]) hm hd hlv rfl hc hN hcon (fun v σ' h => by rw [vpu_eq]; exact h)
theorem V_cV3 {a1 a2 a3 : Value} (hm : callOK (miC M) i 0 3 cl lv M') (hd : decode (miB M) pc = .ok (.invokevirtual i, 3)) (hlv : lv < miV M) (hc : (rest.map fun v => v.category).sum ≤ 8) (hb : b < N) (hs : sh b = (0, cl)) (hcl : cl < 9)
    (hcon : Con M' N N σ [.ref b, a1, a2, a3] (fun v σ' => V M N1 (pc + 3) ls (vpu v rest) N σ' Q)) : V M N1 pc ls (a3 :: a2 :: a1 :: .ref b :: rest) N σ Q :=
  V_in fun hN => V_callV (As := [a1, a2, a3]) hm hd hlv rfl hc hb hs hcl hN hcon (fun v σ' h => by rw [vpu_eq]; exact h)
theorem V_cS3 {a1 a2 a3 : Value} (hm : callOK (miC M) i 1 3 cl lv M') (hd : decode (miB M) pc = .ok (.invokestatic i, 3)) (hlv : lv < miV M) (hc : (rest.map fun v => v.category).sum ≤ 8)
    (hcon : Con M' N N σ [a1, a2, a3] (fun v σ' => V M N1 (pc + 3) ls (vpu v rest) N σ' Q)) : V M N1 pc ls (a3 :: a2 :: a1 :: rest) N σ Q :=
  V_in fun hN => V_callS (As := [a1, a2, a3]) hm hd hlv rfl hc hN hcon (fun v σ' h => by rw [vpu_eq]; exact h)
theorem V_cN3 {a1 a2 a3 : Value} (hm : callOK (miC M) i 3 3 cl lv M') (hd : decode (miB M) pc = .ok (.invokestatic i, 3)) (hlv : lv < miV M) (hc : (rest.map fun v => v.category).sum ≤ 8)
    (hcon : Con M' N N σ [a1, a2, a3] (fun v σ' => V M N1 (pc + 3) ls (vpu v rest) N σ' Q)) : V M N1 pc ls (a3 :: a2 :: a1 :: rest) N σ Q :=
  V_in fun hN => V_callSN (As := [a1, a2, a3]) hm hd hlv rfl hc hN hcon (fun v σ' h => by rw [vpu_eq]; exact h)
theorem V_cV4 {a1 a2 a3 a4 : Value} (hm : callOK (miC M) i 0 4 cl lv M') (hd : decode (miB M) pc = .ok (.invokevirtual i, 3)) (hlv : lv < miV M) (hc : (rest.map fun v => v.category).sum ≤ 8) (hb : b < N) (hs : sh b = (0, cl)) (hcl : cl < 9)
    (hcon : Con M' N N σ [.ref b, a1, a2, a3, a4] (fun v σ' => V M N1 (pc + 3) ls (vpu v rest) N σ' Q)) : V M N1 pc ls (a4 :: a3 :: a2 :: a1 :: .ref b :: rest) N σ Q :=
  V_in fun hN => V_callV (As := [a1, a2, a3, a4]) hm hd hlv rfl hc hb hs hcl hN hcon (fun v σ' h => by rw [vpu_eq]; exact h)
theorem V_cS4 {a1 a2 a3 a4 : Value} (hm : callOK (miC M) i 1 4 cl lv M') (hd : decode (miB M) pc = .ok (.invokestatic i, 3)) (hlv : lv < miV M) (hc : (rest.map fun v => v.category).sum ≤ 8)
    (hcon : Con M' N N σ [a1, a2, a3, a4] (fun v σ' => V M N1 (pc + 3) ls (vpu v rest) N σ' Q)) : V M N1 pc ls (a4 :: a3 :: a2 :: a1 :: rest) N σ Q :=
  V_in fun hN => V_callS (As := [a1, a2, a3, a4]) hm hd hlv rfl hc hN hcon (fun v σ' h => by rw [vpu_eq]; exact h)
theorem V_cN4 {a1 a2 a3 a4 : Value} (hm : callOK (miC M) i 3 4 cl lv M') (hd : decode (miB M) pc = .ok (.invokestatic i, 3)) (hlv : lv < miV M) (hc : (rest.map fun v => v.category).sum ≤ 8)
    (hcon : Con M' N N σ [a1, a2, a3, a4] (fun v σ' => V M N1 (pc + 3) ls (vpu v rest) N σ' Q)) : V M N1 pc ls (a4 :: a3 :: a2 :: a1 :: rest) N σ Q :=
  V_in fun hN => V_callSN (As := [a1, a2, a3, a4]) hm hd hlv rfl hc hN hcon (fun v σ' h => by rw [vpu_eq]; exact h)
theorem V_cV5 {a1 a2 a3 a4 a5 : Value} (hm : callOK (miC M) i 0 5 cl lv M') (hd : decode (miB M) pc = .ok (.invokevirtual i, 3)) (hlv : lv < miV M) (hc : (rest.map fun v => v.category).sum ≤ 8) (hb : b < N) (hs : sh b = (0, cl)) (hcl : cl < 9)
    (hcon : Con M' N N σ [.ref b, a1, a2, a3, a4, a5] (fun v σ' => V M N1 (pc + 3) ls (vpu v rest) N σ' Q)) : V M N1 pc ls (a5 :: a4 :: a3 :: a2 :: a1 :: .ref b :: rest) N σ Q :=
  V_in fun hN => V_callV (As := [a1, a2, a3, a4, a5]) hm hd hlv rfl hc hb hs hcl hN hcon (fun v σ' h => by rw [vpu_eq]; exact h)
theorem V_cS5 {a1 a2 a3 a4 a5 : Value} (hm : callOK (miC M) i 1 5 cl lv M') (hd : decode (miB M) pc = .ok (.invokestatic i, 3)) (hlv : lv < miV M) (hc : (rest.map fun v => v.category).sum ≤ 8)
    (hcon : Con M' N N σ [a1, a2, a3, a4, a5] (fun v σ' => V M N1 (pc + 3) ls (vpu v rest) N σ' Q)) : V M N1 pc ls (a5 :: a4 :: a3 :: a2 :: a1 :: rest) N σ Q :=
  V_in fun hN => V_callS (As := [a1, a2, a3, a4, a5]) hm hd hlv rfl hc hN hcon (fun v σ' h => by rw [vpu_eq]; exact h)
theorem V_cN5 {a1 a2 a3 a4 a5 : Value} (hm : callOK (miC M) i 3 5 cl lv M') (hd : decode (miB M) pc = .ok (.invokestatic i, 3)) (hlv : lv < miV M) (hc : (rest.map fun v => v.category).sum ≤ 8)
    (hcon : Con M' N N σ [a1, a2, a3, a4, a5] (fun v σ' => V M N1 (pc + 3) ls (vpu v rest) N σ' Q)) : V M N1 pc ls (a5 :: a4 :: a3 :: a2 :: a1 :: rest) N σ Q :=
  V_in fun hN => V_callSN (As := [a1, a2, a3, a4, a5]) hm hd hlv rfl hc hN hcon (fun v σ' h => by rw [vpu_eq]; exact h)
end CALLS8
abbrev PT : Type := (Int → Int) × (Int → Int) × Int × Int
abbrev TT : Type := (Int → Int) × (Int → Int) × Int × Int × Int × Int × Int
def mref : Int → Option Nat := fun k => if k = 0 then some 145 else if k = 1 then some 146 else if k = 2 then some 147 else if k = 5 then some 148 else if k = 8 then some 149 else none
def mfld (P : PT) (T : TT) : Int → Int := fun k => if k = 3 then P.2.2.1 else if k = 4 then P.2.2.2 else if k = 6 then T.2.2.1 else if k = 7 then T.2.2.2.1 else if k = 9 then T.2.2.2.2.1 else if k = 10 then T.2.2.2.2.2.1 else if k = 11 then T.2.2.2.2.2.2 else 0
/-- the store with the model's cells: its row, (past, aside, saved, refused), (text, read, length, spot, faultAt, faultWhy, readMany) -/
def mst (σ : Sto) (now : Int → Int) (P : PT) (T : TT) : Sto :=
  (fun i => if i < 144 then σ.1 i else if i = 144 then mfld P T else if i = 145 then now else if i = 146 then P.1 else if i = 147 then P.2.1 else if i = 148 then T.1 else if i = 149 then T.2.1 else σ.1 i,
   fun i => if i = 144 then mref else σ.2.1 i, σ.2.2)
theorem setI_eq {σ σ' : Sto} {i : Nat} {k x : Int} (h2 : σ'.2 = σ.2) (h1 : σ'.1 i = up1 (σ.1 i) k x) (h0 : ∀ j, j ≠ i → σ'.1 j = σ.1 j) : setI σ i k x = σ' := by
  refine Prod.ext (funext fun j => ?_) h2.symm
  show up2 σ.1 i k x j = _
  by_cases hj : j = i
  · rw [hj, up2_at, h1]
  · rw [up2_ne hj, h0 j hj]
section MODEL
variable {M : MI} {N N1 pc : Nat} {ls : List (Nat × Value)} {st : List Value} {Q : Option Value → Sto → Prop} {σ : Sto} {ix : Nat} {now past aside text read : Int → Int} {P : PT} {T : TT} {sv rf len spot fat fwy many : Int}
theorem Vm_saved (hf : fldR (miC M) ix = some (8, 3)) (hd : decode (miB M) pc = .ok (.getfield ix, 3)) (kk : V M N1 (pc + 3) ls (zI sv :: st) 150 (mst σ now (past, aside, sv, rf) T) Q) : V M N1 pc ls (.ref 144 :: st) 150 (mst σ now (past, aside, sv, rf) T) Q :=
  V_get (q := 3) hf hd rfl rfl (by decide) rfl kk
theorem Vm_psaved {x : Int} (hf : fldR (miC M) ix = some (8, 3)) (hd : decode (miB M) pc = .ok (.putfield ix, 3)) (kk : V M N1 (pc + 3) ls st 150 (mst σ now (past, aside, x, rf) T) Q) : V M N1 pc ls (zI x :: .ref 144 :: st) 150 (mst σ now (past, aside, sv, rf) T) Q := by
  refine V_put (q := 3) hf hd rfl rfl rfl rfl rfl (by decide) rfl ?_
  rw [setI_eq (σ := (mst σ now (past, aside, sv, rf) T)) (σ' := (mst σ now (past, aside, x, rf) T)) rfl ?_ ?_]
  · exact kk
  · funext k
    show mfld (past, aside, x, rf) T k = up1 (mfld (past, aside, sv, rf) T) 3 x k
    unfold up1 mfld
    by_cases hk : k = 3
    · subst hk; rfl
    · simp [hk]
  · intro j hj
    show (if j < 144 then _ else if j = 144 then _ else _) = (if j < 144 then _ else if j = 144 then _ else _)
    rw [if_neg hj, if_neg hj]
theorem Vm_refused (hf : fldR (miC M) ix = some (8, 4)) (hd : decode (miB M) pc = .ok (.getfield ix, 3)) (kk : V M N1 (pc + 3) ls (zI rf :: st) 150 (mst σ now (past, aside, sv, rf) T) Q) : V M N1 pc ls (.ref 144 :: st) 150 (mst σ now (past, aside, sv, rf) T) Q :=
  V_get (q := 4) hf hd rfl rfl (by decide) rfl kk
theorem Vm_prefused {x : Int} (hf : fldR (miC M) ix = some (8, 4)) (hd : decode (miB M) pc = .ok (.putfield ix, 3)) (kk : V M N1 (pc + 3) ls st 150 (mst σ now (past, aside, sv, x) T) Q) : V M N1 pc ls (zI x :: .ref 144 :: st) 150 (mst σ now (past, aside, sv, rf) T) Q := by
  refine V_put (q := 4) hf hd rfl rfl rfl rfl rfl (by decide) rfl ?_
  rw [setI_eq (σ := (mst σ now (past, aside, sv, rf) T)) (σ' := (mst σ now (past, aside, sv, x) T)) rfl ?_ ?_]
  · exact kk
  · funext k
    show mfld (past, aside, sv, x) T k = up1 (mfld (past, aside, sv, rf) T) 4 x k
    unfold up1 mfld
    by_cases hk : k = 4
    · subst hk; rfl
    · simp [hk]
  · intro j hj
    show (if j < 144 then _ else if j = 144 then _ else _) = (if j < 144 then _ else if j = 144 then _ else _)
    rw [if_neg hj, if_neg hj]
theorem Vm_length (hf : fldR (miC M) ix = some (8, 6)) (hd : decode (miB M) pc = .ok (.getfield ix, 3)) (kk : V M N1 (pc + 3) ls (zI len :: st) 150 (mst σ now P (text, read, len, spot, fat, fwy, many)) Q) : V M N1 pc ls (.ref 144 :: st) 150 (mst σ now P (text, read, len, spot, fat, fwy, many)) Q :=
  V_get (q := 6) hf hd rfl rfl (by decide) rfl kk
theorem Vm_plength {x : Int} (hf : fldR (miC M) ix = some (8, 6)) (hd : decode (miB M) pc = .ok (.putfield ix, 3)) (kk : V M N1 (pc + 3) ls st 150 (mst σ now P (text, read, x, spot, fat, fwy, many)) Q) : V M N1 pc ls (zI x :: .ref 144 :: st) 150 (mst σ now P (text, read, len, spot, fat, fwy, many)) Q := by
  refine V_put (q := 6) hf hd rfl rfl rfl rfl rfl (by decide) rfl ?_
  rw [setI_eq (σ := (mst σ now P (text, read, len, spot, fat, fwy, many))) (σ' := (mst σ now P (text, read, x, spot, fat, fwy, many))) rfl ?_ ?_]
  · exact kk
  · funext k
    show mfld P (text, read, x, spot, fat, fwy, many) k = up1 (mfld P (text, read, len, spot, fat, fwy, many)) 6 x k
    unfold up1 mfld
    by_cases hk : k = 6
    · subst hk; rfl
    · simp [hk]
  · intro j hj
    show (if j < 144 then _ else if j = 144 then _ else _) = (if j < 144 then _ else if j = 144 then _ else _)
    rw [if_neg hj, if_neg hj]
theorem Vm_spot (hf : fldR (miC M) ix = some (8, 7)) (hd : decode (miB M) pc = .ok (.getfield ix, 3)) (kk : V M N1 (pc + 3) ls (zI spot :: st) 150 (mst σ now P (text, read, len, spot, fat, fwy, many)) Q) : V M N1 pc ls (.ref 144 :: st) 150 (mst σ now P (text, read, len, spot, fat, fwy, many)) Q :=
  V_get (q := 7) hf hd rfl rfl (by decide) rfl kk
theorem Vm_pspot {x : Int} (hf : fldR (miC M) ix = some (8, 7)) (hd : decode (miB M) pc = .ok (.putfield ix, 3)) (kk : V M N1 (pc + 3) ls st 150 (mst σ now P (text, read, len, x, fat, fwy, many)) Q) : V M N1 pc ls (zI x :: .ref 144 :: st) 150 (mst σ now P (text, read, len, spot, fat, fwy, many)) Q := by
  refine V_put (q := 7) hf hd rfl rfl rfl rfl rfl (by decide) rfl ?_
  rw [setI_eq (σ := (mst σ now P (text, read, len, spot, fat, fwy, many))) (σ' := (mst σ now P (text, read, len, x, fat, fwy, many))) rfl ?_ ?_]
  · exact kk
  · funext k
    show mfld P (text, read, len, x, fat, fwy, many) k = up1 (mfld P (text, read, len, spot, fat, fwy, many)) 7 x k
    unfold up1 mfld
    by_cases hk : k = 7
    · subst hk; rfl
    · simp [hk]
  · intro j hj
    show (if j < 144 then _ else if j = 144 then _ else _) = (if j < 144 then _ else if j = 144 then _ else _)
    rw [if_neg hj, if_neg hj]
theorem Vm_fat (hf : fldR (miC M) ix = some (8, 9)) (hd : decode (miB M) pc = .ok (.getfield ix, 3)) (kk : V M N1 (pc + 3) ls (zI fat :: st) 150 (mst σ now P (text, read, len, spot, fat, fwy, many)) Q) : V M N1 pc ls (.ref 144 :: st) 150 (mst σ now P (text, read, len, spot, fat, fwy, many)) Q :=
  V_get (q := 9) hf hd rfl rfl (by decide) rfl kk
theorem Vm_pfat {x : Int} (hf : fldR (miC M) ix = some (8, 9)) (hd : decode (miB M) pc = .ok (.putfield ix, 3)) (kk : V M N1 (pc + 3) ls st 150 (mst σ now P (text, read, len, spot, x, fwy, many)) Q) : V M N1 pc ls (zI x :: .ref 144 :: st) 150 (mst σ now P (text, read, len, spot, fat, fwy, many)) Q := by
  refine V_put (q := 9) hf hd rfl rfl rfl rfl rfl (by decide) rfl ?_
  rw [setI_eq (σ := (mst σ now P (text, read, len, spot, fat, fwy, many))) (σ' := (mst σ now P (text, read, len, spot, x, fwy, many))) rfl ?_ ?_]
  · exact kk
  · funext k
    show mfld P (text, read, len, spot, x, fwy, many) k = up1 (mfld P (text, read, len, spot, fat, fwy, many)) 9 x k
    unfold up1 mfld
    by_cases hk : k = 9
    · subst hk; rfl
    · simp [hk]
  · intro j hj
    show (if j < 144 then _ else if j = 144 then _ else _) = (if j < 144 then _ else if j = 144 then _ else _)
    rw [if_neg hj, if_neg hj]
theorem Vm_fwy (hf : fldR (miC M) ix = some (8, 10)) (hd : decode (miB M) pc = .ok (.getfield ix, 3)) (kk : V M N1 (pc + 3) ls (zI fwy :: st) 150 (mst σ now P (text, read, len, spot, fat, fwy, many)) Q) : V M N1 pc ls (.ref 144 :: st) 150 (mst σ now P (text, read, len, spot, fat, fwy, many)) Q :=
  V_get (q := 10) hf hd rfl rfl (by decide) rfl kk
theorem Vm_pfwy {x : Int} (hf : fldR (miC M) ix = some (8, 10)) (hd : decode (miB M) pc = .ok (.putfield ix, 3)) (kk : V M N1 (pc + 3) ls st 150 (mst σ now P (text, read, len, spot, fat, x, many)) Q) : V M N1 pc ls (zI x :: .ref 144 :: st) 150 (mst σ now P (text, read, len, spot, fat, fwy, many)) Q := by
  refine V_put (q := 10) hf hd rfl rfl rfl rfl rfl (by decide) rfl ?_
  rw [setI_eq (σ := (mst σ now P (text, read, len, spot, fat, fwy, many))) (σ' := (mst σ now P (text, read, len, spot, fat, x, many))) rfl ?_ ?_]
  · exact kk
  · funext k
    show mfld P (text, read, len, spot, fat, x, many) k = up1 (mfld P (text, read, len, spot, fat, fwy, many)) 10 x k
    unfold up1 mfld
    by_cases hk : k = 10
    · subst hk; rfl
    · simp [hk]
  · intro j hj
    show (if j < 144 then _ else if j = 144 then _ else _) = (if j < 144 then _ else if j = 144 then _ else _)
    rw [if_neg hj, if_neg hj]
theorem Vm_many (hf : fldR (miC M) ix = some (8, 11)) (hd : decode (miB M) pc = .ok (.getfield ix, 3)) (kk : V M N1 (pc + 3) ls (zI many :: st) 150 (mst σ now P (text, read, len, spot, fat, fwy, many)) Q) : V M N1 pc ls (.ref 144 :: st) 150 (mst σ now P (text, read, len, spot, fat, fwy, many)) Q :=
  V_get (q := 11) hf hd rfl rfl (by decide) rfl kk
theorem Vm_pmany {x : Int} (hf : fldR (miC M) ix = some (8, 11)) (hd : decode (miB M) pc = .ok (.putfield ix, 3)) (kk : V M N1 (pc + 3) ls st 150 (mst σ now P (text, read, len, spot, fat, fwy, x)) Q) : V M N1 pc ls (zI x :: .ref 144 :: st) 150 (mst σ now P (text, read, len, spot, fat, fwy, many)) Q := by
  refine V_put (q := 11) hf hd rfl rfl rfl rfl rfl (by decide) rfl ?_
  rw [setI_eq (σ := (mst σ now P (text, read, len, spot, fat, fwy, many))) (σ' := (mst σ now P (text, read, len, spot, fat, fwy, x))) rfl ?_ ?_]
  · exact kk
  · funext k
    show mfld P (text, read, len, spot, fat, fwy, x) k = up1 (mfld P (text, read, len, spot, fat, fwy, many)) 11 x k
    unfold up1 mfld
    by_cases hk : k = 11
    · subst hk; rfl
    · simp [hk]
  · intro j hj
    show (if j < 144 then _ else if j = 144 then _ else _) = (if j < 144 then _ else if j = 144 then _ else _)
    rw [if_neg hj, if_neg hj]
theorem Vm_now {j : Int} (hd : decode (miB M) pc = .ok (.iaload, 1)) (h : 0 ≤ j ∧ j < 185) (kk : V M N1 (pc + 1) ls (zI (now j) :: st) 150 (mst σ now P T) Q) : V M N1 pc ls (zI j :: .ref 145 :: st) 150 (mst σ now P T) Q :=
  V_iald (n := 185) hd (by decide) rfl h.1 h.2 (by decide) kk
theorem Vm_nowS {j x : Int} (hd : decode (miB M) pc = .ok (.iastore, 1)) (h : 0 ≤ j ∧ j < 185) (kk : V M N1 (pc + 1) ls st 150 (mst σ (up1 now j x) P T) Q) : V M N1 pc ls (zI x :: zI j :: .ref 145 :: st) 150 (mst σ now P T) Q := by
  refine V_iast (n := 185) hd (by decide) rfl h.1 h.2 (by decide) ?_
  rw [setI_eq (σ := (mst σ now P T)) (σ' := (mst σ (up1 now j x) P T)) rfl rfl ?_]
  · exact kk
  · intro i hi
    simp only [mst, if_neg hi]
    try rfl
theorem Vm_past {j : Int} (hd : decode (miB M) pc = .ok (.iaload, 1)) (h : 0 ≤ j ∧ j < 740) (kk : V M N1 (pc + 1) ls (zI (past j) :: st) 150 (mst σ now (past, aside, sv, rf) T) Q) : V M N1 pc ls (zI j :: .ref 146 :: st) 150 (mst σ now (past, aside, sv, rf) T) Q :=
  V_iald (n := 740) hd (by decide) rfl h.1 h.2 (by decide) kk
theorem Vm_pastS {j x : Int} (hd : decode (miB M) pc = .ok (.iastore, 1)) (h : 0 ≤ j ∧ j < 740) (kk : V M N1 (pc + 1) ls st 150 (mst σ now ((up1 past j x), aside, sv, rf) T) Q) : V M N1 pc ls (zI x :: zI j :: .ref 146 :: st) 150 (mst σ now (past, aside, sv, rf) T) Q := by
  refine V_iast (n := 740) hd (by decide) rfl h.1 h.2 (by decide) ?_
  rw [setI_eq (σ := (mst σ now (past, aside, sv, rf) T)) (σ' := (mst σ now ((up1 past j x), aside, sv, rf) T)) rfl rfl ?_]
  · exact kk
  · intro i hi
    simp only [mst, if_neg hi]
    try rfl
theorem Vm_aside {j : Int} (hd : decode (miB M) pc = .ok (.iaload, 1)) (h : 0 ≤ j ∧ j < 185) (kk : V M N1 (pc + 1) ls (zI (aside j) :: st) 150 (mst σ now (past, aside, sv, rf) T) Q) : V M N1 pc ls (zI j :: .ref 147 :: st) 150 (mst σ now (past, aside, sv, rf) T) Q :=
  V_iald (n := 185) hd (by decide) rfl h.1 h.2 (by decide) kk
theorem Vm_asideS {j x : Int} (hd : decode (miB M) pc = .ok (.iastore, 1)) (h : 0 ≤ j ∧ j < 185) (kk : V M N1 (pc + 1) ls st 150 (mst σ now (past, (up1 aside j x), sv, rf) T) Q) : V M N1 pc ls (zI x :: zI j :: .ref 147 :: st) 150 (mst σ now (past, aside, sv, rf) T) Q := by
  refine V_iast (n := 185) hd (by decide) rfl h.1 h.2 (by decide) ?_
  rw [setI_eq (σ := (mst σ now (past, aside, sv, rf) T)) (σ' := (mst σ now (past, (up1 aside j x), sv, rf) T)) rfl rfl ?_]
  · exact kk
  · intro i hi
    simp only [mst, if_neg hi]
    try rfl
theorem Vm_text {j : Int} (hd : decode (miB M) pc = .ok (.iaload, 1)) (h : 0 ≤ j ∧ j < 100) (kk : V M N1 (pc + 1) ls (zI (text j) :: st) 150 (mst σ now P (text, read, len, spot, fat, fwy, many)) Q) : V M N1 pc ls (zI j :: .ref 148 :: st) 150 (mst σ now P (text, read, len, spot, fat, fwy, many)) Q :=
  V_iald (n := 100) hd (by decide) rfl h.1 h.2 (by decide) kk
theorem Vm_textS {j x : Int} (hd : decode (miB M) pc = .ok (.iastore, 1)) (h : 0 ≤ j ∧ j < 100) (kk : V M N1 (pc + 1) ls st 150 (mst σ now P ((up1 text j x), read, len, spot, fat, fwy, many)) Q) : V M N1 pc ls (zI x :: zI j :: .ref 148 :: st) 150 (mst σ now P (text, read, len, spot, fat, fwy, many)) Q := by
  refine V_iast (n := 100) hd (by decide) rfl h.1 h.2 (by decide) ?_
  rw [setI_eq (σ := (mst σ now P (text, read, len, spot, fat, fwy, many))) (σ' := (mst σ now P ((up1 text j x), read, len, spot, fat, fwy, many))) rfl rfl ?_]
  · exact kk
  · intro i hi
    simp only [mst, if_neg hi]
    try rfl
theorem Vm_read {j : Int} (hd : decode (miB M) pc = .ok (.iaload, 1)) (h : 0 ≤ j ∧ j < 5) (kk : V M N1 (pc + 1) ls (zI (read j) :: st) 150 (mst σ now P (text, read, len, spot, fat, fwy, many)) Q) : V M N1 pc ls (zI j :: .ref 149 :: st) 150 (mst σ now P (text, read, len, spot, fat, fwy, many)) Q :=
  V_iald (n := 5) hd (by decide) rfl h.1 h.2 (by decide) kk
theorem Vm_readS {j x : Int} (hd : decode (miB M) pc = .ok (.iastore, 1)) (h : 0 ≤ j ∧ j < 5) (kk : V M N1 (pc + 1) ls st 150 (mst σ now P (text, (up1 read j x), len, spot, fat, fwy, many)) Q) : V M N1 pc ls (zI x :: zI j :: .ref 149 :: st) 150 (mst σ now P (text, read, len, spot, fat, fwy, many)) Q := by
  refine V_iast (n := 5) hd (by decide) rfl h.1 h.2 (by decide) ?_
  rw [setI_eq (σ := (mst σ now P (text, read, len, spot, fat, fwy, many))) (σ' := (mst σ now P (text, (up1 read j x), len, spot, fat, fwy, many))) rfl rfl ?_]
  · exact kk
  · intro i hi
    simp only [mst, if_neg hi]
    try rfl
end MODEL
