/-! CALLS by arity; locals; the model's state -/
abbrev vpu (v : Option Value) (r : List Value) : List Value := match v with | some x => x :: r | none => r
theorem vpu_eq (v : Option Value) (r : List Value) : v.toList ++ r = vpu v r := by cases v <;> rfl
def lsub (ls : List (Nat × Value)) : List (Nat × Value) → Prop
  | [] => True
  | q :: r => lk q.1 ls = some q.2 ∧ lsub ls r
theorem lsub_in {ls : List (Nat × Value)} : ∀ {l : List (Nat × Value)}, lsub ls l → ∀ q ∈ l, lk q.1 ls = some q.2
  | [], _, q, h => absurd h List.not_mem_nil
  | a :: r, h, q, hq => by
    rcases List.mem_cons.mp hq with e | e
    · rw [e]; exact h.1
    · exact lsub_in h.2 q e
section CALLS8
variable {M M' : MI} {N N1 pc : Nat} {ls : List (Nat × Value)} {st rest : List Value} {Q : Option Value → Sto → Prop} {σ : Sto} {i kd n cl lv b : Nat}
theorem V_ls (ls' : List (Nat × Value)) (h : lsub ls ls') (k : V M N1 pc ls' st N σ Q) : V M N1 pc ls st N σ Q := by
  intro p l e R s m args below meth c g N0 H locs lsA Zq C hW hS hN hl hret
  refine k p l e R s m args below meth c g N0 H locs lsA Zq C hW hS hN ⟨hl.1, hl.2.1, fun q hq => ?_⟩ hret
  obtain ⟨x, hx, rfl⟩ := List.mem_map.mp hq
  exact lk_at hl (lsub_in h x hx)
theorem V_mono {Q' : Option Value → Sto → Prop} (h : V M N1 pc ls st N σ Q') (k : ∀ v σ', Q' v σ' → Q v σ') : V M N1 pc ls st N σ Q := by
  intro p l e R s m args below meth c g N0 H locs lsA Zq C hW hS hN hl hret
  exact h p l e R s m args below meth c g N0 H locs lsA Zq C hW hS hN hl (fun v σ' H' locs' lsA' pc' q => hret v σ' H' locs' lsA' pc' (k v σ' q))
theorem V_in (h : N ≤ N1 → V M N1 pc ls st N σ Q) : V M N1 pc ls st N σ Q := by
  intro p l e R s m args below meth c g N0 H locs lsA Zq C hW hS hN hl hret
  exact h hN.2.1 p l e R s m args below meth c g N0 H locs lsA Zq C hW hS hN hl hret
theorem V_cI {N' : Nat} (hm : callOK (miC M) i 2 0 cl lv M') (hd : decode (miB M) pc = .ok (.invokespecial i, 3)) (hlv : lv < miV M) (hc : (rest.map fun v => v.category).sum ≤ 8) (hN' : N' ≤ N1)
    (hcon : Con M' N N' σ [.ref b] (fun v σ' => V M N1 (pc + 3) ls (vpu v rest) N' σ' Q)) : V M N1 pc ls (.ref b :: rest) N σ Q :=
  V_callI (As := []) hm hd hlv rfl hc hN' hcon (fun v σ' h => by rw [vpu_eq]; exact h)
theorem V_cIN {N' : Nat} (hm : callOK (miC M) i 4 0 cl lv M') (hd : decode (miB M) pc = .ok (.invokespecial i, 3)) (hlv : lv < miV M) (hc : (rest.map fun v => v.category).sum ≤ 8) (hN' : N' ≤ N1)
    (hcon : Con M' N N' σ [.ref b] (fun v σ' => V M N1 (pc + 3) ls (vpu v rest) N' σ' Q)) : V M N1 pc ls (.ref b :: rest) N σ Q :=
  V_callIN (As := []) hm hd hlv rfl hc hN' hcon (fun v σ' h => by rw [vpu_eq]; exact h)
theorem V_cV0 (hm : callOK (miC M) i 0 0 cl lv M') (hd : decode (miB M) pc = .ok (.invokevirtual i, 3)) (hlv : lv < miV M) (hc : (rest.map fun v => v.category).sum ≤ 8) (hb : b < N) (hs : sh b = (0, cl)) (hcl : cl < 8)
    (hcon : Con M' N N σ [.ref b] (fun v σ' => V M N1 (pc + 3) ls (vpu v rest) N σ' Q)) : V M N1 pc ls (.ref b :: rest) N σ Q :=
  V_in fun hN => V_callV (As := []) hm hd hlv rfl hc hb hs hcl hN hcon (fun v σ' h => by rw [vpu_eq]; exact h)
theorem V_cV1 {a1 : Value} (hm : callOK (miC M) i 0 1 cl lv M') (hd : decode (miB M) pc = .ok (.invokevirtual i, 3)) (hlv : lv < miV M) (hc : (rest.map fun v => v.category).sum ≤ 8) (hb : b < N) (hs : sh b = (0, cl)) (hcl : cl < 8)
    (hcon : Con M' N N σ [.ref b, a1] (fun v σ' => V M N1 (pc + 3) ls (vpu v rest) N σ' Q)) : V M N1 pc ls (a1 :: .ref b :: rest) N σ Q :=
  V_in fun hN => V_callV (As := [a1]) hm hd hlv rfl hc hb hs hcl hN hcon (fun v σ' h => by rw [vpu_eq]; exact h)
theorem V_cS1 {a1 : Value} (hm : callOK (miC M) i 1 1 cl lv M') (hd : decode (miB M) pc = .ok (.invokestatic i, 3)) (hlv : lv < miV M) (hc : (rest.map fun v => v.category).sum ≤ 8)
    (hcon : Con M' N N σ [a1] (fun v σ' => V M N1 (pc + 3) ls (vpu v rest) N σ' Q)) : V M N1 pc ls (a1 :: rest) N σ Q :=
  V_in fun hN => V_callS (As := [a1]) hm hd hlv rfl hc hN hcon (fun v σ' h => by rw [vpu_eq]; exact h)
theorem V_cN1 {a1 : Value} (hm : callOK (miC M) i 3 1 cl lv M') (hd : decode (miB M) pc = .ok (.invokestatic i, 3)) (hlv : lv < miV M) (hc : (rest.map fun v => v.category).sum ≤ 8)
    (hcon : Con M' N N σ [a1] (fun v σ' => V M N1 (pc + 3) ls (vpu v rest) N σ' Q)) : V M N1 pc ls (a1 :: rest) N σ Q :=
  V_in fun hN => V_callSN (As := [a1]) hm hd hlv rfl hc hN hcon (fun v σ' h => by rw [vpu_eq]; exact h)
theorem V_cV2 {a1 a2 : Value} (hm : callOK (miC M) i 0 2 cl lv M') (hd : decode (miB M) pc = .ok (.invokevirtual i, 3)) (hlv : lv < miV M) (hc : (rest.map fun v => v.category).sum ≤ 8) (hb : b < N) (hs : sh b = (0, cl)) (hcl : cl < 8)
    (hcon : Con M' N N σ [.ref b, a1, a2] (fun v σ' => V M N1 (pc + 3) ls (vpu v rest) N σ' Q)) : V M N1 pc ls (a2 :: a1 :: .ref b :: rest) N σ Q :=
  V_in fun hN => V_callV (As := [a1, a2]) hm hd hlv rfl hc hb hs hcl hN hcon (fun v σ' h => by rw [vpu_eq]; exact h)
theorem V_cS2 {a1 a2 : Value} (hm : callOK (miC M) i 1 2 cl lv M') (hd : decode (miB M) pc = .ok (.invokestatic i, 3)) (hlv : lv < miV M) (hc : (rest.map fun v => v.category).sum ≤ 8)
    (hcon : Con M' N N σ [a1, a2] (fun v σ' => V M N1 (pc + 3) ls (vpu v rest) N σ' Q)) : V M N1 pc ls (a2 :: a1 :: rest) N σ Q :=
  V_in fun hN => V_callS (As := [a1, a2]) hm hd hlv rfl hc hN hcon (fun v σ' h => by rw [vpu_eq]; exact h)
theorem V_cN2 {a1 a2 : Value} (hm : callOK (miC M) i 3 2 cl lv M') (hd : decode (miB M) pc = .ok (.invokestatic i, 3)) (hlv : lv < miV M) (hc : (rest.map fun v => v.category).sum ≤ 8)
    (hcon : Con M' N N σ [a1, a2] (fun v σ' => V M N1 (pc + 3) ls (vpu v rest) N σ' Q)) : V M N1 pc ls (a2 :: a1 :: rest) N σ Q :=
  V_in fun hN => V_callSN (As := [a1, a2]) hm hd hlv rfl hc hN hcon (fun v σ' h => by rw [vpu_eq]; exact h)
theorem V_cV3 {a1 a2 a3 : Value} (hm : callOK (miC M) i 0 3 cl lv M') (hd : decode (miB M) pc = .ok (.invokevirtual i, 3)) (hlv : lv < miV M) (hc : (rest.map fun v => v.category).sum ≤ 8) (hb : b < N) (hs : sh b = (0, cl)) (hcl : cl < 8)
    (hcon : Con M' N N σ [.ref b, a1, a2, a3] (fun v σ' => V M N1 (pc + 3) ls (vpu v rest) N σ' Q)) : V M N1 pc ls (a3 :: a2 :: a1 :: .ref b :: rest) N σ Q :=
  V_in fun hN => V_callV (As := [a1, a2, a3]) hm hd hlv rfl hc hb hs hcl hN hcon (fun v σ' h => by rw [vpu_eq]; exact h)
theorem V_cS3 {a1 a2 a3 : Value} (hm : callOK (miC M) i 1 3 cl lv M') (hd : decode (miB M) pc = .ok (.invokestatic i, 3)) (hlv : lv < miV M) (hc : (rest.map fun v => v.category).sum ≤ 8)
    (hcon : Con M' N N σ [a1, a2, a3] (fun v σ' => V M N1 (pc + 3) ls (vpu v rest) N σ' Q)) : V M N1 pc ls (a3 :: a2 :: a1 :: rest) N σ Q :=
  V_in fun hN => V_callS (As := [a1, a2, a3]) hm hd hlv rfl hc hN hcon (fun v σ' h => by rw [vpu_eq]; exact h)
theorem V_cN3 {a1 a2 a3 : Value} (hm : callOK (miC M) i 3 3 cl lv M') (hd : decode (miB M) pc = .ok (.invokestatic i, 3)) (hlv : lv < miV M) (hc : (rest.map fun v => v.category).sum ≤ 8)
    (hcon : Con M' N N σ [a1, a2, a3] (fun v σ' => V M N1 (pc + 3) ls (vpu v rest) N σ' Q)) : V M N1 pc ls (a3 :: a2 :: a1 :: rest) N σ Q :=
  V_in fun hN => V_callSN (As := [a1, a2, a3]) hm hd hlv rfl hc hN hcon (fun v σ' h => by rw [vpu_eq]; exact h)
theorem V_cV4 {a1 a2 a3 a4 : Value} (hm : callOK (miC M) i 0 4 cl lv M') (hd : decode (miB M) pc = .ok (.invokevirtual i, 3)) (hlv : lv < miV M) (hc : (rest.map fun v => v.category).sum ≤ 8) (hb : b < N) (hs : sh b = (0, cl)) (hcl : cl < 8)
    (hcon : Con M' N N σ [.ref b, a1, a2, a3, a4] (fun v σ' => V M N1 (pc + 3) ls (vpu v rest) N σ' Q)) : V M N1 pc ls (a4 :: a3 :: a2 :: a1 :: .ref b :: rest) N σ Q :=
  V_in fun hN => V_callV (As := [a1, a2, a3, a4]) hm hd hlv rfl hc hb hs hcl hN hcon (fun v σ' h => by rw [vpu_eq]; exact h)
theorem V_cS4 {a1 a2 a3 a4 : Value} (hm : callOK (miC M) i 1 4 cl lv M') (hd : decode (miB M) pc = .ok (.invokestatic i, 3)) (hlv : lv < miV M) (hc : (rest.map fun v => v.category).sum ≤ 8)
    (hcon : Con M' N N σ [a1, a2, a3, a4] (fun v σ' => V M N1 (pc + 3) ls (vpu v rest) N σ' Q)) : V M N1 pc ls (a4 :: a3 :: a2 :: a1 :: rest) N σ Q :=
  V_in fun hN => V_callS (As := [a1, a2, a3, a4]) hm hd hlv rfl hc hN hcon (fun v σ' h => by rw [vpu_eq]; exact h)
theorem V_cN4 {a1 a2 a3 a4 : Value} (hm : callOK (miC M) i 3 4 cl lv M') (hd : decode (miB M) pc = .ok (.invokestatic i, 3)) (hlv : lv < miV M) (hc : (rest.map fun v => v.category).sum ≤ 8)
    (hcon : Con M' N N σ [a1, a2, a3, a4] (fun v σ' => V M N1 (pc + 3) ls (vpu v rest) N σ' Q)) : V M N1 pc ls (a4 :: a3 :: a2 :: a1 :: rest) N σ Q :=
  V_in fun hN => V_callSN (As := [a1, a2, a3, a4]) hm hd hlv rfl hc hN hcon (fun v σ' h => by rw [vpu_eq]; exact h)
theorem V_cV5 {a1 a2 a3 a4 a5 : Value} (hm : callOK (miC M) i 0 5 cl lv M') (hd : decode (miB M) pc = .ok (.invokevirtual i, 3)) (hlv : lv < miV M) (hc : (rest.map fun v => v.category).sum ≤ 8) (hb : b < N) (hs : sh b = (0, cl)) (hcl : cl < 8)
    (hcon : Con M' N N σ [.ref b, a1, a2, a3, a4, a5] (fun v σ' => V M N1 (pc + 3) ls (vpu v rest) N σ' Q)) : V M N1 pc ls (a5 :: a4 :: a3 :: a2 :: a1 :: .ref b :: rest) N σ Q :=
  V_in fun hN => V_callV (As := [a1, a2, a3, a4, a5]) hm hd hlv rfl hc hb hs hcl hN hcon (fun v σ' h => by rw [vpu_eq]; exact h)
theorem V_cS5 {a1 a2 a3 a4 a5 : Value} (hm : callOK (miC M) i 1 5 cl lv M') (hd : decode (miB M) pc = .ok (.invokestatic i, 3)) (hlv : lv < miV M) (hc : (rest.map fun v => v.category).sum ≤ 8)
    (hcon : Con M' N N σ [a1, a2, a3, a4, a5] (fun v σ' => V M N1 (pc + 3) ls (vpu v rest) N σ' Q)) : V M N1 pc ls (a5 :: a4 :: a3 :: a2 :: a1 :: rest) N σ Q :=
  V_in fun hN => V_callS (As := [a1, a2, a3, a4, a5]) hm hd hlv rfl hc hN hcon (fun v σ' h => by rw [vpu_eq]; exact h)
theorem V_cN5 {a1 a2 a3 a4 a5 : Value} (hm : callOK (miC M) i 3 5 cl lv M') (hd : decode (miB M) pc = .ok (.invokestatic i, 3)) (hlv : lv < miV M) (hc : (rest.map fun v => v.category).sum ≤ 8)
    (hcon : Con M' N N σ [a1, a2, a3, a4, a5] (fun v σ' => V M N1 (pc + 3) ls (vpu v rest) N σ' Q)) : V M N1 pc ls (a5 :: a4 :: a3 :: a2 :: a1 :: rest) N σ Q :=
  V_in fun hN => V_callSN (As := [a1, a2, a3, a4, a5]) hm hd hlv rfl hc hN hcon (fun v σ' h => by rw [vpu_eq]; exact h)
end CALLS8
abbrev PT : Type := (Int → Int) × (Int → Int) × Int × Int
abbrev TT : Type := (Int → Int) × (Int → Int) × Int × Int × Int × Int × Int
def mfld (P : PT) (T : TT) : Int → Int := fun k => if k = 3 then P.2.2.1 else if k = 4 then P.2.2.2 else if k = 6 then T.2.2.1 else if k = 7 then T.2.2.2.1 else if k = 9 then T.2.2.2.2.1 else if k = 10 then T.2.2.2.2.2.1 else if k = 11 then T.2.2.2.2.2.2 else 0
theorem setI_eq {σ σ' : Sto} {i : Nat} {k x : Int} (h2 : σ'.2 = σ.2) (h1 : σ'.1 i = up1 (σ.1 i) k x) (h0 : ∀ j, j ≠ i → σ'.1 j = σ.1 j) : setI σ i k x = σ' := by
  refine Prod.ext (funext fun j => ?_) h2.symm
  show up2 σ.1 i k x j = _
  by_cases hj : j = i
  · rw [hj, up2_at, h1]
  · rw [up2_ne hj, h0 j hj]
section MODEL
variable {M : MI} {N N1 pc : Nat} {ls : List (Nat × Value)} {st : List Value} {Q : Option Value → Sto → Prop} {σ : Sto} {ix : Nat} {now past aside text read : Int → Int} {P : PT} {T : TT} {sv rf len spot fat fwy many : Int}
end MODEL
