/-! a new machine's row -/
def r0 : Int → Int := fun k => if k = 3 then 100 else if k = 6 then -4 else if k = 7 then -4 else if k = 10 then 2 else if k = 11 then 1 else if k = 12 then 3 else if k = 13 then 30 else if k = 15 then 250 else if k = 25 ∨ k = 28 ∨ k = 31 ∨ k = 34 then 1 else 0
def π0 : Int → Nat := fun j => if 0 ≤ j ∧ j < 10 then 7 + j.toNat else 7
def cI0 : Nat → Int → Int := (upn (up2 (up2 (upn (upn (upn (upn (upn (upn (qc (up2 (upn (upn (upn (upn (up2 (up2 (up2 (up2 (upn (upn (fun _ _ => 0) 1 (fun _ => 0)) 2 (fun _ => 0)) 2 0 (1)) 2 1 (1)) 2 2 (1)) 2 3 (1)) 3 (fun _ => 0)) 4 (fun _ => 0)) 5 (fun _ => 0)) 6 (fun _ => 0)) 5 3 (-1)) 10) 17 (fun _ => 0)) 18 (fun _ => 0)) 19 (fun _ => 0)) 20 (fun _ => 0)) 21 (fun _ => 0)) 22 (fun _ => 0)) 0 4 (100)) 0 6 (0)) 22 (fun k => if 0 ≤ k ∧ k < 6 then (stV 0 k.toNat).toInt else (up2 (up2 (upn (upn (upn (upn (upn (upn (qc (up2 (upn (upn (upn (upn (up2 (up2 (up2 (up2 (upn (upn (fun _ _ => 0) 1 (fun _ => 0)) 2 (fun _ => 0)) 2 0 (1)) 2 1 (1)) 2 2 (1)) 2 3 (1)) 3 (fun _ => 0)) 4 (fun _ => 0)) 5 (fun _ => 0)) 6 (fun _ => 0)) 5 3 (-1)) 10) 17 (fun _ => 0)) 18 (fun _ => 0)) 19 (fun _ => 0)) 20 (fun _ => 0)) 21 (fun _ => 0)) 22 (fun _ => 0)) 0 4 (100)) 0 6 (0)) 22 k))
def ρI0 (b : Nat) : Nat → Int → Option Nat := (up2 (upn (up2 (up2 (upn (up2 (upn (up2 (upn (up2 (upn (upn (up2 (qr b (up2 (upn (upn (up2 (up2 (upn (up2 (upn (up2 (upn (upn (fun _ _ => none) 1 (fun _ => none)) 2 (fun _ => none)) 1 0 (some (b + 2))) 3 (fun _ => none)) 1 1 (some (b + 3))) 4 (fun _ => none)) 1 2 (some (b + 4))) 0 0 (some (b + 1))) 5 (fun _ => none)) 6 (fun j => if 0 ≤ j ∧ j < 10 then none else some (b + 7))) 5 0 (some (b + 6))) 10) 0 1 (some (b + 5))) 17 (fun _ => none)) 18 (fun _ => none)) 17 0 (some (b + 18))) 19 (fun _ => none)) 17 1 (some (b + 19))) 20 (fun _ => none)) 17 2 (some (b + 20))) 21 (fun _ => none)) 17 3 (some (b + 21))) 0 2 (some (b + 17))) 22 (fun _ => none)) 0 3 (some (b + 22)))
theorem ρI0_6 {b : Nat} (j : Int) : ρI0 b 6 j = some (b + π0 j) := by
  show (if 0 ≤ j ∧ j < ((10 : Nat) : Int) then some (b + (7 + j.toNat)) else if 0 ≤ j ∧ j < 10 then none else some (b + 7)) = some (b + π0 j)
  unfold π0
  by_cases h : 0 ≤ j ∧ j < 10
  · rw [if_pos (by omega), if_pos h]
  · rw [if_neg (by omega), if_neg h, if_neg h]
theorem ρI0_o {b i : Nat} (hi : i < 23) (h6 : ¬ i = 6) (q : Int) : ρI0 b i q = (srf i q).map (fun x => b + x) := by
  rcases (show i = 0 ∨ i = 1 ∨ i = 2 ∨ i = 3 ∨ i = 4 ∨ i = 5 ∨ i = 7 ∨ i = 8 ∨ i = 9 ∨ i = 10 ∨ i = 11 ∨ i = 12 ∨ i = 13 ∨ i = 14 ∨ i = 15 ∨ i = 16 ∨ i = 17 ∨ i = 18 ∨ i = 19 ∨ i = 20 ∨ i = 21 ∨ i = 22 by omega) with y | y | y | y | y | y | y | y | y | y | y | y | y | y | y | y | y | y | y | y | y | y <;> subst y <;> first
    | rfl
    | (by_cases a0 : q = 0
       · subst a0
         rfl
       · by_cases a1 : q = 1
         · subst a1
           rfl
         · by_cases a2 : q = 2
           · subst a2
             rfl
           · by_cases a3 : q = 3
             · subst a3
               rfl
             · simp [ρI0, srf, up2, upn, qr, a0, a1, a2, a3])
theorem gst_kst {σ : Sto} {b : Nat} : gst b 23 σ cI0 (ρI0 b) = kst b σ cI0 π0 := by
  refine (sto_ext (σ := σ) (σ' := kst b σ cI0 π0) rfl (fun i hi => ⟨kst_1 hi, ?_⟩) (fun j hj => ⟨kst_o1 hj, kst_o2 hj⟩)).symm
  funext q
  by_cases h : i = 6
  · subst h
    rw [kst_6, ρI0_6]
  · rw [kst_2 hi h, ρI0_o hi h]
theorem newR_gst {σ : Sto} {b : Nat} : newR σ b (fun _ => none) = gst b 1 σ (fun _ _ => 0) (fun _ _ => none) := by
  refine sto_ext rfl (fun i hi => ?_) (fun j hj => newR_o (by omega))
  obtain rfl : i = 0 := by omega
  exact ⟨newR_1, newR_2⟩
theorem c_X4_new {σ : Sto} {b : Nat} {Q : Option Value → Sto → Prop} (hB : MB b) (k : Q none (kst b σ cI0 π0)) : Con M_X4_init (b + 1) (b + 23) (newR σ b (fun _ => none)) [.ref b] Q := by
  rw [newR_gst]
  refine c_X4_init hB ?_
  have e := gst_kst (σ := σ) (b := b)
  unfold cI0 ρI0 at e
  rw [e]
  exact k
theorem PI_π0 : PI π0 := by
  unfold PI π0
  refine ⟨fun j a d => ?_, fun i j a d e f g => ?_⟩
  · rw [if_pos ⟨a, d⟩]
    omega
  · rw [if_pos ⟨a, d⟩, if_pos ⟨e, f⟩] at g
    omega
theorem MR_r0 : MR cI0 π0 r0 := by
  refine ⟨fun t a d => ?_, ⟨fun k a d => ?_, by decide +kernel, by decide +kernel, fun k a d => absurd (show k < 0 from d) (by omega)⟩, fun k a d => ?_, ⟨by decide +kernel, by decide +kernel, by decide +kernel, fun h => absurd (show r0 5 = 0 by decide +kernel) h, by decide +kernel⟩, by decide +kernel, by decide +kernel, Or.inl ⟨by decide +kernel, by decide +kernel⟩, PI_π0, fun j a d => absurd (show j < 0 from d) (by omega)⟩
  · rcases (show t = 0 ∨ t = 1 ∨ t = 2 ∨ t = 3 by omega) with y | y | y | y <;> subst y <;> decide +kernel
  · rcases (show k = 0 ∨ k = 1 ∨ k = 2 ∨ k = 3 ∨ k = 4 ∨ k = 5 ∨ k = 6 ∨ k = 7 ∨ k = 8 by omega) with y | y | y | y | y | y | y | y | y <;> subst y <;> decide +kernel
  · rcases (show k = 0 ∨ k = 1 ∨ k = 2 ∨ k = 3 ∨ k = 4 ∨ k = 5 by omega) with y | y | y | y | y | y <;> subst y <;> decide +kernel
theorem r0_rg (k : Int) : -4 ≤ r0 k ∧ r0 k ≤ 250 := by
  unfold r0
  (repeat' split) <;> omega
/-! rows that agree below 185 -/
def RE (r r' : Int → Int) : Prop := ∀ k : Int, 0 ≤ k → k < 185 → r' k = r k
theorem RE.j {r r' : Int → Int} (h : RE r r') {p w : Int} (hp : 0 ≤ p ∧ p < 10) (hw : 0 ≤ w ∧ w < 10) : jf r' p w = jf r p w := h _ (by omega) (by omega)
theorem MR.re {c : Nat → Int → Int} {π : Int → Nat} {r r' : Int → Int} (m : MR c π r) (h : RE r r') (h0 : 0 ≤ r 0 ∧ r 0 ≤ 10) (h9 : 0 ≤ r 9 ∧ r 9 ≤ 16) : MR c π r' := by
  obtain ⟨t, ⟨l1, l2, l3, l4⟩, s, ⟨k1, k2, k3, k4, k5⟩, q1, q2, q3, q4, q5⟩ := m
  have e : ∀ k : Int, 0 ≤ k → k < 185 → r' k = r k := h
  refine ⟨fun i a d => ?_, ⟨fun k a d => ?_, ?_, ?_, fun k a d => ?_⟩, fun k a d => ?_, ⟨?_, ?_, ?_, fun z => ?_, ?_⟩, ?_, ?_, ?_, q4, fun j a d => ?_⟩
  · rw [e _ (by omega) (by omega), e _ (by omega) (by omega), e _ (by omega) (by omega)]
    exact t i a d
  · rw [e _ (by omega) (by omega)]
    exact l1 k a d
  · rw [e _ (by omega) (by omega)]
    exact l2
  · rw [e _ (by omega) (by omega)]
    exact l3
  · rw [e 9 (by omega) (by omega)] at d
    rw [e _ (by omega) (by omega), e _ (by omega) (by omega), e _ (by omega) (by omega)]
    exact l4 k a d
  · rw [e _ (by omega) (by omega)]
    exact s k a d
  · rw [e _ (by omega) (by omega)]
    exact k1
  · rw [e _ (by omega) (by omega)]
    exact k2
  · rw [e _ (by omega) (by omega)]
    exact k3
  · rw [e 5 (by omega) (by omega)] at z
    rw [e _ (by omega) (by omega)]
    exact k4 z
  · rw [e _ (by omega) (by omega)]
    exact k5
  · rw [e _ (by omega) (by omega)]
    exact q1
  · rw [e _ (by omega) (by omega)]
    exact q2
  · rw [e _ (by omega) (by omega)]
    exact q3
  · rw [e 0 (by omega) (by omega)] at d
    have f : ∀ w : Int, 0 ≤ w → w < 10 → jf r' j w = jf r j w := fun w w0 w1 => h.j (by omega) (by omega)
    have g := sst_ext f
    have y := q5 j a d
    unfold JR at y ⊢
    rw [f 0 (by decide) (by decide), f 1 (by decide) (by decide), f 2 (by decide) (by decide), f 3 (by decide) (by decide), f 4 (by decide) (by decide), f 5 (by decide) (by decide), f 6 (by decide) (by decide), f 7 (by decide) (by decide), f 8 (by decide) (by decide), f 9 (by decide) (by decide), g.1, g.2]
    exact y
theorem RI.re {r r' : Int → Int} (m : RI r) (h : RE r r') : RI r' := by
  have e : ∀ k : Int, 0 ≤ k → k < 185 → r' k = r k := h
  obtain ⟨n, rb, rt, ⟨p1, p2⟩, so, ji, wi⟩ := m
  unfold NI at n
  have f : ∀ p : Int, 0 ≤ p → p < r 0 → ∀ w : Int, 0 ≤ w → w < 10 → jf r' p w = jf r p w := fun p a d w w0 w1 => h.j (by omega) (by omega)
  have hp := plc_ext (e 0 (by decide) (by decide)) (fun p a d => f p a d 0 (by decide) (by decide))
  have e9 := e 9 (by decide) (by decide)
  refine ⟨?_, fun k a d z => ?_, fun t a d => ?_, ⟨fun k a d => ?_, fun i k a d g => ?_⟩, SO_ext (e 0 (by decide) (by decide)) (fun p a d => f p a d 0 (by decide) (by decide)) so, fun p a d => ?_, ?_⟩
  · unfold NI
    rw [e 0 (by decide) (by decide), e 1 (by decide) (by decide), e 2 (by decide) (by decide), e 3 (by decide) (by decide), e 7 (by decide) (by decide), e 8 (by decide) (by decide), e 9 (by decide) (by decide), e 10 (by decide) (by decide), e 11 (by decide) (by decide), e 12 (by decide) (by decide), e 13 (by decide) (by decide), e 14 (by decide) (by decide), e 15 (by decide) (by decide), e 24 (by decide) (by decide)]
    exact n
  · rw [e k a d]
    exact rb k a d z
  · rw [e _ (by omega) (by omega), e _ (by omega) (by omega), e _ (by omega) (by omega)]
    exact rt t a d
  · rw [e9] at d
    rw [e _ (by omega) (by omega), e _ (by omega) (by omega)]
    exact p1 k a d
  · rw [e9] at g
    rw [e _ (by omega) (by omega), e _ (by omega) (by omega), e (37 + 3 * i + 1) (by omega) (by omega), e (37 + 3 * k + 1) (by omega) (by omega)]
    exact p2 i k a d g
  · rw [e 0 (by decide) (by decide)] at d
    exact JI_ext (by omega) (by rw [e 1 (by decide) (by decide)]; exact Int.le_refl _) (f p a d) (ji p a d)
  · refine WI_ext (e 4 (by decide) (by decide)) (e 5 (by decide) (by decide)) (e 6 (by decide) (by decide)) (Or.inr (fun z => ⟨by rw [hp]; exact z, fun w w0 w1 => ?_⟩)) wi
    rw [hp]
    exact f _ z (plc_lt z) w w0 w1
theorem RI_r0 : RI r0 := by
  refine ⟨by unfold NI; decide +kernel, fun k _ _ _ => by have h := r0_rg k; omega, fun t a d => ?_, ⟨fun k a d => absurd (show k < 0 from d) (by omega), fun i k a d g => absurd (show k < 0 from g) (by omega)⟩, fun p q a d g => absurd (show q < 0 from g) (by omega), fun p a d => absurd (show p < 0 from d) (by omega), Or.inl ⟨by decide +kernel, by decide +kernel, by decide +kernel⟩⟩
  rcases (show t = 0 ∨ t = 1 ∨ t = 2 ∨ t = 3 by omega) with y | y | y | y <;> subst y <;> decide +kernel
theorem RE.rfl' {r : Int → Int} : RE r r := fun _ _ _ => rfl
theorem RE.trans {r r' r'' : Int → Int} (h : RE r r') (g : RE r' r'') : RE r r'' := fun k a d => (g k a d).trans (h k a d)
theorem RE.symm {r r' : Int → Int} (h : RE r r') : RE r' r := fun k a d => (h k a d).symm
