/-! the class: a machine's work, its ends -/
def guF (r : Int → Int) (j : Int) : Int → Int := if r 6 = j then endsF (adn r 18 (if r 5 = 1 then 1 else 0)) else r
theorem adn_0 (r : Int → Int) (k : Int) : adn r k 0 = r := by
  funext q
  unfold adn up1
  split
  · next e => rw [e, Int.add_zero]
  · rfl
theorem stayF_n {r : Int → Int} {j : Int} (h : ¬ r 7 = j) : stayF r j = r := by
  unfold stayF
  rw [if_neg h]
  funext q
  unfold up1
  split
  · next e => rw [e]
  · rfl
theorem guF_c {r : Int → Int} {j : Int} : guF (stayF r j) j = givF r j := by
  have e6 : stayF r j 6 = r 6 := up1_ne (by decide)
  have e5 : stayF r j 5 = r 5 := up1_ne (by decide)
  have e18 : stayF r j 18 = r 18 := up1_ne (by decide)
  unfold guF givF
  rw [e6, e5]
  by_cases h : r 6 = j
  · rw [if_pos h, if_pos h]
    funext q
    unfold endsF adn
    rw [e18]
    unfold stayF up1
    (repeat' split) <;> first | rfl | (exfalso; omega) | omega
  · rw [if_neg h, if_neg h]
theorem leav_c {r : Int → Int} {p j : Int} (hp : 0 ≤ p) : goesF (stayF (inc r 21) j) p = inc (goesF (stayF r j) p) 21 := by
  have e0 : stayF (inc r 21) j 0 = r 0 := by unfold stayF inc; rw [up1_ne (by decide), up1_ne (by decide)]
  have f0 : stayF r j 0 = r 0 := up1_ne (by decide)
  have e7 : inc r 21 7 = r 7 := up1_ne (by decide)
  funext q
  by_cases y : q = 21
  · subst y
    have l1 : goesF (stayF (inc r 21) j) p 21 = r 21 + 1 := by
      rw [goesF_at hp (by decide) (by decide)]
      unfold stayF
      rw [up1_ne (by decide)]
      exact up1_at
    have l2 : inc (goesF (stayF r j) p) 21 21 = r 21 + 1 := by
      show up1 _ _ _ 21 = _
      rw [up1_at, goesF_at hp (by decide) (by decide)]
      unfold stayF
      rw [up1_ne (by decide)]
    rw [l1, l2]
  · unfold inc
    rw [up1_ne y]
    unfold goesF sh10 sbn
    rw [show stayF (up1 r 21 (r 21 + 1)) j 0 = r 0 from e0, f0]
    show (if _ then _ else _) = (if _ then _ else _)
    have g : ∀ z : Int, ¬ z = 21 → stayF (up1 r 21 (r 21 + 1)) j z = stayF r j z := fun z hz => by
      unfold stayF
      rw [show up1 r 21 (r 21 + 1) 7 = r 7 from e7]
      by_cases z7 : z = 7
      · rw [z7, up1_at, up1_at]
      · rw [up1_ne z7, up1_ne z7, up1_ne hz]
    split
    · rw [up1_ne (by omega), up1_ne (by omega), g _ (by omega)]
    · by_cases z0 : q = 0
      · rw [z0, up1_at, up1_at]
      · rw [up1_ne z0, up1_ne z0, g _ y]
theorem up2_c {α : Type} {f : Nat → Int → α} {i i' : Nat} {k k' : Int} {v v' : α} (h : ¬ (i = i' ∧ k = k')) : up2 (up2 f i k v) i' k' v' = up2 (up2 f i' k' v') i k v := by
  funext a q
  unfold up2
  (repeat' split) <;> first | rfl | (exfalso; omega)
theorem c_X4_giveUpWorkOf {σ : Sto} {b : Nat} {c : Nat → Int → Int} {π : Int → Nat} {r : Int → Int} {Q : Option Value → Sto → Prop} (hB : MB b) (hM : MR c π r) (h0 : 0 ≤ r 0 ∧ r 0 ≤ 10) (h9 : 0 ≤ r 9 ∧ r 9 ≤ 16) {j : Int} (g5 : -3000000 ≤ r 5 ∧ r 5 ≤ 3000000) (g6 : -3000000 ≤ r 6 ∧ r 6 ≤ 3000000) (hW : r 5 = 0 → r 6 = -4) (hj : 0 ≤ j ∧ j ≤ 3000000) (k : ∀ c' : Nat → Int → Int, MR c' π (guF r j) → Q none (kst b σ c' π)) : Con M_X4_giveUpWorkOf 144 144 (kst b σ c π) [.ref b, zI j] Q := by
  refine V_entry ok_X4_giveUpWorkOf (Nat.le_refl _) (Nat.le_of_ble_eq_true rfl) (V_ls [(0, .ref b), (1, zI j)] ⟨rfl, rfl, trivial⟩ ?_)
  obtain ⟨k1, k2, k3, k4, k5⟩ := hM.2.2.2.1
  obtain ⟨q1, q2, q3, qp, qj⟩ := hM.2.2.2.2
  refine V_aload_n (pc := 0) e_X4_giveUpWorkOf_0 rfl (Or.inl ⟨_, rfl⟩) ?_
  refine Vk_get (pc := 1) (i := 0) (q := 6) hB rfl (by decide) rfl fx_4_40 e_X4_giveUpWorkOf_1 rfl rfl ?_
  refine V_if_eq (pc := 4) e_X4_giveUpWorkOf_4 (by decide) (by omega) (fun h4 => ?_) (fun h4 => ?_)
  · refine V_ret (pc := 15) (v := none) ⟨e_X4_giveUpWorkOf_15, rfl⟩ ?_
    exact k _ (by unfold guF; rw [if_neg (by omega)]; exact hM)
  · have k7 := k4 (by omega)
    refine V_aload_n (pc := 7) e_X4_giveUpWorkOf_7 rfl (Or.inl ⟨_, rfl⟩) ?_
    refine Vk_get (pc := 8) (i := 0) (q := 7) hB rfl (by decide) rfl fx_4_65 e_X4_giveUpWorkOf_8 rfl rfl ?_
    refine V_iload_n (pc := 11) e_X4_giveUpWorkOf_11 rfl ?_
    refine V_icmp_eq (pc := 12) e_X4_giveUpWorkOf_12 (by decide) (by omega) (by omega) (fun h12 => ?_) (fun h12 => ?_)
    · refine V_aload_n (pc := 16) e_X4_giveUpWorkOf_16 rfl (Or.inl ⟨_, rfl⟩) ?_
      refine Vk_get (pc := 17) (i := 0) (q := 6) hB rfl (by decide) rfl fx_4_40 e_X4_giveUpWorkOf_17 rfl rfl ?_
      refine V_iconst (pc := 20) e_X4_giveUpWorkOf_20 ?_
      refine V_icmp_ne (pc := 21) e_X4_giveUpWorkOf_21 (by decide) (by omega) (by decide) (fun h21 => ?_) (fun h21 => ?_)
      · refine V_aload_n (pc := 33) e_X4_giveUpWorkOf_33 rfl (Or.inl ⟨_, rfl⟩) ?_
        refine V_iconst (pc := 34) e_X4_giveUpWorkOf_34 ?_
        refine Vk_put (pc := 35) (i := 0) (q := 6) hB rfl (by decide) rfl fx_4_40 e_X4_giveUpWorkOf_35 rfl rfl rfl rfl rfl ?_
        refine V_aload_n (pc := 38) e_X4_giveUpWorkOf_38 rfl (Or.inl ⟨_, rfl⟩) ?_
        refine V_iconst (pc := 39) e_X4_giveUpWorkOf_39 ?_
        refine Vk_put (pc := 40) (i := 0) (q := 8) hB rfl (by decide) rfl fx_4_68 e_X4_giveUpWorkOf_40 rfl rfl rfl rfl rfl ?_
        refine V_ret (pc := 43) (v := none) ⟨e_X4_giveUpWorkOf_43, rfl⟩ ?_
        have a18 := hM.2.1.1 2 (by decide) (by decide)
        have z := MR_end2 h0.2 h9.2 hM
        refine k _ ?_
        unfold guF
        rw [if_pos (by omega), if_neg (by omega), adn_0]
        exact z
      · refine V_aload_n (pc := 24) e_X4_giveUpWorkOf_24 rfl (Or.inl ⟨_, rfl⟩) ?_
        refine Vk_getR (pc := 25) (i := 0) (q := 2) hB rfl (by decide) rfl fx_4_28 e_X4_giveUpWorkOf_25 rfl rfl (by decide) rfl ?_
        refine V_iconst (pc := 28) e_X4_giveUpWorkOf_28 ?_
        refine V_iconst (pc := 29) e_X4_giveUpWorkOf_29 ?_
        refine V_cV2 (pc := 30) ca_4_79 e_X4_giveUpWorkOf_30 (by decide) (Nat.le_of_ble_eq_true rfl) (kb_lt hB (by decide)) ((shB hB (by decide)).trans rfl) (by decide) (c_X3_add hB (by decide) ?_)
        refine V_aload_n (pc := 33) e_X4_giveUpWorkOf_33 rfl (Or.inl ⟨_, rfl⟩) ?_
        refine V_iconst (pc := 34) e_X4_giveUpWorkOf_34 ?_
        refine Vk_put (pc := 35) (i := 0) (q := 6) hB rfl (by decide) rfl fx_4_40 e_X4_giveUpWorkOf_35 rfl rfl rfl rfl rfl ?_
        refine V_aload_n (pc := 38) e_X4_giveUpWorkOf_38 rfl (Or.inl ⟨_, rfl⟩) ?_
        refine V_iconst (pc := 39) e_X4_giveUpWorkOf_39 ?_
        refine Vk_put (pc := 40) (i := 0) (q := 8) hB rfl (by decide) rfl fx_4_68 e_X4_giveUpWorkOf_40 rfl rfl rfl rfl rfl ?_
        refine V_ret (pc := 43) (v := none) ⟨e_X4_giveUpWorkOf_43, rfl⟩ ?_
        have a18 := hM.2.1.1 2 (by decide) (by decide)
        have z := MR_end2 (r := up1 r (16 + 2) (c 18 2 + 1)) (by rw [up1_ne (by decide)]; exact h0.2) (by rw [up1_ne (by decide)]; exact h9.2) (MR_acc (x := c 18 2 + 1) h0.2 h9.2 hM (w := 2) (by decide))
        refine k _ ?_
        unfold guF
        rw [if_pos (by omega), if_pos (by omega)]
        rw [a18] at z ⊢
        exact z
    · refine V_ret (pc := 15) (v := none) ⟨e_X4_giveUpWorkOf_15, rfl⟩ ?_
      exact k _ (by unfold guF; rw [if_neg (by omega)]; exact hM)
theorem c_X4_interrupt {σ : Sto} {b : Nat} {c : Nat → Int → Int} {π : Int → Nat} {r : Int → Int} {Q : Option Value → Sto → Prop} (hB : MB b) (hM : MR c π r) (h0 : 0 ≤ r 0 ∧ r 0 ≤ 10) (h9 : 0 ≤ r 9 ∧ r 9 ≤ 16) {p : Int} (hp : 0 ≤ p ∧ p < r 0) (hJ : JB r p) (g7 : -3000000 ≤ r 7 ∧ r 7 ≤ 3000000) (g5 : -3000000 ≤ r 5 ∧ r 5 ≤ 3000000) (g6 : -3000000 ≤ r 6 ∧ r 6 ≤ 3000000) (hW : r 5 = 0 → r 6 = -4) (k : ∀ c' : Nat → Int → Int, MR c' π (givF r (jf r p 0)) → Q none (kst b σ c' π)) : Con M_X4_interrupt 144 144 (kst b σ c π) [.ref b, .ref (b + π p)] Q := by
  refine V_entry ok_X4_interrupt (Nat.le_refl _) (Nat.le_of_ble_eq_true rfl) (V_ls [(0, .ref b), (1, .ref (b + π p))] ⟨rfl, rfl, trivial⟩ ?_)
  obtain ⟨k1, k2, k3, k4, k5⟩ := hM.2.2.2.1
  obtain ⟨q1, q2, q3, qp, qj⟩ := hM.2.2.2.2
  have pp := qp.1 p (by omega) (by omega)
  have hj := qj p hp.1 hp.2
  have jj := hJ
  unfold JB at jj
  have jr := hj
  unfold JR at jr
  refine V_aload_n (pc := 0) e_X4_interrupt_0 rfl (Or.inl ⟨_, rfl⟩) ?_
  refine Vk_getR (pc := 1) (i := 0) (q := 1) hB rfl (by decide) rfl fx_4_21 e_X4_interrupt_1 rfl rfl (by decide) rfl ?_
  refine Vk_get (pc := 4) (q := 3) hB rfl (by decide) rfl fx_4_130 e_X4_interrupt_4 rfl rfl ?_
  refine V_aload_n (pc := 7) e_X4_interrupt_7 rfl (Or.inl ⟨_, rfl⟩) ?_
  refine Vk_get (pc := 8) (q := 0) hB rfl (by omega) (shM_j (by omega) (by omega)) fx_4_127 e_X4_interrupt_8 rfl rfl ?_
  refine V_icmp_ne (pc := 11) e_X4_interrupt_11 (by decide) (by omega) (by omega) (fun h11 => ?_) (fun h11 => ?_)
  · have m1 : MR c π (stayF r (jf r p 0)) := by
      rw [stayF_n (by omega)]
      exact hM
    refine V_aload_n (pc := 22) e_X4_interrupt_22 rfl (Or.inl ⟨_, rfl⟩) ?_
    refine V_aload_n (pc := 23) e_X4_interrupt_23 rfl (Or.inl ⟨_, rfl⟩) ?_
    refine Vk_get (pc := 24) (q := 0) hB rfl (by omega) (shM_j (by omega) (by omega)) fx_4_127 e_X4_interrupt_24 rfl rfl ?_
    rw [show c (π p) 0 = jf r p 0 by omega]
    refine V_cV1 (pc := 27) ca_4_168 e_X4_interrupt_27 (by decide) (Nat.le_of_ble_eq_true rfl) (kb_lt (i := 0) hB (by decide)) ((shB (i := 0) hB (by decide)).trans rfl) (by decide) (c_X4_giveUpWorkOf (r := stayF r (jf r p 0)) hB m1 (by unfold stayF; rw [up1_ne (by decide)]; exact h0) (by unfold stayF; rw [up1_ne (by decide)]; exact h9) (by unfold stayF; rw [up1_ne (by decide)]; exact g5) (by unfold stayF; rw [up1_ne (by decide)]; exact g6) (by unfold stayF; rw [up1_ne (by decide), up1_ne (by decide)]; exact hW) (by omega) (fun c1 y => ?_))
    refine V_ret (pc := 30) (v := none) ⟨e_X4_interrupt_30, rfl⟩ ?_
    rw [guF_c] at y
    exact k _ y
  · refine V_aload_n (pc := 14) e_X4_interrupt_14 rfl (Or.inl ⟨_, rfl⟩) ?_
    refine Vk_getR (pc := 15) (i := 0) (q := 1) hB rfl (by decide) rfl fx_4_21 e_X4_interrupt_15 rfl rfl (by decide) rfl ?_
    refine V_iconst (pc := 18) e_X4_interrupt_18 ?_
    refine Vk_put (pc := 19) (q := 3) hB rfl (by decide) rfl fx_4_130 e_X4_interrupt_19 rfl rfl rfl rfl rfl ?_
    have m1 : MR (up2 c 5 3 (-1)) π (stayF r (jf r p 0)) := by
      have y := MR_lat (x := -4) (y := -1) h0.2 h9.2 hM (by omega)
      unfold stayF
      rw [if_pos (by omega)]
      exact y
    have e0 : up2 c 5 3 (-1) (π p) 0 = c (π p) 0 := up2_o (by omega)
    refine V_aload_n (pc := 22) e_X4_interrupt_22 rfl (Or.inl ⟨_, rfl⟩) ?_
    refine V_aload_n (pc := 23) e_X4_interrupt_23 rfl (Or.inl ⟨_, rfl⟩) ?_
    refine Vk_get (pc := 24) (q := 0) hB rfl (by omega) (shM_j (by omega) (by omega)) fx_4_127 e_X4_interrupt_24 rfl rfl ?_
    rw [show up2 c 5 3 (-1) (π p) 0 = jf r p 0 by omega]
    refine V_cV1 (pc := 27) ca_4_168 e_X4_interrupt_27 (by decide) (Nat.le_of_ble_eq_true rfl) (kb_lt (i := 0) hB (by decide)) ((shB (i := 0) hB (by decide)).trans rfl) (by decide) (c_X4_giveUpWorkOf (r := stayF r (jf r p 0)) hB m1 (by unfold stayF; rw [up1_ne (by decide)]; exact h0) (by unfold stayF; rw [up1_ne (by decide)]; exact h9) (by unfold stayF; rw [up1_ne (by decide)]; exact g5) (by unfold stayF; rw [up1_ne (by decide)]; exact g6) (by unfold stayF; rw [up1_ne (by decide), up1_ne (by decide)]; exact hW) (by omega) (fun c1 y => ?_))
    refine V_ret (pc := 30) (v := none) ⟨e_X4_interrupt_30, rfl⟩ ?_
    rw [guF_c] at y
    exact k _ y
theorem shA_lwt {r : Int → Int} (hT : RT r) {s q : Int} : shA r s q 4 = 0 ↔ lwt r s q = -1 := by
  have a0 := hT 0 (by decide) (by decide)
  have a1 := hT 1 (by decide) (by decide)
  have a2 := hT 2 (by decide) (by decide)
  have a3 := hT 3 (by decide) (by decide)
  have e : shA r s q 4 = 0 + (if r (25 + 3 * 0) = s ∧ r (25 + 3 * 0 + 1) = q then r (25 + 3 * 0 + 2) else 0) + (if r (25 + 3 * 1) = s ∧ r (25 + 3 * 1 + 1) = q then r (25 + 3 * 1 + 2) else 0) + (if r (25 + 3 * 2) = s ∧ r (25 + 3 * 2 + 1) = q then r (25 + 3 * 2 + 2) else 0) + (if r (25 + 3 * 3) = s ∧ r (25 + 3 * 3 + 1) = q then r (25 + 3 * 3 + 2) else 0) := rfl
  constructor
  · intro z
    refine lwt_no (fun t b d y => ?_)
    rw [e] at z
    rcases (show t = 0 ∨ t = 1 ∨ t = 2 ∨ t = 3 by omega) with rfl | rfl | rfl | rfl
    · rw [if_pos (And.intro y.1 y.2.1)] at z
      have := y.2.2
      (repeat' split at z) <;> omega
    · rw [if_pos (And.intro y.1 y.2.1)] at z
      have := y.2.2
      (repeat' split at z) <;> omega
    · rw [if_pos (And.intro y.1 y.2.1)] at z
      have := y.2.2
      (repeat' split at z) <;> omega
    · rw [if_pos (And.intro y.1 y.2.1)] at z
      have := y.2.2
      (repeat' split at z) <;> omega
  · intro z
    have h : ∀ t, 0 ≤ t → t ≤ 3 → ¬ twk r s q t := fun t b d y => by
      have := (lwt_sp ⟨t, b, d, y⟩).1
      omega
    rw [e]
    have n0 : ¬ (r (25 + 3 * 0) = s ∧ r (25 + 3 * 0 + 1) = q) ∨ r (25 + 3 * 0 + 2) = 0 := Classical.byContradiction fun y => h 0 (by decide) (by decide) ⟨by omega, by omega, by omega⟩
    have n1 : ¬ (r (25 + 3 * 1) = s ∧ r (25 + 3 * 1 + 1) = q) ∨ r (25 + 3 * 1 + 2) = 0 := Classical.byContradiction fun y => h 1 (by decide) (by decide) ⟨by omega, by omega, by omega⟩
    have n2 : ¬ (r (25 + 3 * 2) = s ∧ r (25 + 3 * 2 + 1) = q) ∨ r (25 + 3 * 2 + 2) = 0 := Classical.byContradiction fun y => h 2 (by decide) (by decide) ⟨by omega, by omega, by omega⟩
    have n3 : ¬ (r (25 + 3 * 3) = s ∧ r (25 + 3 * 3 + 1) = q) ∨ r (25 + 3 * 3 + 2) = 0 := Classical.byContradiction fun y => h 3 (by decide) (by decide) ⟨by omega, by omega, by omega⟩
    (repeat' split) <;> omega
theorem c_X4_stopReason {σ : Sto} {b : Nat} {c : Nat → Int → Int} {π : Int → Nat} {r : Int → Int} {Q : Option Value → Sto → Prop} (hB : MB b) (hM : MR c π r) (h0 : 0 ≤ r 0 ∧ r 0 ≤ 10) (h9 : 0 ≤ r 9 ∧ r 9 ≤ 16) {p : Int} (hp : 0 ≤ p ∧ p < r 0) (hJ : JB r p) (hT : RT r) (hRB : RB r) (k : Q (some (zI (wst r p))) (kst b σ c π)) : Con M_X4_stopReason 144 144 (kst b σ c π) [.ref b, .ref (b + π p)] Q := by
  refine V_entry ok_X4_stopReason (Nat.le_refl _) (Nat.le_of_ble_eq_true rfl) (V_ls [(0, .ref b), (1, .ref (b + π p))] ⟨rfl, rfl, trivial⟩ ?_)
  obtain ⟨k1, k2, k3, k4, k5⟩ := hM.2.2.2.1
  obtain ⟨q1, q2, q3, qp, qj⟩ := hM.2.2.2.2
  have pp := qp.1 p (by omega) (by omega)
  have hj := qj p hp.1 hp.2
  have jj := hJ
  unfold JB at jj
  have jr := hj
  unfold JR at jr
  have g2 := hRB 2 (by decide) (by decide) (by decide)
  have g3 := hRB 3 (by decide) (by decide) (by decide)
  have g15 := hRB 15 (by decide) (by decide) (by decide)
  have s5 : c 22 5 = r 15 := hM.2.2.1 5 (by decide) (by decide)
  have sw := shA_lwt hT (s := jf r p 3) (q := jf r p 4)
  have lb : -1 ≤ lwt r (jf r p 3) (jf r p 4) ∧ lwt r (jf r p 3) (jf r p 4) ≤ 3 := by
    by_cases y : ∃ t, 0 ≤ t ∧ t ≤ 3 ∧ twk r (jf r p 3) (jf r p 4) t
    · have := lwt_sp y; omega
    · rw [lwt_no (fun t a d z => y ⟨t, a, d, z⟩)]; omega
  refine V_aload_n (pc := 0) e_X4_stopReason_0 rfl (Or.inl ⟨_, rfl⟩) ?_
  refine V_cV0 (pc := 1) ca_4_95 e_X4_stopReason_1 (by decide) (Nat.le_of_ble_eq_true rfl) (kb_lt hB (by omega)) ((shB hB (by omega)).trans (shM_j (by omega) (by omega))) (by decide) (c_X1_hasSetToStaple hB (by omega) hj hJ (fun h_hs => ?_) (fun h_hs => ?_))
  · refine V_if_eq (pc := 4) e_X4_stopReason_4 (by decide) (by decide) (fun h => absurd h (by decide)) (fun _ => ?_)
    refine V_aload_n (pc := 7) e_X4_stopReason_7 rfl (Or.inl ⟨_, rfl⟩) ?_
    refine Vk_get (pc := 8) (i := 0) (q := 4) hB rfl (by decide) rfl fx_4_36 e_X4_stopReason_8 rfl rfl ?_
    refine V_aload_n (pc := 11) e_X4_stopReason_11 rfl (Or.inl ⟨_, rfl⟩) ?_
    refine Vk_get (pc := 12) (q := 8) hB rfl (by omega) (shM_j (by omega) (by omega)) fx_4_108 e_X4_stopReason_12 rfl rfl ?_
    refine V_icmp_ge (pc := 15) e_X4_stopReason_15 (by decide) (by omega) (by omega) (fun h15 => ?_) (fun h15 => ?_)
    · refine V_iconst (pc := 22) e_X4_stopReason_22 ?_
      refine V_ret (pc := 23) (v := some (zI _)) ⟨e_X4_stopReason_23, _, rfl, rfl⟩ ?_
      exact Qv k (by unfold wst; rw [if_neg (by omega)]; (repeat' split) <;> omega) rfl
    · refine V_iconst (pc := 18) e_X4_stopReason_18 ?_
      refine V_goto (pc := 19) e_X4_stopReason_19 (by decide) ?_
      refine V_ret (pc := 23) (v := some (zI _)) ⟨e_X4_stopReason_23, _, rfl, rfl⟩ ?_
      exact Qv k (by unfold wst; rw [if_neg (by omega)]; (repeat' split) <;> omega) rfl
  · refine V_if_eq (pc := 4) e_X4_stopReason_4 (by decide) (by decide) (fun _ => ?_) (fun h => absurd (by decide) h)
    refine V_aload_n (pc := 24) e_X4_stopReason_24 rfl (Or.inl ⟨_, rfl⟩) ?_
    refine Vk_getR (pc := 25) (i := 0) (q := 0) hB rfl (by decide) rfl fx_4_12 e_X4_stopReason_25 rfl rfl (by decide) rfl ?_
    refine V_aload_n (pc := 28) e_X4_stopReason_28 rfl (Or.inl ⟨_, rfl⟩) ?_
    refine Vk_get (pc := 29) (q := 3) hB rfl (by omega) (shM_j (by omega) (by omega)) fx_4_111 e_X4_stopReason_29 rfl rfl ?_
    refine V_aload_n (pc := 32) e_X4_stopReason_32 rfl (Or.inl ⟨_, rfl⟩) ?_
    refine Vk_get (pc := 33) (q := 4) hB rfl (by omega) (shM_j (by omega) (by omega)) fx_4_114 e_X4_stopReason_33 rfl rfl ?_
    rw [show c (π p) 3 = jf r p 3 by omega, show c (π p) 4 = jf r p 4 by omega]
    refine V_cV2 (pc := 36) ca_4_117 e_X4_stopReason_36 (by decide) (Nat.le_of_ble_eq_true rfl) (kb_lt hB (by decide)) ((shB hB (by decide)).trans rfl) (by decide) (c_X6_lowestWith (r := r) (s := jf r p 3) (q := jf r p 4) hB hM.1 hT (by omega) (by omega) ?_)
    refine V_iconst (pc := 39) e_X4_stopReason_39 ?_
    refine V_icmp_ne (pc := 40) e_X4_stopReason_40 (by decide) (by omega) (by decide) (fun h40 => ?_) (fun h40 => ?_)
    · refine V_aload_n (pc := 45) e_X4_stopReason_45 rfl (Or.inl ⟨_, rfl⟩) ?_
      refine Vk_get (pc := 46) (i := 0) (q := 5) hB rfl (by decide) rfl fx_4_62 e_X4_stopReason_46 rfl rfl ?_
      refine V_aload_n (pc := 49) e_X4_stopReason_49 rfl (Or.inl ⟨_, rfl⟩) ?_
      refine Vk_getR (pc := 50) (i := 0) (q := 3) hB rfl (by decide) rfl fx_4_32 e_X4_stopReason_50 rfl rfl (by decide) rfl ?_
      refine V_iconst (pc := 53) e_X4_stopReason_53 ?_
      refine Vk_ld (pc := 54) (n := 6) hB rfl (by decide) rfl (by decide) e_X4_stopReason_54 (by decide) ?_
      refine V_icmp_lt (pc := 55) e_X4_stopReason_55 (by decide) (by omega) (by omega) (fun h55 => ?_) (fun h55 => ?_)
      · refine V_iconst (pc := 62) e_X4_stopReason_62 ?_
        refine V_ret (pc := 63) (v := some (zI _)) ⟨e_X4_stopReason_63, _, rfl, rfl⟩ ?_
        exact Qv k (by unfold wst; rw [if_neg (by omega)]; (repeat' split) <;> omega) rfl
      · refine V_iconst (pc := 58) e_X4_stopReason_58 ?_
        refine V_goto (pc := 59) e_X4_stopReason_59 (by decide) ?_
        refine V_ret (pc := 63) (v := some (zI _)) ⟨e_X4_stopReason_63, _, rfl, rfl⟩ ?_
        exact Qv k (by unfold wst; rw [if_neg (by omega)]; (repeat' split) <;> omega) rfl
    · refine V_iconst (pc := 43) e_X4_stopReason_43 ?_
      refine V_ret (pc := 44) (v := some (zI _)) ⟨e_X4_stopReason_44, _, rfl, rfl⟩ ?_
      exact Qv k (by unfold wst; rw [if_neg (by omega)]; (repeat' split) <;> omega) rfl
theorem c_X4_removeIfFinished {σ : Sto} {b : Nat} {c : Nat → Int → Int} {π : Int → Nat} {r : Int → Int} {Q : Option Value → Sto → Prop} (hB : MB b) (hM : MR c π r) (h0 : 0 ≤ r 0 ∧ r 0 ≤ 10) (h9 : 0 ≤ r 9 ∧ r 9 ≤ 16) {p : Int} (hp : 0 ≤ p ∧ p < r 0) (hJ : JB r p) (g7 : -3000000 ≤ r 7 ∧ r 7 ≤ 3000000) (h8 : jf r p 8 ≤ als r p) (hs9 : jf r p 9 ≤ jf r p 2) (k : ∀ (c' : Nat → Int → Int) (π' : Int → Nat), MR c' π' (leavF r p) → Q none (kst b σ c' π')) : Con M_X4_removeIfFinished 144 144 (kst b σ c π) [.ref b, .ref (b + π p)] Q := by
  refine V_entry ok_X4_removeIfFinished (Nat.le_refl _) (Nat.le_of_ble_eq_true rfl) (V_ls [(0, .ref b), (1, .ref (b + π p))] ⟨rfl, rfl, trivial⟩ ?_)
  obtain ⟨k1, k2, k3, k4, k5⟩ := hM.2.2.2.1
  obtain ⟨q1, q2, q3, qp, qj⟩ := hM.2.2.2.2
  have pp := qp.1 p (by omega) (by omega)
  have hj := qj p hp.1 hp.2
  have jj := hJ
  unfold JB at jj
  have jr := hj
  unfold JR at jr
  refine V_aload_n (pc := 0) e_X4_removeIfFinished_0 rfl (Or.inl ⟨_, rfl⟩) ?_
  refine V_cV0 (pc := 1) ca_4_162 e_X4_removeIfFinished_1 (by decide) (Nat.le_of_ble_eq_true rfl) (kb_lt hB (by omega)) ((shB hB (by omega)).trans (shM_j (by omega) (by omega))) (by decide) (c_X1_isFinished hB (by omega) hj hJ h8 hs9 (fun h_fi => ?_) (fun h_fi => ?_))
  · refine V_if_eq (pc := 4) e_X4_removeIfFinished_4 (by decide) (by decide) (fun h => absurd h (by decide)) (fun _ => ?_)
    refine V_aload_n (pc := 7) e_X4_removeIfFinished_7 rfl (Or.inl ⟨_, rfl⟩) ?_
    refine Vk_getR (pc := 8) (i := 0) (q := 2) hB rfl (by decide) rfl fx_4_28 e_X4_removeIfFinished_8 rfl rfl (by decide) rfl ?_
    refine V_iconst (pc := 11) e_X4_removeIfFinished_11 ?_
    refine V_iconst (pc := 12) e_X4_removeIfFinished_12 ?_
    refine V_cV2 (pc := 13) ca_4_79 e_X4_removeIfFinished_13 (by decide) (Nat.le_of_ble_eq_true rfl) (kb_lt hB (by decide)) ((shB hB (by decide)).trans rfl) (by decide) (c_X3_add hB (by decide) ?_)
    refine V_aload_n (pc := 16) e_X4_removeIfFinished_16 rfl (Or.inl ⟨_, rfl⟩) ?_
    refine Vk_getR (pc := 17) (i := 0) (q := 1) hB rfl (by decide) rfl fx_4_21 e_X4_removeIfFinished_17 rfl rfl (by decide) rfl ?_
    refine V_aload_n (pc := 20) e_X4_removeIfFinished_20 rfl (Or.inl ⟨_, rfl⟩) ?_
    refine V_cV1 (pc := 21) ca_4_165 e_X4_removeIfFinished_21 (by decide) (Nat.le_of_ble_eq_true rfl) (kb_lt hB (by decide)) ((shB hB (by decide)).trans rfl) (by decide) (c_X5_remove (s := r 0) (p := p) hB (by rw [up2_o (by omega)]; exact q1) h0 qp hp (by rw [up2_o (by omega)]; omega) (by rw [up2_o (by omega)]; omega) ?_)
    refine V_ret (pc := 24) (v := none) ⟨e_X4_removeIfFinished_24, rfl⟩ ?_
    have a21 := hM.2.1.1 5 (by decide) (by decide)
    have m1 : MR (up2 c 18 5 (c 18 5 + 1)) π (inc r 21) := by
      have y := MR_acc (x := c 18 5 + 1) h0.2 h9.2 hM (w := 5) (by decide)
      rw [a21] at y ⊢
      exact y
    have i0 : inc r 21 0 = r 0 := up1_ne (by decide)
    have i9 : inc r 21 9 = r 9 := up1_ne (by decide)
    have i7 : inc r 21 7 = r 7 := up1_ne (by decide)
    have e53 : up2 c 18 5 (c 18 5 + 1) 5 3 = c 5 3 := up2_o (by omega)
    have ep0 : up2 c 18 5 (c 18 5 + 1) (π p) 0 = c (π p) 0 := up2_o (by omega)
    refine k _ _ ?_
    unfold leavF
    rw [if_pos h_fi, ← leav_c hp.1]
    by_cases y : c 5 3 = c (π p) 0
    · rw [if_pos (by omega)]
      have m2 := MR_lat (x := -4) (y := -1) (by omega) (by omega) m1 (by omega)
      have s1 : stayF (inc r 21) (jf r p 0) = up1 (inc r 21) 7 (-4) := by unfold stayF; rw [if_pos (by omega)]
      rw [← s1] at m2
      have i00 : stayF (inc r 21) (jf r p 0) 0 = r 0 := by unfold stayF; rw [up1_ne (by decide)]; exact i0
      have i99 : stayF (inc r 21) (jf r p 0) 9 = r 9 := by unfold stayF; rw [up1_ne (by decide)]; exact i9
      have m3 := MR_goes (p := p) (by omega) (by omega) m2 (by omega)
      rw [i00] at m3
      rw [up2_c (by omega)]
      exact m3
    · rw [if_neg (by omega)]
      have s1 : stayF (inc r 21) (jf r p 0) = inc r 21 := stayF_n (by omega)
      rw [s1]
      have m3 := MR_goes (p := p) (by omega) (by omega) m1 (by omega)
      rw [i0] at m3
      exact m3
  · refine V_if_eq (pc := 4) e_X4_removeIfFinished_4 (by decide) (by decide) (fun _ => ?_) (fun h => absurd (by decide) h)
    refine V_ret (pc := 24) (v := none) ⟨e_X4_removeIfFinished_24, rfl⟩ ?_
    exact k _ _ (by unfold leavF; rw [if_neg h_fi]; exact hM)
