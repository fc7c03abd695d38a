/-! the class: ticks gone by, foretold; what lacks -/
theorem bgF_c {r : Int → Int} (h : cOK 501 r) : bgF r = begF 501 r := by
  by_cases a : r 5 = 0
  · rw [bgF_0 a]
    exact begF_stab 501 600 r h (by decide)
  · rw [bgF_1 a, begF_w a]
noncomputable def crO : Nat → (Int → Int) → Int → Prop
  | 0, r, m => RI r ∧ m = 0
  | n + 1, r, m => RI r ∧ (0 ≤ m ∧ m ≤ 20000) ∧ (0 < m → cOK 501 r ∧ (bgF r).2 24 ≤ 1900000 ∧ crO n (stpF r m) (m - stpT r m))
theorem crO.ri {n : Nat} {r : Int → Int} {m : Int} (h : crO n r m) : RI r ∧ 0 ≤ m ∧ m ≤ 20000 := by
  cases n with
  | zero => exact ⟨h.1, by have := h.2; omega⟩
  | succ n => exact ⟨h.1, h.2.1⟩
theorem runF_e {n : Nat} {r : Int → Int} {m : Int} (h : ¬ 0 < m) : runF n r m = r := by
  cases n with
  | zero => rfl
  | succ n =>
    unfold runF
    rw [if_neg h]
theorem runF_s {n : Nat} {r : Int → Int} {m : Int} (h : 0 < m) : runF (n + 1) r m = runF n (stpF r m) (m - stpT r m) := by
  show (if _ then _ else _) = _
  rw [if_pos h]
theorem gbF_w {r : Int → Int} {w m : Int} (h : 0 < w) : gbF r w m = adn (adn r (16 + 7) m) (16 + 8) m ∧ gbT r w m = m := by
  have t : gbT r w m = m := by unfold gbT; rw [if_pos (Or.inl h)]
  refine ⟨?_, t⟩
  unfold gbF
  rw [if_pos h, t]
  funext q
  unfold adn up1
  (repeat' split) <;> first | rfl | (exfalso; omega)
theorem L_X4_letGoBy {σ : Sto} {b : Nat} {T : Int} {Q : Option Value → Sto → Prop} (hB : MB b) (hT : 0 ≤ T ∧ T ≤ 20000) : ∀ (n : Nat) (w m : Int) (c : Nat → Int → Int) (π : Int → Nat) (r : Int → Int), MR c π r → crO n r m → (0 ≤ w ∧ w + m ≤ T) → (∀ (c' : Nat → Int → Int) (π' : Int → Nat), MR c' π' (runF n r m) → Q none (kst b σ c' π')) → V M_X4_letGoBy 144 4 [(0, .ref b), (1, zI T), (2, zI m), (3, zI w)] [] 144 (kst b σ c π) Q := by
  intro n
  induction n with
  | zero =>
    intro w m c π r hM hO hw k
    have hb := hO.ri
    have hI := hb.1
    refine V_iload_n (pc := 4) e_X4_letGoBy_4 rfl ?_
    refine V_iload_n (pc := 5) e_X4_letGoBy_5 rfl ?_
    refine V_icmp_ge (pc := 6) e_X4_letGoBy_6 (by decide) (by omega) (by omega) (fun h6 => ?_) (fun h6 => ?_)
    · refine V_ret (pc := 59) (v := none) ⟨e_X4_letGoBy_59, rfl⟩ ?_
      exact k _ _ hM
    · refine V_iload_n (pc := 9) e_X4_letGoBy_9 rfl ?_
      refine V_if_le (pc := 10) e_X4_letGoBy_10 (by decide) (by omega) (fun h10 => ?_) (fun h10 => ?_)
      · refine V_ret (pc := 59) (v := none) ⟨e_X4_letGoBy_59, rfl⟩ ?_
        exact k _ _ hM
      · exact absurd hO.2 (by omega)
  | succ n ih =>
    intro w m c π r hM hO hw k
    have hb := hO.ri
    have hI := hb.1
    refine V_iload_n (pc := 4) e_X4_letGoBy_4 rfl ?_
    refine V_iload_n (pc := 5) e_X4_letGoBy_5 rfl ?_
    refine V_icmp_ge (pc := 6) e_X4_letGoBy_6 (by decide) (by omega) (by omega) (fun h6 => ?_) (fun h6 => ?_)
    · refine V_ret (pc := 59) (v := none) ⟨e_X4_letGoBy_59, rfl⟩ ?_
      exact k _ _ (by rw [runF_e (by omega)]; exact hM)
    · refine V_iload_n (pc := 9) e_X4_letGoBy_9 rfl ?_
      refine V_if_le (pc := 10) e_X4_letGoBy_10 (by decide) (by omega) (fun h10 => ?_) (fun h10 => ?_)
      · refine V_ret (pc := 59) (v := none) ⟨e_X4_letGoBy_59, rfl⟩ ?_
        exact k _ _ (by rw [runF_e (by omega)]; exact hM)
      · have hS := hO.2.2 (by omega)
        have bc := bgF_c hS.1
        have bp := begF_post 501 r hS.1
        rw [← bc] at bp
        rw [runF_s (by omega)] at k
        refine V_aload_n (pc := 13) e_X4_letGoBy_13 rfl (Or.inl ⟨_, rfl⟩) ?_
        refine V_cV0 (pc := 14) ca_4_71 e_X4_letGoBy_14 (by decide) (Nat.le_of_ble_eq_true rfl) (kb_lt (i := 0) hB (by decide)) ((shB (i := 0) hB (by decide)).trans rfl) (by decide) (c_X4_findWork (r := r) hB hM hS.1 (fun c1 π1 y => ?_))
        rw [← bc] at y ⊢
        refine V_if_ne (pc := 17) e_X4_letGoBy_17 (by decide) (by omega) (fun h17 => ?_) (fun h17 => ?_)
        · have tp : 1 ≤ stpT r m := by
            have := (gbF_w (r := (bgF r).2) (w := (bgF r).1) (m := m) (by omega)).2
            unfold stpT
            omega
          refine V_aload_n (pc := 31) e_X4_letGoBy_31 rfl (Or.inl ⟨_, rfl⟩) ?_
          refine Vk_getR (pc := 32) (i := 0) (q := 2) hB rfl (by decide) rfl fx_4_28 e_X4_letGoBy_32 rfl rfl (by decide) rfl ?_
          refine V_bipush (pc := 35) (by decide) e_X4_letGoBy_35 ?_
          refine V_iload_n (pc := 37) e_X4_letGoBy_37 rfl ?_
          refine V_cV2 (pc := 38) ca_4_79 e_X4_letGoBy_38 (by decide) (Nat.le_of_ble_eq_true rfl) (kb_lt hB (by decide)) ((shB hB (by decide)).trans rfl) (by decide) (c_X3_add hB (by decide) ?_)
          refine V_aload_n (pc := 41) e_X4_letGoBy_41 rfl (Or.inl ⟨_, rfl⟩) ?_
          refine Vk_getR (pc := 42) (i := 0) (q := 2) hB rfl (by decide) rfl fx_4_28 e_X4_letGoBy_42 rfl rfl (by decide) rfl ?_
          refine V_bipush (pc := 45) (by decide) e_X4_letGoBy_45 ?_
          refine V_iload_n (pc := 47) e_X4_letGoBy_47 rfl ?_
          refine V_cV2 (pc := 48) ca_4_79 e_X4_letGoBy_48 (by decide) (Nat.le_of_ble_eq_true rfl) (kb_lt hB (by decide)) ((shB hB (by decide)).trans rfl) (by decide) (c_X3_add hB (by decide) ?_)
          refine V_iconst (pc := 51) e_X4_letGoBy_51 ?_
          refine V_istore_n (pc := 52) e_X4_letGoBy_52 (by decide) ?_
          refine V_iinc (pc := 53) e_X4_letGoBy_53 rfl (by decide) ?_
          refine V_goto (pc := 56) e_X4_letGoBy_56 (by decide) ?_
          obtain ⟨g1, g2⟩ := gbF_w (r := (bgF r).2) (w := (bgF r).1) (m := m) (by omega)
          have y2 := MX_acc (MX_acc (bp.1.mx y) 7 m (by decide)) 8 m (by decide)
          rw [← g1] at y2
          have e2 : m - stpT r m = 0 := by unfold stpT; omega
          exact V_lq [(0, .ref b), (1, zI T), (2, zI (m - stpT r m)), (3, zI (w + 1))] ⟨⟨_, rfl, rfl⟩, ⟨_, rfl, rfl⟩, ⟨_, rfl, congrArg (fun e : Int => zI e) e2.symm⟩, ⟨_, rfl, rfl⟩, trivial⟩ (ih (w + 1) _ _ _ _ y2.1 hS.2.2 (by omega) k)
        · have w5 := bp.2.2 (by omega)
          have wi := bp.1.2.2.2.2.2.2
          unfold WI at wi
          have tp : 1 ≤ gbT (bgF r).2 0 m := by unfold gbT; split <;> omega
          refine V_iload_n (pc := 20) e_X4_letGoBy_20 rfl ?_
          refine V_aload_n (pc := 21) e_X4_letGoBy_21 rfl (Or.inl ⟨_, rfl⟩) ?_
          refine V_iload_n (pc := 22) e_X4_letGoBy_22 rfl ?_
          refine V_cV1 (pc := 23) ca_4_75 e_X4_letGoBy_23 (by decide) (Nat.le_of_ble_eq_true rfl) (kb_lt (i := 0) hB (by decide)) ((shB (i := 0) hB (by decide)).trans rfl) (by decide) (c_X4_goOnWorking (r := (bgF r).2) hB y bp.1 hS.2.1 w5 (by omega) (fun c2 π2 y2 => ?_))
          refine V_isub (pc := 26) e_X4_letGoBy_26 ?_
          refine V_istore_n (pc := 27) e_X4_letGoBy_27 (by decide) ?_
          refine V_goto (pc := 28) e_X4_letGoBy_28 (by decide) ?_
          refine V_iinc (pc := 53) e_X4_letGoBy_53 rfl (by decide) ?_
          refine V_goto (pc := 56) e_X4_letGoBy_56 (by decide) ?_
          have e1 : stpT r m = gbT (bgF r).2 0 m := by unfold stpT; rw [show (bgF r).1 = 0 by omega]
          have e2 : stpF r m = gbF (bgF r).2 0 m := by unfold stpF; rw [show (bgF r).1 = 0 by omega]
          rw [← e1]
          rw [← e2] at y2
          have tp2 : 1 ≤ stpT r m := by omega
          exact V_lq [(0, .ref b), (1, zI T), (2, zI (m - stpT r m)), (3, zI (w + 1))] ⟨⟨_, rfl, rfl⟩, ⟨_, rfl, rfl⟩, ⟨_, rfl, rfl⟩, ⟨_, rfl, rfl⟩, trivial⟩ (ih (w + 1) _ _ _ _ y2 hS.2.2 (by omega) k)
theorem c_X4_letGoBy {σ : Sto} {b : Nat} {c : Nat → Int → Int} {π : Int → Nat} {r : Int → Int} {Q : Option Value → Sto → Prop} (hB : MB b) {m : Int} {n : Nat} (hM : MR c π r) (hO : crO n r m) (k : ∀ (c' : Nat → Int → Int) (π' : Int → Nat), MR c' π' (runF n r m) → Q none (kst b σ c' π')) : Con M_X4_letGoBy 144 144 (kst b σ c π) [.ref b, zI m] Q := by
  refine V_entry ok_X4_letGoBy (Nat.le_refl _) (Nat.le_of_ble_eq_true rfl) (V_ls [(0, .ref b), (1, zI m)] ⟨rfl, rfl, trivial⟩ ?_)
  have hb := hO.ri
  refine V_iload_n (pc := 0) e_X4_letGoBy_0 rfl ?_
  refine V_istore_n (pc := 1) e_X4_letGoBy_1 (by decide) ?_
  refine V_iconst (pc := 2) e_X4_letGoBy_2 ?_
  refine V_istore_n (pc := 3) e_X4_letGoBy_3 (by decide) ?_
  exact V_lq [(0, .ref b), (1, zI m), (2, zI m), (3, zI 0)] ⟨⟨_, rfl, rfl⟩, ⟨_, rfl, rfl⟩, ⟨_, rfl, rfl⟩, ⟨_, rfl, rfl⟩, trivial⟩ (L_X4_letGoBy hB hb.2 n 0 m c π r hM hO (by omega) k)
noncomputable def ansF (n : Nat) (r : Int → Int) (j t : Int) : Int := if plc (ttF n r j t).2 j < 0 then (ttF n r j t).1 else -4
noncomputable def ctO : Nat → (Int → Int) → Int → Int → Prop
  | 0, r, _, t => RI r ∧ 20000 ≤ t ∧ t ≤ 20000
  | n + 1, r, j, t => RI r ∧ (0 ≤ t ∧ t ≤ 20000) ∧ (t < 20000 → cOK 501 r ∧ (bgF r).2 24 ≤ 1900000 ∧ (0 ≤ plc (bgF r).2 j → (bgF r).1 = 0 → RI (stpF r (20000 - t)) ∧ (0 ≤ plc (stpF r (20000 - t)) j → ctO n (stpF r (20000 - t)) j (t + stpT r (20000 - t)))))
theorem ctO.ri {n : Nat} {r : Int → Int} {j t : Int} (h : ctO n r j t) : RI r ∧ 0 ≤ t ∧ t ≤ 20000 := by
  cases n with
  | zero => exact ⟨h.1, by have := h.2; omega⟩
  | succ n => exact ⟨h.1, h.2.1⟩
theorem ttF_e {n : Nat} {r : Int → Int} {j t : Int} (h : ¬ (t < 20000 ∧ 0 ≤ plc r j)) : ttF n r j t = (t, r) := by
  cases n with
  | zero => rfl
  | succ n =>
    show (if _ then _ else _) = _
    rw [if_neg h]
theorem ans_1 {n : Nat} {r : Int → Int} {j t : Int} (h : t < 20000 ∧ 0 ≤ plc r j) (h2 : plc (bgF r).2 j < 0) : ansF (n + 1) r j t = t + 1 := by
  have e : ttF (n + 1) r j t = ttF n (bgF r).2 j (t + 1) := by
    show (if _ then _ else _) = _
    rw [if_pos h, if_pos h2]
  unfold ansF
  rw [e, ttF_e (by omega), if_pos h2]
theorem ans_2 {n : Nat} {r : Int → Int} {j t : Int} (h : t < 20000 ∧ 0 ≤ plc r j) (h2 : ¬ plc (bgF r).2 j < 0) : ansF (n + 1) r j t = ansF n (stpF r (20000 - t)) j (t + stpT r (20000 - t)) := by
  have e : ttF (n + 1) r j t = ttF n (stpF r (20000 - t)) j (t + stpT r (20000 - t)) := by
    show (if _ then _ else _) = _
    rw [if_pos h, if_neg h2]
  unfold ansF
  rw [e]
theorem ans_e {n : Nat} {r : Int → Int} {j t : Int} (h : ¬ (t < 20000 ∧ 0 ≤ plc r j)) : ansF n r j t = if plc r j < 0 then t else -4 := by
  unfold ansF
  rw [ttF_e h]
theorem L_X4_ticksUntilGone {σ : Sto} {b : Nat} {j : Int} {Q : Option Value → Sto → Prop} (hB : MB b) (r_j : -2147483648 ≤ j ∧ j < 2147483648) : ∀ (n : Nat) (w t : Int) (c : Nat → Int → Int) (π : Int → Nat) (r : Int → Int), MR c π r → ctO n r j t → (0 ≤ w ∧ w ≤ t) → 0 ≤ plc r j → (∀ (c' : Nat → Int → Int) (π' : Int → Nat), PI π' → Q (some (zI (ansF n r j t))) (kst b σ c' π')) → V M_X4_ticksUntilGone 144 4 [(0, .ref b), (1, zI j), (2, zI t), (3, zI w)] [] 144 (kst b σ c π) Q := by
  intro n
  induction n with
  | zero =>
    intro w t c π r hM hO hw hp k
    have hb := hO.ri
    have hI := hb.1
    have qp := hM.2.2.2.2.2.2.2.1
    refine V_iload_n (pc := 4) e_X4_ticksUntilGone_4 rfl ?_
    refine V_sipush (pc := 5) (by decide) e_X4_ticksUntilGone_5 ?_
    refine V_icmp_ge (pc := 8) e_X4_ticksUntilGone_8 (by decide) (by omega) (by decide) (fun h8 => ?_) (fun h8 => ?_)
    · refine V_bipush (pc := 78) (by decide) e_X4_ticksUntilGone_78 ?_
      refine V_ret (pc := 80) (v := some (zI _)) ⟨e_X4_ticksUntilGone_80, _, rfl, rfl⟩ ?_
      have e := ans_e (n := 0) (r := r) (j := j) (t := t) (by omega)
      rw [if_neg (by omega)] at e
      exact Qv (k _ _ qp) e rfl
    · refine V_iload_n (pc := 11) e_X4_ticksUntilGone_11 rfl ?_
      refine V_sipush (pc := 12) (by decide) e_X4_ticksUntilGone_12 ?_
      refine V_icmp_ge (pc := 15) e_X4_ticksUntilGone_15 (by decide) (by omega) (by decide) (fun h15 => ?_) (fun h15 => ?_)
      · refine V_bipush (pc := 78) (by decide) e_X4_ticksUntilGone_78 ?_
        refine V_ret (pc := 80) (v := some (zI _)) ⟨e_X4_ticksUntilGone_80, _, rfl, rfl⟩ ?_
        have e := ans_e (n := 0) (r := r) (j := j) (t := t) (by omega)
        rw [if_neg (by omega)] at e
        exact Qv (k _ _ qp) e rfl
      · exact absurd hO.2.1 (by omega)
  | succ n ih =>
    intro w t c π r hM hO hw hp k
    have hb := hO.ri
    have hI := hb.1
    have qp := hM.2.2.2.2.2.2.2.1
    refine V_iload_n (pc := 4) e_X4_ticksUntilGone_4 rfl ?_
    refine V_sipush (pc := 5) (by decide) e_X4_ticksUntilGone_5 ?_
    refine V_icmp_ge (pc := 8) e_X4_ticksUntilGone_8 (by decide) (by omega) (by decide) (fun h8 => ?_) (fun h8 => ?_)
    · refine V_bipush (pc := 78) (by decide) e_X4_ticksUntilGone_78 ?_
      refine V_ret (pc := 80) (v := some (zI _)) ⟨e_X4_ticksUntilGone_80, _, rfl, rfl⟩ ?_
      have e := ans_e (n := n + 1) (r := r) (j := j) (t := t) (by omega)
      rw [if_neg (by omega)] at e
      exact Qv (k _ _ qp) e rfl
    · refine V_iload_n (pc := 11) e_X4_ticksUntilGone_11 rfl ?_
      refine V_sipush (pc := 12) (by decide) e_X4_ticksUntilGone_12 ?_
      refine V_icmp_ge (pc := 15) e_X4_ticksUntilGone_15 (by decide) (by omega) (by decide) (fun h15 => ?_) (fun h15 => ?_)
      · refine V_bipush (pc := 78) (by decide) e_X4_ticksUntilGone_78 ?_
        refine V_ret (pc := 80) (v := some (zI _)) ⟨e_X4_ticksUntilGone_80, _, rfl, rfl⟩ ?_
        have e := ans_e (n := n + 1) (r := r) (j := j) (t := t) (by omega)
        rw [if_neg (by omega)] at e
        exact Qv (k _ _ qp) e rfl
      · have hS := hO.2.2 (by omega)
        have bc := bgF_c hS.1
        have bp := begF_post 501 r hS.1
        rw [← bc] at bp
        refine V_aload_n (pc := 18) e_X4_ticksUntilGone_18 rfl (Or.inl ⟨_, rfl⟩) ?_
        refine V_cV0 (pc := 19) ca_4_71 e_X4_ticksUntilGone_19 (by decide) (Nat.le_of_ble_eq_true rfl) (kb_lt (i := 0) hB (by decide)) ((shB (i := 0) hB (by decide)).trans rfl) (by decide) (c_X4_findWork (r := r) hB hM hS.1 (fun c1 π1 y => ?_))
        rw [← bc] at y ⊢
        have hR1 := bp.1.rr
        have hQ1 := y.2.2.2.2
        have q1 := hQ1.2.2.2.1
        refine V_istore (pc := 22) e_X4_ticksUntilGone_22 (by decide) ?_
        refine V_aload_n (pc := 24) e_X4_ticksUntilGone_24 rfl (Or.inl ⟨_, rfl⟩) ?_
        refine Vk_getR (pc := 25) (i := 0) (q := 1) hB rfl (by decide) rfl fx_4_21 e_X4_ticksUntilGone_25 rfl rfl (by decide) rfl ?_
        refine V_iload_n (pc := 28) e_X4_ticksUntilGone_28 rfl ?_
        refine V_cV1 (pc := 29) ca_4_83 e_X4_ticksUntilGone_29 (by decide) (Nat.le_of_ble_eq_true rfl) (kb_lt hB (by decide)) ((shB hB (by decide)).trans rfl) (by decide) (c_X5_find (r := (bgF r).2) (j := j) hB hQ1 hR1 (by omega) (fun h_fd => ?_) (fun h_fd => ?_))
        · refine V_ifnonnull (pc := 32) e_X4_ticksUntilGone_32 (by decide) trivial (fun _ => ?_) (fun h => by cases h)
          refine V_iload (pc := 39) e_X4_ticksUntilGone_39 rfl ?_
          refine V_if_eq (pc := 41) e_X4_ticksUntilGone_41 (by decide) (by omega) (fun h41 => ?_) (fun h41 => ?_)
          · have b0 : (bgF r).1 = 0 := by omega
            have w5 := bp.2.2 b0
            have wi := bp.1.2.2.2.2.2.2
            unfold WI at wi
            have tp : 1 ≤ gbT (bgF r).2 0 (20000 - t) ∧ gbT (bgF r).2 0 (20000 - t) ≤ 20000 - t := by unfold gbT; split <;> omega
            have e1 : stpT r (20000 - t) = gbT (bgF r).2 0 (20000 - t) := by unfold stpT; rw [b0]
            have e2 : stpF r (20000 - t) = gbF (bgF r).2 0 (20000 - t) := by unfold stpF; rw [b0]
            have hN := hS.2.2 h_fd b0
            have a2 := ans_2 (n := n) (r := r) (j := j) (t := t) ⟨by omega, hp⟩ (by omega)
            refine V_iload_n (pc := 47) e_X4_ticksUntilGone_47 rfl ?_
            refine V_aload_n (pc := 48) e_X4_ticksUntilGone_48 rfl (Or.inl ⟨_, rfl⟩) ?_
            refine V_sipush (pc := 49) (by decide) e_X4_ticksUntilGone_49 ?_
            refine V_iload_n (pc := 52) e_X4_ticksUntilGone_52 rfl ?_
            refine V_isub (pc := 53) e_X4_ticksUntilGone_53 ?_
            refine V_cV1 (pc := 54) ca_4_75 e_X4_ticksUntilGone_54 (by decide) (Nat.le_of_ble_eq_true rfl) (kb_lt (i := 0) hB (by decide)) ((shB (i := 0) hB (by decide)).trans rfl) (by decide) (c_X4_goOnWorking (r := (bgF r).2) hB y bp.1 hS.2.1 w5 (by omega) (fun c2 π2 y2 => ?_))
            rw [← e1]
            rw [← e2] at y2
            have hR2 := hN.1.rr
            have hQ2 := y2.2.2.2.2
            refine V_iadd (pc := 57) e_X4_ticksUntilGone_57 ?_
            refine V_istore_n (pc := 58) e_X4_ticksUntilGone_58 (by decide) ?_
            refine V_aload_n (pc := 59) e_X4_ticksUntilGone_59 rfl (Or.inl ⟨_, rfl⟩) ?_
            refine Vk_getR (pc := 60) (i := 0) (q := 1) hB rfl (by decide) rfl fx_4_21 e_X4_ticksUntilGone_60 rfl rfl (by decide) rfl ?_
            refine V_iload_n (pc := 63) e_X4_ticksUntilGone_63 rfl ?_
            refine V_cV1 (pc := 64) ca_4_83 e_X4_ticksUntilGone_64 (by decide) (Nat.le_of_ble_eq_true rfl) (kb_lt hB (by decide)) ((shB hB (by decide)).trans rfl) (by decide) (c_X5_find (r := stpF r (20000 - t)) (j := j) hB hQ2 hR2 (by omega) (fun h_f2 => ?_) (fun h_f2 => ?_))
            · refine V_ifnonnull (pc := 67) e_X4_ticksUntilGone_67 (by decide) trivial (fun _ => ?_) (fun h => by cases h)
              refine V_iinc (pc := 72) e_X4_ticksUntilGone_72 rfl (by decide) ?_
              refine V_goto (pc := 75) e_X4_ticksUntilGone_75 (by decide) ?_
              rw [a2] at k
              exact V_lq [(0, .ref b), (1, zI j), (2, zI (t + stpT r (20000 - t))), (3, zI (w + 1))] ⟨⟨_, rfl, rfl⟩, ⟨_, rfl, rfl⟩, ⟨_, rfl, rfl⟩, ⟨_, rfl, rfl⟩, trivial⟩ (ih (w + 1) _ _ _ _ y2 (hN.2 h_f2) (by omega) h_f2 k)
            · refine V_ifnonnull (pc := 67) e_X4_ticksUntilGone_67 (by decide) trivial (fun h => absurd rfl h) (fun _ => ?_)
              refine V_iload_n (pc := 70) e_X4_ticksUntilGone_70 rfl ?_
              refine V_ret (pc := 71) (v := some (zI _)) ⟨e_X4_ticksUntilGone_71, _, rfl, rfl⟩ ?_
              have e := ans_e (n := n) (r := stpF r (20000 - t)) (j := j) (t := t + stpT r (20000 - t)) (by omega)
              rw [if_pos h_f2] at e
              exact Qv (k _ _ hQ2.2.2.2.1) (a2.trans e) rfl
          · refine V_bipush (pc := 44) (by decide) e_X4_ticksUntilGone_44 ?_
            refine V_ret (pc := 46) (v := some (zI _)) ⟨e_X4_ticksUntilGone_46, _, rfl, rfl⟩ ?_
            have a2 := ans_2 (n := n) (r := r) (j := j) (t := t) ⟨by omega, hp⟩ (by omega)
            obtain ⟨g1, g2⟩ := gbF_w (r := (bgF r).2) (w := (bgF r).1) (m := 20000 - t) (by omega)
            have pe : plc (stpF r (20000 - t)) j = plc (bgF r).2 j := by
              unfold stpF
              rw [g1]
              exact plc_ext (by unfold adn; rw [up1_ne (by decide), up1_ne (by decide)]) (fun p a d => by unfold adn jf; rw [up1_ne (by omega), up1_ne (by omega)]) j
            have e := ans_e (n := n) (r := stpF r (20000 - t)) (j := j) (t := t + stpT r (20000 - t)) (by unfold stpT; omega)
            rw [if_neg (by omega)] at e
            exact Qv (k _ _ q1) (a2.trans e) rfl
        · refine V_ifnonnull (pc := 32) e_X4_ticksUntilGone_32 (by decide) trivial (fun h => absurd rfl h) (fun _ => ?_)
          refine V_iload_n (pc := 35) e_X4_ticksUntilGone_35 rfl ?_
          refine V_iconst (pc := 36) e_X4_ticksUntilGone_36 ?_
          refine V_iadd (pc := 37) e_X4_ticksUntilGone_37 ?_
          refine V_ret (pc := 38) (v := some (zI _)) ⟨e_X4_ticksUntilGone_38, _, rfl, rfl⟩ ?_
          exact Qv (k _ _ q1) (ans_1 ⟨by omega, hp⟩ h_fd) rfl
theorem c_X4_ticksUntilGone {σ : Sto} {b : Nat} {c : Nat → Int → Int} {π : Int → Nat} {r : Int → Int} {Q : Option Value → Sto → Prop} (hB : MB b) {j : Int} {n : Nat} (hM : MR c π r) (hO : ctO n r j 0) (hp : 0 ≤ plc r j) (r_j : -2147483648 ≤ j ∧ j < 2147483648) (k : ∀ (c' : Nat → Int → Int) (π' : Int → Nat), PI π' → Q (some (zI (ansF n r j 0))) (kst b σ c' π')) : Con M_X4_ticksUntilGone 144 144 (kst b σ c π) [.ref b, zI j] Q := by
  refine V_entry ok_X4_ticksUntilGone (Nat.le_refl _) (Nat.le_of_ble_eq_true rfl) (V_ls [(0, .ref b), (1, zI j)] ⟨rfl, rfl, trivial⟩ ?_)
  refine V_iconst (pc := 0) e_X4_ticksUntilGone_0 ?_
  refine V_istore_n (pc := 1) e_X4_ticksUntilGone_1 (by decide) ?_
  refine V_iconst (pc := 2) e_X4_ticksUntilGone_2 ?_
  refine V_istore_n (pc := 3) e_X4_ticksUntilGone_3 (by decide) ?_
  exact V_lq [(0, .ref b), (1, zI j), (2, zI 0), (3, zI 0)] ⟨⟨_, rfl, rfl⟩, ⟨_, rfl, rfl⟩, ⟨_, rfl, rfl⟩, ⟨_, rfl, rfl⟩, trivial⟩ (L_X4_ticksUntilGone hB r_j n 0 0 c π r hM hO (by omega) hp k)
theorem lk_sp {r : Int → Int} (hI : RI r) (s q : Int) : ∀ n : Nat, (n : Int) ≤ r 0 → lkN r s q n = spN r s q n - shA r s q 4 - (if r 5 = 1 ∧ plc r (r 6) < (n : Int) ∧ jf r (plc r (r 6)) 3 = s ∧ jf r (plc r (r 6)) 4 = q then 1 else 0) := by
  obtain ⟨ni, rb, rt, pa, hS, hj, wi⟩ := id hI
  unfold NI at ni
  unfold WI at wi
  intro n
  induction n with
  | zero =>
    intro _
    unfold lkN spN
    split <;> omega
  | succ n ih =>
    intro hn
    have i := ih (by omega)
    unfold lkN spN
    rw [i]
    by_cases w1 : r 5 = 1
    · have ps : 0 ≤ plc r (r 6) ∧ plc r (r 6) < r 0 ∧ jf r (plc r (r 6)) 0 = r 6 := by
        rcases plc_sp r (r 6) with y | y
        · omega
        · exact ⟨y.1, y.2.1, y.2.2.1⟩
      have u : (r 6 = jf r (n : Int) 0) ↔ (n : Int) = plc r (r 6) := by
        constructor
        · intro z
          rcases Int.lt_trichotomy (n : Int) (plc r (r 6)) with y | y | y
          · have := hS _ _ (show 0 ≤ (n : Int) by omega) y ps.2.1
            omega
          · exact y
          · have := hS _ _ ps.1 y (by omega)
            omega
        · intro z
          rw [z]
          exact ps.2.2.symm
      by_cases z : (n : Int) = plc r (r 6)
      · have u2 := u.mpr z
        rw [← z]
        (repeat' split) <;> omega
      · have u2 : ¬ r 6 = jf r (n : Int) 0 := fun y => z (u.mp y)
        (repeat' split) <;> omega
    · (repeat' split) <;> omega
theorem spN_rg {r : Int → Int} (hI : RI r) (s q : Int) : ∀ n : Nat, (n : Int) ≤ r 0 → 0 ≤ spN r s q n ∧ spN r s q n ≤ 10000 * (n : Int)
  | 0, _ => by unfold spN; omega
  | n + 1, h => by
    have i := spN_rg hI s q n (by omega)
    have j := hI.2.2.2.2.2.1 (n : Int) (by omega) (by omega)
    have a := als_rg j.1
    have jj := j.1
    unfold JB at jj
    have j8 := j.2.2.1
    unfold spN
    split <;> omega
theorem c_X4_lackingSheets {σ : Sto} {b : Nat} {c : Nat → Int → Int} {π : Int → Nat} {r : Int → Int} {Q : Option Value → Sto → Prop} (hB : MB b) {s q : Int} (hM : MR c π r) (hI : RI r) (r_s : -2147483648 ≤ s ∧ s < 2147483648) (r_q : -2147483648 ≤ q ∧ q < 2147483648) (k : Q (some (zI (if lkN r s q (r 0).toNat < 0 then 0 else lkN r s q (r 0).toNat))) (kst b σ c π)) : Con M_X4_lackingSheets 144 144 (kst b σ c π) [.ref b, zI s, zI q] Q := by
  refine V_entry ok_X4_lackingSheets (Nat.le_refl _) (Nat.le_of_ble_eq_true rfl) (V_ls [(0, .ref b), (1, zI s), (2, zI q)] ⟨rfl, rfl, rfl, trivial⟩ ?_)
  obtain ⟨k1, k2, k3, k4, k5⟩ := hM.2.2.2.1
  have hQ := hM.2.2.2.2
  have hR := hI.rr
  have hT := hM.1
  have hRB := hI.2.1
  have ni := hI.1
  unfold NI at ni
  have wi := hI.2.2.2.2.2.2
  unfold WI at wi
  have sr := spN_rg hI s q (r 0).toNat (by omega)
  have ar := shA_rg hI.2.1 s q 4 (by omega)
  have ls := lk_sp hI s q (r 0).toNat (by omega)
  have g6 := hI.2.1 6 (by decide) (by decide) (by decide)
  have g5 := hI.2.1 5 (by decide) (by decide) (by decide)
  have ps := plc_sp r (r 6)
  refine V_aload_n (pc := 0) e_X4_lackingSheets_0 rfl (Or.inl ⟨_, rfl⟩) ?_
  refine Vk_getR (pc := 1) (i := 0) (q := 1) hB rfl (by decide) rfl fx_4_21 e_X4_lackingSheets_1 rfl rfl (by decide) rfl ?_
  refine V_iload_n (pc := 4) e_X4_lackingSheets_4 rfl ?_
  refine V_iload_n (pc := 5) e_X4_lackingSheets_5 rfl ?_
  refine V_cV2 (pc := 6) ca_4_172 e_X4_lackingSheets_6 (by decide) (Nat.le_of_ble_eq_true rfl) (kb_lt hB (by decide)) ((shB hB (by decide)).trans rfl) (by decide) (c_X5_sheetsToPrint hB hQ hR (by omega) (by omega) ?_)
  refine V_aload_n (pc := 9) e_X4_lackingSheets_9 rfl (Or.inl ⟨_, rfl⟩) ?_
  refine Vk_getR (pc := 10) (i := 0) (q := 0) hB rfl (by decide) rfl fx_4_12 e_X4_lackingSheets_10 rfl rfl (by decide) rfl ?_
  refine V_iload_n (pc := 13) e_X4_lackingSheets_13 rfl ?_
  refine V_iload_n (pc := 14) e_X4_lackingSheets_14 rfl ?_
  refine V_cV2 (pc := 15) ca_4_175 e_X4_lackingSheets_15 (by decide) (Nat.le_of_ble_eq_true rfl) (kb_lt hB (by decide)) ((shB hB (by decide)).trans rfl) (by decide) (c_X6_sheetsOf hB hT hRB (by omega) (by omega) ?_)
  refine V_isub (pc := 18) e_X4_lackingSheets_18 ?_
  refine V_istore_n (pc := 19) e_X4_lackingSheets_19 (by decide) ?_
  refine V_aload_n (pc := 20) e_X4_lackingSheets_20 rfl (Or.inl ⟨_, rfl⟩) ?_
  refine Vk_get (pc := 21) (i := 0) (q := 6) hB rfl (by decide) rfl fx_4_40 e_X4_lackingSheets_21 rfl rfl ?_
  refine V_iconst (pc := 24) e_X4_lackingSheets_24 ?_
  refine V_icmp_ne (pc := 25) e_X4_lackingSheets_25 (by decide) (by omega) (by decide) (fun h25 => ?_) (fun h25 => ?_)
  · refine V_iconst (pc := 59) e_X4_lackingSheets_59 ?_
    refine V_iload_n (pc := 60) e_X4_lackingSheets_60 rfl ?_
    refine V_max (pc := 61) rfl (by decide) (Nat.le_of_ble_eq_true rfl) e_X4_lackingSheets_61 (by omega) (by omega) ?_
    refine V_ret (pc := 64) (v := some (zI _)) ⟨e_X4_lackingSheets_64, _, rfl, rfl⟩ ?_
    exact Qv k (by (repeat' split) <;> (first | omega | (rw [if_pos (by omega)] at ls; omega) | (rw [if_neg (by omega)] at ls; omega))) rfl
  · refine V_aload_n (pc := 28) e_X4_lackingSheets_28 rfl (Or.inl ⟨_, rfl⟩) ?_
    refine Vk_getR (pc := 29) (i := 0) (q := 1) hB rfl (by decide) rfl fx_4_21 e_X4_lackingSheets_29 rfl rfl (by decide) rfl ?_
    refine V_aload_n (pc := 32) e_X4_lackingSheets_32 rfl (Or.inl ⟨_, rfl⟩) ?_
    refine Vk_get (pc := 33) (i := 0) (q := 7) hB rfl (by decide) rfl fx_4_65 e_X4_lackingSheets_33 rfl rfl ?_
    have k7 := k4 (by omega)
    rw [k7]
    refine V_cV1 (pc := 36) ca_4_83 e_X4_lackingSheets_36 (by decide) (Nat.le_of_ble_eq_true rfl) (kb_lt hB (by decide)) ((shB hB (by decide)).trans rfl) (by decide) (c_X5_find hB hQ hR (by omega) (fun h_fd => ?_) (fun h_fd => ?_))
    · refine V_astore (pc := 39) e_X4_lackingSheets_39 (Or.inl ⟨_, rfl⟩) (by decide) ?_
      refine V_aload (pc := 41) e_X4_lackingSheets_41 rfl (Or.inl ⟨_, rfl⟩) ?_
      refine V_ifnull (pc := 43) e_X4_lackingSheets_43 (by decide) trivial (fun h => by cases h) (fun _ => ?_)
      have pl : plc r (r 6) < r 0 := by omega
      have pp := hQ.2.2.2.1.1 (plc r (r 6)) h_fd (by omega)
      have jr := hQ.2.2.2.2 (plc r (r 6)) h_fd pl
      unfold JR at jr
      have jb := (hI.2.2.2.2.2.1 (plc r (r 6)) h_fd pl).1
      unfold JB at jb
      refine V_aload (pc := 46) e_X4_lackingSheets_46 rfl (Or.inl ⟨_, rfl⟩) ?_
      refine V_iload_n (pc := 48) e_X4_lackingSheets_48 rfl ?_
      refine V_iload_n (pc := 49) e_X4_lackingSheets_49 rfl ?_
      refine V_cV2 (pc := 50) ca_4_178 e_X4_lackingSheets_50 (by decide) (Nat.le_of_ble_eq_true rfl) (kb_lt hB (by omega)) ((shB hB (by omega)).trans (shM_j (by omega) (by omega))) (by decide) (c_X1_isOn hB (by omega) (by omega) (by omega) (by omega) (by omega) (fun h_on => ?_) (fun h_on => ?_))
      · refine V_if_eq (pc := 53) e_X4_lackingSheets_53 (by decide) (by decide) (fun h => absurd h (by decide)) (fun _ => ?_)
        refine V_iinc (pc := 56) e_X4_lackingSheets_56 rfl (by decide) ?_
        refine V_iconst (pc := 59) e_X4_lackingSheets_59 ?_
        refine V_iload_n (pc := 60) e_X4_lackingSheets_60 rfl ?_
        refine V_max (pc := 61) rfl (by decide) (Nat.le_of_ble_eq_true rfl) e_X4_lackingSheets_61 (by omega) (by omega) ?_
        refine V_ret (pc := 64) (v := some (zI _)) ⟨e_X4_lackingSheets_64, _, rfl, rfl⟩ ?_
        exact Qv k (by (repeat' split) <;> (first | omega | (rw [if_pos (by omega)] at ls; omega) | (rw [if_neg (by omega)] at ls; omega))) rfl
      · refine V_if_eq (pc := 53) e_X4_lackingSheets_53 (by decide) (by decide) (fun _ => ?_) (fun h => absurd (by decide) h)
        refine V_iconst (pc := 59) e_X4_lackingSheets_59 ?_
        refine V_iload_n (pc := 60) e_X4_lackingSheets_60 rfl ?_
        refine V_max (pc := 61) rfl (by decide) (Nat.le_of_ble_eq_true rfl) e_X4_lackingSheets_61 (by omega) (by omega) ?_
        refine V_ret (pc := 64) (v := some (zI _)) ⟨e_X4_lackingSheets_64, _, rfl, rfl⟩ ?_
        exact Qv k (by (repeat' split) <;> (first | omega | (rw [if_pos (by omega)] at ls; omega) | (rw [if_neg (by omega)] at ls; omega))) rfl
    · refine V_astore (pc := 39) e_X4_lackingSheets_39 (Or.inr (Or.inl rfl)) (by decide) ?_
      refine V_aload (pc := 41) e_X4_lackingSheets_41 rfl (Or.inr (Or.inl rfl)) ?_
      refine V_ifnull (pc := 43) e_X4_lackingSheets_43 (by decide) trivial (fun _ => ?_) (fun h => absurd rfl h)
      refine V_iconst (pc := 59) e_X4_lackingSheets_59 ?_
      refine V_iload_n (pc := 60) e_X4_lackingSheets_60 rfl ?_
      refine V_max (pc := 61) rfl (by decide) (Nat.le_of_ble_eq_true rfl) e_X4_lackingSheets_61 (by omega) (by omega) ?_
      refine V_ret (pc := 64) (v := some (zI _)) ⟨e_X4_lackingSheets_64, _, rfl, rfl⟩ ?_
      exact Qv k (by (repeat' split) <;> (first | omega | (rw [if_pos (by omega)] at ls; omega) | (rw [if_neg (by omega)] at ls; omega))) rfl
