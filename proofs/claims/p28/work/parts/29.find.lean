/-! the class: looking for work, going on with it -/
theorem RI.mx {c : Nat → Int → Int} {π : Int → Nat} {r : Int → Int} (h : RI r) (m : MR c π r) : MX c π r (r 0) (r 9) := by
  have n := h.1
  unfold NI at n
  exact ⟨m, rfl, rfl, by omega, by omega⟩
/-- the class's work can begin -/
noncomputable def cOK : Nat → (Int → Int) → Prop
  | 0, r => RI r ∧ ¬ r 5 = 0
  | n + 1, r => RI r ∧ (r 5 = 0 → wst r (nxj r) = 0 → (¬ hset r (nxj r) → tkO r (jf r (nxj r) 3) (jf r (nxj r) 4)) ∧ cOK n (bstF r (nxj r)))
theorem cOK.ri {n : Nat} {r : Int → Int} (h : cOK n r) : RI r := by
  cases n with
  | zero => exact h.1
  | succ n => exact h.1
theorem begF_w {n : Nat} {r : Int → Int} (h : ¬ r 5 = 0) : begF n r = (0, r) := by
  cases n with
  | zero => rfl
  | succ n =>
    unfold begF
    rw [if_neg h]
theorem begF_stab : ∀ (n m : Nat) (r : Int → Int), cOK n r → n ≤ m → begF m r = begF n r := by
  intro n
  induction n with
  | zero =>
    intro m r h _
    rw [begF_w h.2, begF_w h.2]
  | succ n ih =>
    intro m r h hm
    obtain ⟨m', rfl⟩ : ∃ m', m = m' + 1 := ⟨m - 1, by omega⟩
    unfold begF
    by_cases a : r 5 = 0
    · rw [if_pos a, if_pos a]
      by_cases d : wst r (nxj r) = 0
      · rw [if_pos d, if_pos d]
        exact ih m' _ (h.2 a d).2 (by omega)
      · rw [if_neg d, if_neg d]
    · rw [if_neg a, if_neg a]
theorem begF_post : ∀ (n : Nat) (r : Int → Int), cOK n r → RI (begF n r).2 ∧ (0 ≤ (begF n r).1 ∧ (begF n r).1 ≤ 4) ∧ ((begF n r).1 = 0 → ¬ (begF n r).2 5 = 0) := by
  intro n
  induction n with
  | zero =>
    intro r h
    rw [begF_w h.2]
    exact ⟨h.1, (show (0 : Int) ≤ 0 ∧ (0 : Int) ≤ 4 by decide), fun _ => h.2⟩
  | succ n ih =>
    intro r h
    by_cases a : r 5 = 0
    · by_cases d : wst r (nxj r) = 0
      · have y := ih _ (h.2 a d).2
        unfold begF
        rw [if_pos a, if_pos d]
        exact y
      · unfold begF
        rw [if_pos a, if_neg d]
        refine ⟨h.1, ?_, fun z => absurd z d⟩
        show 0 ≤ wst r (nxj r) ∧ wst r (nxj r) ≤ 4
        unfold wst
        (repeat' split) <;> omega
    · rw [begF_w a]
      exact ⟨h.1, (show (0 : Int) ≤ 0 ∧ (0 : Int) ≤ 4 by decide), fun _ => a⟩
theorem L_X4_findWork {σ : Sto} {b : Nat} {Q : Option Value → Sto → Prop} (hB : MB b) : ∀ (n : Nat) (t : Int) (c : Nat → Int → Int) (π : Int → Nat) (r : Int → Int), MR c π r → cOK n r → (0 ≤ t ∧ t + (n : Int) ≤ 501) → (∀ (c' : Nat → Int → Int) (π' : Int → Nat), MR c' π' (begF n r).2 → Q (some (zI (begF n r).1)) (kst b σ c' π')) → V M_X4_findWork 144 2 [(0, .ref b), (1, zI t)] [] 144 (kst b σ c π) Q := by
  intro n
  induction n with
  | zero =>
    intro t c π r hM hO ht k
    have hI := hO.ri
    have hR := hI.rr
    obtain ⟨ni, rb, rt, pa, hS, hj, wi⟩ := id hI
    unfold NI at ni
    have r7 : -3000000 ≤ r 7 ∧ r 7 ≤ 3000000 := by omega
    have hQ := hM.2.2.2.2
    obtain ⟨k1, k2, k3, k4, k5⟩ := hM.2.2.2.1
    have g5 := rb 5 (by decide) (by decide) (by decide)
    refine V_aload_n (pc := 2) e_X4_findWork_2 rfl (Or.inl ⟨_, rfl⟩) ?_
    refine Vk_get (pc := 3) (i := 0) (q := 6) hB rfl (by decide) rfl fx_4_40 e_X4_findWork_3 rfl rfl ?_
    refine V_if_ne (pc := 6) e_X4_findWork_6 (by decide) (by omega) (fun h6 => ?_) (fun h6 => ?_)
    · refine V_iconst (pc := 68) e_X4_findWork_68 ?_
      refine V_ret (pc := 69) (v := some (zI _)) ⟨e_X4_findWork_69, _, rfl, rfl⟩ ?_
      exact k _ _ hM
    · refine V_iload_n (pc := 9) e_X4_findWork_9 rfl ?_
      refine V_sipush (pc := 10) (by decide) e_X4_findWork_10 ?_
      refine V_icmp_gt (pc := 13) e_X4_findWork_13 (by decide) (by omega) (by decide) (fun h13 => ?_) (fun h13 => ?_)
      · refine V_iconst (pc := 68) e_X4_findWork_68 ?_
        refine V_ret (pc := 69) (v := some (zI _)) ⟨e_X4_findWork_69, _, rfl, rfl⟩ ?_
        exact k _ _ hM
      · exact absurd (show r 5 = 0 by omega) hO.2
  | succ n ih =>
    intro t c π r hM hO ht k
    have hI := hO.ri
    have hR := hI.rr
    obtain ⟨ni, rb, rt, pa, hS, hj, wi⟩ := id hI
    unfold NI at ni
    have r7 : -3000000 ≤ r 7 ∧ r 7 ≤ 3000000 := by omega
    have hQ := hM.2.2.2.2
    obtain ⟨k1, k2, k3, k4, k5⟩ := hM.2.2.2.1
    have g5 := rb 5 (by decide) (by decide) (by decide)
    refine V_aload_n (pc := 2) e_X4_findWork_2 rfl (Or.inl ⟨_, rfl⟩) ?_
    refine Vk_get (pc := 3) (i := 0) (q := 6) hB rfl (by decide) rfl fx_4_40 e_X4_findWork_3 rfl rfl ?_
    refine V_if_ne (pc := 6) e_X4_findWork_6 (by decide) (by omega) (fun h6 => ?_) (fun h6 => ?_)
    · refine V_iconst (pc := 68) e_X4_findWork_68 ?_
      refine V_ret (pc := 69) (v := some (zI _)) ⟨e_X4_findWork_69, _, rfl, rfl⟩ ?_
      first
        | (exfalso; omega)
        | (have a : ¬ r 5 = 0 := by omega
           rw [begF_w a] at k
           exact k _ _ hM)
    · refine V_iload_n (pc := 9) e_X4_findWork_9 rfl ?_
      refine V_sipush (pc := 10) (by decide) e_X4_findWork_10 ?_
      refine V_icmp_gt (pc := 13) e_X4_findWork_13 (by decide) (by omega) (by decide) (fun h13 => ?_) (fun h13 => ?_)
      · refine V_iconst (pc := 68) e_X4_findWork_68 ?_
        refine V_ret (pc := 69) (v := some (zI _)) ⟨e_X4_findWork_69, _, rfl, rfl⟩ ?_
        first
          | (exfalso; omega)
          | (have a : ¬ r 5 = 0 := by omega
             rw [begF_w a] at k
             exact k _ _ hM)
      · refine V_aload_n (pc := 16) e_X4_findWork_16 rfl (Or.inl ⟨_, rfl⟩) ?_
        refine Vk_getR (pc := 17) (i := 0) (q := 1) hB rfl (by decide) rfl fx_4_21 e_X4_findWork_17 rfl rfl (by decide) rfl ?_
        refine V_cV0 (pc := 20) ca_4_87 e_X4_findWork_20 (by decide) (Nat.le_of_ble_eq_true rfl) (kb_lt hB (by decide)) ((shB hB (by decide)).trans rfl) (by decide) (c_X5_next hB hQ hR hS r7 (fun h_nx => ?_) (fun h_nx => ?_))
        · refine V_astore_n (pc := 23) e_X4_findWork_23 (Or.inl ⟨_, rfl⟩) (by decide) ?_
          refine V_aload_n (pc := 24) e_X4_findWork_24 rfl (Or.inl ⟨_, rfl⟩) ?_
          refine V_ifnonnull (pc := 25) e_X4_findWork_25 (by decide) trivial (fun _ => ?_) (fun h => by cases h)
          have hp : 0 ≤ nxj r := h_nx
          have nl := nxj_lt (r := r) hR.2.1.1
          have hjp := hj (nxj r) hp (by omega)
          have hX := hI.mx hM
          have pp := (MX_j hX (p := nxj r) ⟨hp, by omega⟩).1
          have hjj := (MX_j hX (p := nxj r) ⟨hp, by omega⟩).2
          have wr : 0 ≤ wst r (nxj r) ∧ wst r (nxj r) ≤ 4 := by unfold wst; (repeat' split) <;> omega
          refine V_aload_n (pc := 30) e_X4_findWork_30 rfl (Or.inl ⟨_, rfl⟩) ?_
          refine V_aload_n (pc := 31) e_X4_findWork_31 rfl (Or.inl ⟨_, rfl⟩) ?_
          refine V_cV1 (pc := 32) ca_4_91 e_X4_findWork_32 (by decide) (Nat.le_of_ble_eq_true rfl) (kb_lt (i := 0) hB (by decide)) ((shB (i := 0) hB (by decide)).trans rfl) (by decide) (c_X4_stopReason (r := r) (p := nxj r) hB hM hR.2.1 hR.2.2.1 (by omega) hjp.1 rt rb ?_)
          refine V_istore_n (pc := 35) e_X4_findWork_35 (by decide) ?_
          refine V_iload_n (pc := 36) e_X4_findWork_36 rfl ?_
          refine V_if_eq (pc := 37) e_X4_findWork_37 (by decide) (by omega) (fun h37 => ?_) (fun h37 => ?_)
          · refine V_aload_n (pc := 42) e_X4_findWork_42 rfl (Or.inl ⟨_, rfl⟩) ?_
            have hq8 := hjp.2.2.1
            refine V_cV0 (pc := 43) ca_4_95 e_X4_findWork_43 (by decide) (Nat.le_of_ble_eq_true rfl) (kb_lt hB (by omega)) ((shB hB (by omega)).trans (shM_j (by omega) (by omega))) (by decide) (c_X1_hasSetToStaple (r := r) (p := nxj r) hB (by omega) hjj hjp.1 (fun h_hs => ?_) (fun h_hs => ?_))
            · refine V_if_eq (pc := 46) e_X4_findWork_46 (by decide) (by decide) (fun h => absurd h (by decide)) (fun _ => ?_)
              refine V_aload_n (pc := 49) e_X4_findWork_49 rfl (Or.inl ⟨_, rfl⟩) ?_
              refine V_aload_n (pc := 50) e_X4_findWork_50 rfl (Or.inl ⟨_, rfl⟩) ?_
              refine V_cV1 (pc := 51) ca_4_101 e_X4_findWork_51 (by decide) (Nat.le_of_ble_eq_true rfl) (kb_lt (i := 0) hB (by decide)) ((shB (i := 0) hB (by decide)).trans rfl) (by decide) (c_X4_beginStapling (r := r) (p := nxj r) hB hX (by omega) hjp.1 r7 (by omega) (hset_lt hjp.1 (by omega) h_hs) (by omega) (by unfold WI at wi; omega) (by omega) (fun c1 π1 y => ?_))
              refine V_goto (pc := 54) e_X4_findWork_54 (by decide) ?_
              refine V_iinc (pc := 62) e_X4_findWork_62 rfl (by decide) ?_
              refine V_goto (pc := 65) e_X4_findWork_65 (by decide) ?_
              unfold begF at k
              rw [if_pos (show r 5 = 0 by omega)] at k
              rw [if_pos h37] at k
              have y2 : MR c1 π1 (bstF r (nxj r)) := by
                unfold bstF
                rw [if_pos h_hs]
                exact y
              exact V_lq [(0, .ref b), (1, zI (t + 1))] ⟨⟨_, rfl, rfl⟩, ⟨_, rfl, rfl⟩, trivial⟩ (ih (t + 1) _ _ _ y2 (hO.2 (by omega) h37).2 (by omega) k)
            · refine V_if_eq (pc := 46) e_X4_findWork_46 (by decide) (by decide) (fun _ => ?_) (fun h => absurd (by decide) h)
              refine V_aload_n (pc := 57) e_X4_findWork_57 rfl (Or.inl ⟨_, rfl⟩) ?_
              refine V_aload_n (pc := 58) e_X4_findWork_58 rfl (Or.inl ⟨_, rfl⟩) ?_
              refine V_cV1 (pc := 59) ca_4_105 e_X4_findWork_59 (by decide) (Nat.le_of_ble_eq_true rfl) (kb_lt (i := 0) hB (by decide)) ((shB (i := 0) hB (by decide)).trans rfl) (by decide) (c_X4_beginSheet (r := r) (p := nxj r) hB hX (by omega) hjp.1 r7 rt (not_done hjp h_hs) ((hO.2 (by omega) h37).1 h_hs) (fun c1 y => ?_))
              refine V_iinc (pc := 62) e_X4_findWork_62 rfl (by decide) ?_
              refine V_goto (pc := 65) e_X4_findWork_65 (by decide) ?_
              unfold begF at k
              rw [if_pos (show r 5 = 0 by omega)] at k
              rw [if_pos h37] at k
              have y2 : MR c1 π (bstF r (nxj r)) := by
                unfold bstF
                rw [if_neg h_hs]
                exact y
              exact V_lq [(0, .ref b), (1, zI (t + 1))] ⟨⟨_, rfl, rfl⟩, ⟨_, rfl, rfl⟩, trivial⟩ (ih (t + 1) _ _ _ y2 (hO.2 (by omega) h37).2 (by omega) k)
          · refine V_iload_n (pc := 40) e_X4_findWork_40 rfl ?_
            refine V_ret (pc := 41) (v := some (zI _)) ⟨e_X4_findWork_41, _, rfl, rfl⟩ ?_
            unfold begF at k
            rw [if_pos (show r 5 = 0 by omega)] at k
            rw [if_neg (by omega)] at k
            exact k _ _ hM
        · refine V_astore_n (pc := 23) e_X4_findWork_23 (Or.inr (Or.inl rfl)) (by decide) ?_
          refine V_aload_n (pc := 24) e_X4_findWork_24 rfl (Or.inr (Or.inl rfl)) ?_
          refine V_ifnonnull (pc := 25) e_X4_findWork_25 (by decide) trivial (fun h => absurd rfl h) (fun _ => ?_)
          refine V_iconst (pc := 28) e_X4_findWork_28 ?_
          refine V_ret (pc := 29) (v := some (zI _)) ⟨e_X4_findWork_29, _, rfl, rfl⟩ ?_
          unfold begF at k
          rw [if_pos (show r 5 = 0 by omega)] at k
          have w1 : wst r (nxj r) = 1 := by unfold wst; rw [if_pos h_nx]
          rw [if_neg (by omega)] at k
          exact Qv (k _ _ hM) w1 rfl
theorem c_X4_findWork {σ : Sto} {b : Nat} {c : Nat → Int → Int} {π : Int → Nat} {r : Int → Int} {Q : Option Value → Sto → Prop} (hB : MB b) (hM : MR c π r) (hO : cOK 501 r) (k : ∀ (c' : Nat → Int → Int) (π' : Int → Nat), MR c' π' (begF 501 r).2 → Q (some (zI (begF 501 r).1)) (kst b σ c' π')) : Con M_X4_findWork 144 144 (kst b σ c π) [.ref b] Q := by
  refine V_entry ok_X4_findWork (Nat.le_refl _) (Nat.le_of_ble_eq_true rfl) (V_ls [(0, .ref b)] ⟨rfl, trivial⟩ ?_)
  refine V_iconst (pc := 0) e_X4_findWork_0 ?_
  refine V_istore_n (pc := 1) e_X4_findWork_1 (by decide) ?_
  exact V_lq [(0, .ref b), (1, zI 0)] ⟨⟨_, rfl, rfl⟩, ⟨_, rfl, rfl⟩, trivial⟩ (L_X4_findWork hB 501 0 c π r hM hO (by decide) k)
theorem endsF_x {r : Int → Int} {p : Int} (hp : 0 ≤ p) : ∀ w, 0 ≤ w → w < 10 → jf (endsF r) p w = jf r p w := fun w a d => endsF_at (by omega)
theorem c_X4_finishWork {σ : Sto} {b : Nat} {c : Nat → Int → Int} {π : Int → Nat} {r : Int → Int} {Q : Option Value → Sto → Prop} (hB : MB b) (hM : MR c π r) (hR : RR r) (z4 : r 4 = 0) (z5 : r 5 = 1 ∨ r 5 = 2) (r6 : 0 ≤ r 6) (hp : 0 ≤ plc r (r 6) ∧ plc r (r 6) < r 0) (h8 : jf r (plc r (r 6)) 8 ≤ als r (plc r (r 6))) (h9 : jf r (plc r (r 6)) 9 ≤ jf r (plc r (r 6)) 2) (f1 : r 5 = 1 → jf r (plc r (r 6)) 8 < als r (plc r (r 6))) (f2 : r 5 = 2 → jf r (plc r (r 6)) 9 < jf r (plc r (r 6)) 2) (g8 : 0 ≤ r 8 ∧ r 8 ≤ 2999999) (g14 : 0 ≤ r 14 ∧ r 14 ≤ 3000000) (k : ∀ (c' : Nat → Int → Int) (π' : Int → Nat), MR c' π' (finF r) → Q none (kst b σ c' π')) : Con M_X4_finishWork 144 144 (kst b σ c π) [.ref b] Q := by
  refine V_entry ok_X4_finishWork (Nat.le_refl _) (Nat.le_of_ble_eq_true rfl) (V_ls [(0, .ref b)] ⟨rfl, trivial⟩ ?_)
  obtain ⟨k1, k2, k3, k4, k5⟩ := hM.2.2.2.1
  have k7 := k4 (by omega)
  have hQ := hM.2.2.2.2
  have g3 := hR.1 3 (by decide) (by decide) (by decide)
  have g6 := hR.1 6 (by decide) (by decide) (by decide)
  have g7 := hR.1 7 (by decide) (by decide) (by decide)
  have hJ := hR.2.2.2 _ hp.1 hp.2
  have m1 := MR_end hR.2.1.2 hR.2.2.1.2 hM z4
  have x1 : MX (up2 c 0 6 0) π (endsF r) (r 0) (r 9) := ⟨m1, endsF_at (by decide), endsF_at (by decide), hR.2.1, hR.2.2.1⟩
  have jE := endsF_x (r := r) hp.1
  have ax := sst_ext jE
  have sx := sid_ext jE
  have hK := JB_ext jE hJ
  have e8 := jE 8 (by decide) (by decide)
  have e9 := jE 9 (by decide) (by decide)
  have e2 := jE 2 (by decide) (by decide)
  have q7 : endsF r 7 = r 7 := endsF_at (by decide)
  have q3 : endsF r 3 = r 3 := endsF_at (by decide)
  have q8 : endsF r 8 = r 8 := endsF_at (by decide)
  have q14 : endsF r 14 = r 14 := endsF_at (by decide)
  refine V_aload_n (pc := 0) e_X4_finishWork_0 rfl (Or.inl ⟨_, rfl⟩) ?_
  refine Vk_getR (pc := 1) (i := 0) (q := 1) hB rfl (by decide) rfl fx_4_21 e_X4_finishWork_1 rfl rfl (by decide) rfl ?_
  refine V_aload_n (pc := 4) e_X4_finishWork_4 rfl (Or.inl ⟨_, rfl⟩) ?_
  refine Vk_get (pc := 5) (i := 0) (q := 7) hB rfl (by decide) rfl fx_4_65 e_X4_finishWork_5 rfl rfl ?_
  rw [k7]
  refine V_cV1 (pc := 8) ca_4_83 e_X4_finishWork_8 (by decide) (Nat.le_of_ble_eq_true rfl) (kb_lt hB (by decide)) ((shB hB (by decide)).trans rfl) (by decide) (c_X5_find hB hQ hR (by omega) (fun h_fd => ?_) (fun h_fd => ?_))
  · refine V_astore_n (pc := 11) e_X4_finishWork_11 (Or.inl ⟨_, rfl⟩) (by decide) ?_
    refine V_aload_n (pc := 12) e_X4_finishWork_12 rfl (Or.inl ⟨_, rfl⟩) ?_
    refine Vk_get (pc := 13) (i := 0) (q := 6) hB rfl (by decide) rfl fx_4_40 e_X4_finishWork_13 rfl rfl ?_
    refine V_istore_n (pc := 16) e_X4_finishWork_16 (by decide) ?_
    refine V_aload_n (pc := 17) e_X4_finishWork_17 rfl (Or.inl ⟨_, rfl⟩) ?_
    refine V_iconst (pc := 18) e_X4_finishWork_18 ?_
    refine Vk_put (pc := 19) (i := 0) (q := 6) hB rfl (by decide) rfl fx_4_40 e_X4_finishWork_19 rfl rfl rfl rfl rfl ?_
    refine V_aload_n (pc := 22) e_X4_finishWork_22 rfl (Or.inl ⟨_, rfl⟩) ?_
    refine V_ifnonnull (pc := 23) e_X4_finishWork_23 (by decide) trivial (fun _ => ?_) (fun h => by cases h)
    refine V_iload_n (pc := 27) e_X4_finishWork_27 rfl ?_
    refine V_iconst (pc := 28) e_X4_finishWork_28 ?_
    refine V_icmp_ne (pc := 29) e_X4_finishWork_29 (by decide) (by omega) (by decide) (fun h29 => ?_) (fun h29 => ?_)
    · refine V_iload_n (pc := 40) e_X4_finishWork_40 rfl ?_
      refine V_iconst (pc := 41) e_X4_finishWork_41 ?_
      refine V_icmp_ne (pc := 42) e_X4_finishWork_42 (by decide) (by omega) (by decide) (fun h42 => ?_) (fun h42 => ?_)
      · refine V_ret (pc := 50) (v := none) ⟨e_X4_finishWork_50, rfl⟩ ?_
        first
          | (exfalso; omega)
          | (refine k _ _ ?_
             unfold finF
             first
               | (rw [if_pos (by omega)]; exact y)
               | (rw [if_neg (by omega)]; exact y))
      · refine V_aload_n (pc := 45) e_X4_finishWork_45 rfl (Or.inl ⟨_, rfl⟩) ?_
        refine V_aload_n (pc := 46) e_X4_finishWork_46 rfl (Or.inl ⟨_, rfl⟩) ?_
        refine V_cV1 (pc := 47) ca_4_136 e_X4_finishWork_47 (by decide) (Nat.le_of_ble_eq_true rfl) (kb_lt (i := 0) hB (by decide)) ((shB (i := 0) hB (by decide)).trans rfl) (by decide) (c_X4_finishStapling (r := endsF r) (p := plc r (r 6)) hB x1 hp hK (by omega) (by rw [e8, ax.2]; exact h8) (by rw [e9, e2]; exact f2 (by omega)) (by omega) (fun c1 π1 y => ?_))
        refine V_ret (pc := 50) (v := none) ⟨e_X4_finishWork_50, rfl⟩ ?_
        first
          | (exfalso; omega)
          | (refine k _ _ ?_
             unfold finF
             first
               | (rw [if_pos (by omega)]; exact y)
               | (rw [if_neg (by omega)]; exact y))
    · refine V_aload_n (pc := 32) e_X4_finishWork_32 rfl (Or.inl ⟨_, rfl⟩) ?_
      refine V_aload_n (pc := 33) e_X4_finishWork_33 rfl (Or.inl ⟨_, rfl⟩) ?_
      refine V_cV1 (pc := 34) ca_4_147 e_X4_finishWork_34 (by decide) (Nat.le_of_ble_eq_true rfl) (kb_lt (i := 0) hB (by decide)) ((shB (i := 0) hB (by decide)).trans rfl) (by decide) (c_X4_finishSheet (r := endsF r) (p := plc r (r 6)) hB x1 hp hK (by omega) (by rw [e8, ax.2]; exact f1 (by omega)) (by omega) (by rw [sx.2, ax.1]; exact nsh_lt hJ (f1 (by omega))) (by omega) (by omega) (fun c1 π1 y => ?_))
      refine V_goto (pc := 37) e_X4_finishWork_37 (by decide) ?_
      refine V_ret (pc := 50) (v := none) ⟨e_X4_finishWork_50, rfl⟩ ?_
      first
        | (exfalso; omega)
        | (refine k _ _ ?_
           unfold finF
           first
             | (rw [if_pos (by omega)]; exact y)
             | (rw [if_neg (by omega)]; exact y))
  · refine V_astore_n (pc := 11) e_X4_finishWork_11 (Or.inr (Or.inl rfl)) (by decide) ?_
    refine V_aload_n (pc := 12) e_X4_finishWork_12 rfl (Or.inl ⟨_, rfl⟩) ?_
    refine Vk_get (pc := 13) (i := 0) (q := 6) hB rfl (by decide) rfl fx_4_40 e_X4_finishWork_13 rfl rfl ?_
    refine V_istore_n (pc := 16) e_X4_finishWork_16 (by decide) ?_
    refine V_aload_n (pc := 17) e_X4_finishWork_17 rfl (Or.inl ⟨_, rfl⟩) ?_
    refine V_iconst (pc := 18) e_X4_finishWork_18 ?_
    refine Vk_put (pc := 19) (i := 0) (q := 6) hB rfl (by decide) rfl fx_4_40 e_X4_finishWork_19 rfl rfl rfl rfl rfl ?_
    refine V_aload_n (pc := 22) e_X4_finishWork_22 rfl (Or.inr (Or.inl rfl)) ?_
    refine V_ifnonnull (pc := 23) e_X4_finishWork_23 (by decide) trivial (fun h => absurd rfl h) (fun _ => ?_)
    refine V_ret (pc := 26) (v := none) ⟨e_X4_finishWork_26, rfl⟩ ?_
    exfalso; omega
theorem gbF_c {r : Int → Int} {t : Int} : sbn (adn r 24 t) 4 t = adn (sbn r 4 t) (16 + 8) t := by
  funext q
  unfold sbn adn up1
  (repeat' split) <;> first | rfl | (exfalso; omega)
theorem MX_tk2 {c : Nat → Int → Int} {π : Int → Nat} {r : Int → Int} {n0 n9 : Int} (h : MX c π r n0 n9) (a : Int) : MX (up2 c 0 8 (c 0 8 - a)) π (sbn r 4 a) n0 n9 := by
  have y := MX_tik h (c 0 8 - a)
  unfold sbn
  rw [← h.1.2.2.2.1.2.2.2.2]
  exact y
theorem tick_x {r : Int → Int} {t k : Int} (h4 : ¬ k = 4) (h24 : ¬ k = 24) : sbn (adn r 24 t) 4 t k = r k := by
  unfold sbn adn
  rw [up1_ne h4, up1_ne h24]
theorem plc_ext {r r' : Int → Int} (h0 : r' 0 = r 0) (h : ∀ p, 0 ≤ p → p < r 0 → jf r' p 0 = jf r p 0) (j : Int) : plc r' j = plc r j := by
  rcases plc_sp r j with ⟨a, d⟩ | ⟨a, d, e, f⟩
  · rw [a]
    exact plc_no (fun i x y => by rw [h0] at y; rw [h i x y]; exact d i x y)
  · exact plc_at a (by rw [h0]; exact d) (by rw [h _ a d]; exact e) (fun i x y => by rw [h i x (by omega)]; exact f i x y)
theorem c_X4_goOnWorking {σ : Sto} {b : Nat} {c : Nat → Int → Int} {π : Int → Nat} {r : Int → Int} {Q : Option Value → Sto → Prop} (hB : MB b) (hM : MR c π r) (hI : RI r) (h24 : r 24 ≤ 1900000) (z5 : ¬ r 5 = 0) {m : Int} (hm : 1 ≤ m ∧ m ≤ 20000) (k : ∀ (c' : Nat → Int → Int) (π' : Int → Nat), MR c' π' (gbF r 0 m) → Q (some (zI (gbT r 0 m))) (kst b σ c' π')) : Con M_X4_goOnWorking 144 144 (kst b σ c π) [.ref b, zI m] Q := by
  refine V_entry ok_X4_goOnWorking (Nat.le_refl _) (Nat.le_of_ble_eq_true rfl) (V_ls [(0, .ref b), (1, zI m)] ⟨rfl, rfl, trivial⟩ ?_)
  obtain ⟨k1, k2, k3, k4, k5⟩ := hM.2.2.2.1
  obtain ⟨ni, rb, rt, pa, hS, hj, wi⟩ := id hI
  unfold NI at ni
  unfold WI at wi
  have w4 : 1 ≤ r 4 ∧ r 4 ≤ 60 := by omega
  have hX := hI.mx hM
  have tb : 1 ≤ gbT r 0 m ∧ gbT r 0 m ≤ r 4 := by unfold gbT; split <;> omega
  have x2 := MX_acc (MX_tk2 hX (gbT r 0 m)) 8 (gbT r 0 m) (by decide)
  rw [← gbF_c] at x2
  have e4 : sbn (adn r 24 (gbT r 0 m)) 4 (gbT r 0 m) 4 = r 4 - gbT r 0 m := by
    unfold sbn
    rw [up1_at]
    unfold adn
    rw [up1_ne (by decide)]
  have ex : ∀ k, ¬ k = 4 → ¬ k = 24 → sbn (adn r 24 (gbT r 0 m)) 4 (gbT r 0 m) k = r k := fun k a d => tick_x a d
  have pe : ∀ j, plc (sbn (adn r 24 (gbT r 0 m)) 4 (gbT r 0 m)) j = plc r j := plc_ext (ex 0 (by decide) (by decide)) (fun p a d => ex _ (by omega) (by omega))
  have e5 := ex 5 (by decide) (by decide)
  have e6 := ex 6 (by decide) (by decide)
  have e0 := ex 0 (by decide) (by decide)
  have e8 := ex 8 (by decide) (by decide)
  have e14 := ex 14 (by decide) (by decide)
  refine V_iload_n (pc := 0) e_X4_goOnWorking_0 rfl ?_
  refine V_aload_n (pc := 1) e_X4_goOnWorking_1 rfl (Or.inl ⟨_, rfl⟩) ?_
  refine Vk_get (pc := 2) (i := 0) (q := 8) hB rfl (by decide) rfl fx_4_68 e_X4_goOnWorking_2 rfl rfl ?_
  refine V_min (pc := 5) rfl (by decide) (Nat.le_of_ble_eq_true rfl) e_X4_goOnWorking_5 (by omega) (by omega) ?_
  rw [show (if c 0 8 < m then c 0 8 else m) = gbT r 0 m by unfold gbT; (repeat' split) <;> omega]
  refine V_istore_n (pc := 8) e_X4_goOnWorking_8 (by decide) ?_
  refine V_aload_n (pc := 9) e_X4_goOnWorking_9 rfl (Or.inl ⟨_, rfl⟩) ?_
  refine V_dup (pc := 10) e_X4_goOnWorking_10 rfl ?_
  refine Vk_get (pc := 11) (i := 0) (q := 8) hB rfl (by decide) rfl fx_4_68 e_X4_goOnWorking_11 rfl rfl ?_
  refine V_iload_n (pc := 14) e_X4_goOnWorking_14 rfl ?_
  refine V_isub (pc := 15) e_X4_goOnWorking_15 ?_
  refine Vk_put (pc := 16) (i := 0) (q := 8) hB rfl (by decide) rfl fx_4_68 e_X4_goOnWorking_16 rfl rfl rfl rfl rfl ?_
  have c8 : up2 c 0 8 (c 0 8 - gbT r 0 m) 0 8 = r 4 - gbT r 0 m := by rw [up2_e]; omega
  refine V_aload_n (pc := 19) e_X4_goOnWorking_19 rfl (Or.inl ⟨_, rfl⟩) ?_
  refine Vk_getR (pc := 20) (i := 0) (q := 2) hB rfl (by decide) rfl fx_4_28 e_X4_goOnWorking_20 rfl rfl (by decide) rfl ?_
  refine V_bipush (pc := 23) (by decide) e_X4_goOnWorking_23 ?_
  refine V_iload_n (pc := 25) e_X4_goOnWorking_25 rfl ?_
  refine V_cV2 (pc := 26) ca_4_79 e_X4_goOnWorking_26 (by decide) (Nat.le_of_ble_eq_true rfl) (kb_lt hB (by decide)) ((shB hB (by decide)).trans rfl) (by decide) (c_X3_add hB (by decide) ?_)
  have q : up2 (up2 c 0 8 (c 0 8 - gbT r 0 m)) 18 8 (up2 c 0 8 (c 0 8 - gbT r 0 m) 18 8 + gbT r 0 m) 0 8 = r 4 - gbT r 0 m := by rw [up2_o (by omega)]; exact c8
  refine V_aload_n (pc := 29) e_X4_goOnWorking_29 rfl (Or.inl ⟨_, rfl⟩) ?_
  refine Vk_get (pc := 30) (i := 0) (q := 8) hB rfl (by decide) rfl fx_4_68 e_X4_goOnWorking_30 rfl rfl ?_
  refine V_if_ne (pc := 33) e_X4_goOnWorking_33 (by decide) (by omega) (fun h33 => ?_) (fun h33 => ?_)
  · refine V_iload_n (pc := 40) e_X4_goOnWorking_40 rfl ?_
    refine V_ret (pc := 41) (v := some (zI _)) ⟨e_X4_goOnWorking_41, _, rfl, rfl⟩ ?_
    refine k _ _ ?_
    unfold gbF
    rw [if_neg (by decide), if_neg (by omega)]
    exact x2.1
  · have z4 : r 4 - gbT r 0 m = 0 := by omega
    have pl : 0 ≤ plc r (r 6) ∧ plc r (r 6) < r 0 := by
      rcases plc_sp r (r 6) with y | y <;> omega
    have hjp := hj _ pl.1 pl.2
    have jx : ∀ w, 0 ≤ w → w < 10 → jf (sbn (adn r 24 (gbT r 0 m)) 4 (gbT r 0 m)) (plc r (r 6)) w = jf r (plc r (r 6)) w := fun w a d => ex _ (by omega) (by omega)
    have ax := sst_ext jx
    have hq := hjp.2.2.1
    have hl : r 5 = 2 → jf r (plc r (r 6)) 9 < jf r (plc r (r 6)) 2 := fun z => hset_lt hjp.1 hq.1 (by
      rcases wi with y | y | y
      · omega
      · omega
      · exact y.2.2.2.2.2)
    have hl1 : r 5 = 1 → jf r (plc r (r 6)) 8 < als r (plc r (r 6)) := fun z => by
      rcases wi with y | y | y
      · omega
      · exact y.2.2.2.2.2
      · omega
    have hRx : RR (sbn (adn r 24 (gbT r 0 m)) 4 (gbT r 0 m)) := by
      refine ⟨RB_up1 (RB_up1 rb (Or.inl (by omega))) (Or.inl (by unfold adn; rw [up1_ne (by decide)]; omega)), by rw [e0]; omega, by rw [ex 9 (by decide) (by decide)]; omega, fun p a d => ?_⟩
      rw [e0] at d
      exact JB_ext (fun w u v => ex _ (by omega) (by omega)) (hj p a d).1
    refine V_aload_n (pc := 36) e_X4_goOnWorking_36 rfl (Or.inl ⟨_, rfl⟩) ?_
    refine V_cV0 (pc := 37) ca_4_144 e_X4_goOnWorking_37 (by decide) (Nat.le_of_ble_eq_true rfl) (kb_lt (i := 0) hB (by decide)) ((shB (i := 0) hB (by decide)).trans rfl) (by decide) (c_X4_finishWork (r := sbn (adn r 24 (gbT r 0 m)) 4 (gbT r 0 m)) hB x2.1 hRx (by rw [e4]; exact z4) (by rw [e5]; omega) (by rw [e6]; omega) (by rw [e6, pe, e0]; exact pl) (by rw [e6, pe, jx 8 (by decide) (by decide), ax.2]; exact hq.1) (by rw [e6, pe, jx 9 (by decide) (by decide), jx 2 (by decide) (by decide)]; exact hq.2) (by rw [e5, e6, pe, jx 8 (by decide) (by decide), ax.2]; exact hl1) (by rw [e5, e6, pe, jx 9 (by decide) (by decide), jx 2 (by decide) (by decide)]; exact hl) (by rw [e8]; omega) (by rw [e14]; omega) (fun c1 π1 y => ?_))
    refine V_iload_n (pc := 40) e_X4_goOnWorking_40 rfl ?_
    refine V_ret (pc := 41) (v := some (zI _)) ⟨e_X4_goOnWorking_41, _, rfl, rfl⟩ ?_
    refine k _ _ ?_
    unfold gbF
    rw [if_neg (by decide), if_pos z4]
    exact y
