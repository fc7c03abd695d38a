/-! the class: trays, jobs, accounts -/
theorem c_X7_isWithin {σ : Sto} {Q : Option Value → Sto → Prop} {v lo hi : Int} (r_v : -2147483648 ≤ v ∧ v < 2147483648) (r_lo : -2147483648 ≤ lo ∧ lo < 2147483648) (r_hi : -2147483648 ≤ hi ∧ hi < 2147483648) (k1 : lo ≤ v ∧ v ≤ hi → Q (some (zI 1)) σ) (k0 : ¬ (lo ≤ v ∧ v ≤ hi) → Q (some (zI 0)) σ) : Con M_X7_isWithin 144 144 σ [zI v, zI lo, zI hi] Q := by
  refine V_entry ok_X7_isWithin (Nat.le_refl _) (Nat.le_of_ble_eq_true rfl) (V_ls [(0, zI v), (1, zI lo), (2, zI hi)] ⟨rfl, rfl, rfl, trivial⟩ ?_)
  refine V_iload_n (pc := 0) e_X7_isWithin_0 rfl ?_
  refine V_iload_n (pc := 1) e_X7_isWithin_1 rfl ?_
  refine V_icmp_lt (pc := 2) e_X7_isWithin_2 (by decide) (by omega) (by omega) (fun h2 => ?_) (fun h2 => ?_)
  · refine V_iconst (pc := 14) e_X7_isWithin_14 ?_
    refine V_ret (pc := 15) (v := some (zI _)) ⟨e_X7_isWithin_15, _, rfl, by decide⟩ ?_
    first | exact k1 (by omega) | exact k0 (by omega)
  · refine V_iload_n (pc := 5) e_X7_isWithin_5 rfl ?_
    refine V_iload_n (pc := 6) e_X7_isWithin_6 rfl ?_
    refine V_icmp_gt (pc := 7) e_X7_isWithin_7 (by decide) (by omega) (by omega) (fun h7 => ?_) (fun h7 => ?_)
    · refine V_iconst (pc := 14) e_X7_isWithin_14 ?_
      refine V_ret (pc := 15) (v := some (zI _)) ⟨e_X7_isWithin_15, _, rfl, by decide⟩ ?_
      first | exact k1 (by omega) | exact k0 (by omega)
    · refine V_iconst (pc := 10) e_X7_isWithin_10 ?_
      refine V_goto (pc := 11) e_X7_isWithin_11 (by decide) ?_
      refine V_ret (pc := 15) (v := some (zI _)) ⟨e_X7_isWithin_15, _, rfl, by decide⟩ ?_
      first | exact k1 (by omega) | exact k0 (by omega)
theorem c_X7_isBelow {σ : Sto} {Q : Option Value → Sto → Prop} {v hi : Int} (r_v : -2147483648 ≤ v ∧ v < 2147483648) (r_hi : -2147483648 ≤ hi ∧ hi < 2147483648) (k1 : 0 ≤ v ∧ v < hi → Q (some (zI 1)) σ) (k0 : ¬ (0 ≤ v ∧ v < hi) → Q (some (zI 0)) σ) : Con M_X7_isBelow 144 144 σ [zI v, zI hi] Q := by
  refine V_entry ok_X7_isBelow (Nat.le_refl _) (Nat.le_of_ble_eq_true rfl) (V_ls [(0, zI v), (1, zI hi)] ⟨rfl, rfl, trivial⟩ ?_)
  refine V_iload_n (pc := 0) e_X7_isBelow_0 rfl ?_
  refine V_if_lt (pc := 1) e_X7_isBelow_1 (by decide) (by omega) (fun h1 => ?_) (fun h1 => ?_)
  · refine V_iconst (pc := 13) e_X7_isBelow_13 ?_
    refine V_ret (pc := 14) (v := some (zI _)) ⟨e_X7_isBelow_14, _, rfl, by decide⟩ ?_
    first | exact k1 (by omega) | exact k0 (by omega)
  · refine V_iload_n (pc := 4) e_X7_isBelow_4 rfl ?_
    refine V_iload_n (pc := 5) e_X7_isBelow_5 rfl ?_
    refine V_icmp_ge (pc := 6) e_X7_isBelow_6 (by decide) (by omega) (by omega) (fun h6 => ?_) (fun h6 => ?_)
    · refine V_iconst (pc := 13) e_X7_isBelow_13 ?_
      refine V_ret (pc := 14) (v := some (zI _)) ⟨e_X7_isBelow_14, _, rfl, by decide⟩ ?_
      first | exact k1 (by omega) | exact k0 (by omega)
    · refine V_iconst (pc := 9) e_X7_isBelow_9 ?_
      refine V_goto (pc := 10) e_X7_isBelow_10 (by decide) ?_
      refine V_ret (pc := 14) (v := some (zI _)) ⟨e_X7_isBelow_14, _, rfl, by decide⟩ ?_
      first | exact k1 (by omega) | exact k0 (by omega)
theorem c_X7_isPaper {σ : Sto} {Q : Option Value → Sto → Prop} {s t : Int} (r_s : -2147483648 ≤ s ∧ s < 2147483648) (r_t : -2147483648 ≤ t ∧ t < 2147483648) (k1 : (0 ≤ s ∧ s ≤ 3) ∧ 0 ≤ t ∧ t ≤ 3 → Q (some (zI 1)) σ) (k0 : ¬ ((0 ≤ s ∧ s ≤ 3) ∧ 0 ≤ t ∧ t ≤ 3) → Q (some (zI 0)) σ) : Con M_X7_isPaper 144 144 σ [zI s, zI t] Q := by
  refine V_entry ok_X7_isPaper (Nat.le_refl _) (Nat.le_of_ble_eq_true rfl) (V_ls [(0, zI s), (1, zI t)] ⟨rfl, rfl, trivial⟩ ?_)
  refine V_iload_n (pc := 0) e_X7_isPaper_0 rfl ?_
  refine V_iconst (pc := 1) e_X7_isPaper_1 ?_
  refine V_cS2 (pc := 2) ca_7_40 e_X7_isPaper_2 (by decide) (Nat.le_of_ble_eq_true rfl) (c_X7_isBelow (by omega) (by omega) (fun h_bl => ?_) (fun h_bl => ?_))
  · refine V_if_eq (pc := 5) e_X7_isPaper_5 (by decide) (by decide) (fun h => absurd h (by decide)) (fun _ => ?_)
    refine V_iload_n (pc := 8) e_X7_isPaper_8 rfl ?_
    refine V_iconst (pc := 9) e_X7_isPaper_9 ?_
    refine V_cS2 (pc := 10) ca_7_40 e_X7_isPaper_10 (by decide) (Nat.le_of_ble_eq_true rfl) (c_X7_isBelow (by omega) (by omega) (fun h_bl => ?_) (fun h_bl => ?_))
    · refine V_if_eq (pc := 13) e_X7_isPaper_13 (by decide) (by decide) (fun h => absurd h (by decide)) (fun _ => ?_)
      refine V_iconst (pc := 16) e_X7_isPaper_16 ?_
      refine V_goto (pc := 17) e_X7_isPaper_17 (by decide) ?_
      refine V_ret (pc := 21) (v := some (zI _)) ⟨e_X7_isPaper_21, _, rfl, by decide⟩ ?_
      first | exact k1 (by omega) | exact k0 (by omega)
    · refine V_if_eq (pc := 13) e_X7_isPaper_13 (by decide) (by decide) (fun _ => ?_) (fun h => absurd (by decide) h)
      refine V_iconst (pc := 20) e_X7_isPaper_20 ?_
      refine V_ret (pc := 21) (v := some (zI _)) ⟨e_X7_isPaper_21, _, rfl, by decide⟩ ?_
      first | exact k1 (by omega) | exact k0 (by omega)
  · refine V_if_eq (pc := 5) e_X7_isPaper_5 (by decide) (by decide) (fun _ => ?_) (fun h => absurd (by decide) h)
    refine V_iconst (pc := 20) e_X7_isPaper_20 ?_
    refine V_ret (pc := 21) (v := some (zI _)) ⟨e_X7_isPaper_21, _, rfl, by decide⟩ ?_
    first | exact k1 (by omega) | exact k0 (by omega)
theorem L_X6_sheetsOf {σ : Sto} {b : Nat} {c : Nat → Int → Int} {π : Int → Nat} {Q : Option Value → Sto → Prop} (hB : MB b) {s q : Int} {r : Int → Int} (hT : TR c r) (hRB : RB r) (r_s : -2147483648 ≤ s ∧ s < 2147483648) (r_q : -2147483648 ≤ q ∧ q < 2147483648) (k : Q (some (zI (shA r s q 4))) (kst b σ c π)) : ∀ n : Nat, n ≤ 4 → V M_X6_sheetsOf 144 5 [(0, .ref (b + 1)), (1, zI s), (2, zI q), (3, zI (shA r s q n)), (4, zI (n : Int))] [] 144 (kst b σ c π) Q := by
  refine loop_nat (4) (fun n hn ih => ?_)
  refine V_iload (pc := 5) e_X6_sheetsOf_5 rfl ?_
  refine V_iconst (pc := 7) e_X6_sheetsOf_7 ?_
  refine V_icmp_ge (pc := 8) e_X6_sheetsOf_8 (by decide) (by omega) (by decide) (fun h8 => ?_) (fun h8 => ?_)
  · refine V_iload_n (pc := 49) e_X6_sheetsOf_49 rfl ?_
    refine V_ret (pc := 50) (v := some (zI _)) ⟨e_X6_sheetsOf_50, _, rfl, rfl⟩ ?_
    exact Qv k (by rw [show n = 4 by omega]) rfl
  · have g1 := hRB (25 + 3 * (n : Int)) (by omega) (by omega) (by omega)
    have g2 := hRB (25 + 3 * (n : Int) + 1) (by omega) (by omega) (by omega)
    have tt := hT (n : Int) (by omega) (by omega)
    refine V_aload_n (pc := 11) e_X6_sheetsOf_11 rfl (Or.inl ⟨_, rfl⟩) ?_
    refine Vk_getR (pc := 12) (q := 0) hB rfl (by decide) rfl fx_6_9 e_X6_sheetsOf_12 rfl rfl (by decide) rfl ?_
    refine V_iload (pc := 15) e_X6_sheetsOf_15 rfl ?_
    refine Vk_ld (pc := 17) (n := 4) hB rfl (by decide) rfl (by decide) e_X6_sheetsOf_17 (by omega) ?_
    refine V_iload_n (pc := 18) e_X6_sheetsOf_18 rfl ?_
    refine V_icmp_ne (pc := 19) e_X6_sheetsOf_19 (by decide) (by omega) (by omega) (fun h19 => ?_) (fun h19 => ?_)
    · refine V_iinc (pc := 43) e_X6_sheetsOf_43 rfl (by decide) ?_
      refine V_goto (pc := 46) e_X6_sheetsOf_46 (by decide) ?_
      exact V_lq [(0, .ref (b + 1)), (1, zI s), (2, zI q), (3, zI (shA r s q (n + 1))), (4, zI ((n + 1 : Nat) : Int))] ⟨⟨_, rfl, rfl⟩, ⟨_, rfl, rfl⟩, ⟨_, rfl, rfl⟩, ⟨_, rfl, congrArg (fun e : Int => zI e) (by (show _ = shA r s q n + (if _ then _ else _)); split <;> omega)⟩, ⟨_, rfl, rfl⟩, trivial⟩ (ih (by omega))
    · refine V_aload_n (pc := 22) e_X6_sheetsOf_22 rfl (Or.inl ⟨_, rfl⟩) ?_
      refine Vk_getR (pc := 23) (q := 1) hB rfl (by decide) rfl fx_6_15 e_X6_sheetsOf_23 rfl rfl (by decide) rfl ?_
      refine V_iload (pc := 26) e_X6_sheetsOf_26 rfl ?_
      refine Vk_ld (pc := 28) (n := 4) hB rfl (by decide) rfl (by decide) e_X6_sheetsOf_28 (by omega) ?_
      refine V_iload_n (pc := 29) e_X6_sheetsOf_29 rfl ?_
      refine V_icmp_ne (pc := 30) e_X6_sheetsOf_30 (by decide) (by omega) (by omega) (fun h30 => ?_) (fun h30 => ?_)
      · refine V_iinc (pc := 43) e_X6_sheetsOf_43 rfl (by decide) ?_
        refine V_goto (pc := 46) e_X6_sheetsOf_46 (by decide) ?_
        exact V_lq [(0, .ref (b + 1)), (1, zI s), (2, zI q), (3, zI (shA r s q (n + 1))), (4, zI ((n + 1 : Nat) : Int))] ⟨⟨_, rfl, rfl⟩, ⟨_, rfl, rfl⟩, ⟨_, rfl, rfl⟩, ⟨_, rfl, congrArg (fun e : Int => zI e) (by (show _ = shA r s q n + (if _ then _ else _)); split <;> omega)⟩, ⟨_, rfl, rfl⟩, trivial⟩ (ih (by omega))
      · refine V_iload_n (pc := 33) e_X6_sheetsOf_33 rfl ?_
        refine V_aload_n (pc := 34) e_X6_sheetsOf_34 rfl (Or.inl ⟨_, rfl⟩) ?_
        refine Vk_getR (pc := 35) (q := 2) hB rfl (by decide) rfl fx_6_18 e_X6_sheetsOf_35 rfl rfl (by decide) rfl ?_
        refine V_iload (pc := 38) e_X6_sheetsOf_38 rfl ?_
        refine Vk_ld (pc := 40) (n := 4) hB rfl (by decide) rfl (by decide) e_X6_sheetsOf_40 (by omega) ?_
        refine V_iadd (pc := 41) e_X6_sheetsOf_41 ?_
        refine V_istore_n (pc := 42) e_X6_sheetsOf_42 (by decide) ?_
        refine V_iinc (pc := 43) e_X6_sheetsOf_43 rfl (by decide) ?_
        refine V_goto (pc := 46) e_X6_sheetsOf_46 (by decide) ?_
        exact V_lq [(0, .ref (b + 1)), (1, zI s), (2, zI q), (3, zI (shA r s q (n + 1))), (4, zI ((n + 1 : Nat) : Int))] ⟨⟨_, rfl, rfl⟩, ⟨_, rfl, rfl⟩, ⟨_, rfl, rfl⟩, ⟨_, rfl, congrArg (fun e : Int => zI e) (by (show _ = shA r s q n + (if _ then _ else _)); split <;> omega)⟩, ⟨_, rfl, rfl⟩, trivial⟩ (ih (by omega))
theorem c_X6_sheetsOf {σ : Sto} {b : Nat} {c : Nat → Int → Int} {π : Int → Nat} {Q : Option Value → Sto → Prop} (hB : MB b) {s q : Int} {r : Int → Int} (hT : TR c r) (hRB : RB r) (r_s : -2147483648 ≤ s ∧ s < 2147483648) (r_q : -2147483648 ≤ q ∧ q < 2147483648) (k : Q (some (zI (shA r s q 4))) (kst b σ c π)) : Con M_X6_sheetsOf 144 144 (kst b σ c π) [.ref (b + 1), zI s, zI q] Q := by
  refine V_entry ok_X6_sheetsOf (Nat.le_refl _) (Nat.le_of_ble_eq_true rfl) (V_ls [(0, .ref (b + 1)), (1, zI s), (2, zI q)] ⟨rfl, rfl, rfl, trivial⟩ ?_)
  refine V_iconst (pc := 0) e_X6_sheetsOf_0 ?_
  refine V_istore_n (pc := 1) e_X6_sheetsOf_1 (by decide) ?_
  refine V_iconst (pc := 2) e_X6_sheetsOf_2 ?_
  refine V_istore (pc := 3) e_X6_sheetsOf_3 (by decide) ?_
  exact V_lq [(0, .ref (b + 1)), (1, zI s), (2, zI q), (3, zI (shA r s q 0)), (4, zI ((0 : Nat) : Int))] ⟨⟨_, rfl, rfl⟩, ⟨_, rfl, rfl⟩, ⟨_, rfl, rfl⟩, ⟨_, rfl, rfl⟩, ⟨_, rfl, rfl⟩, trivial⟩ (L_X6_sheetsOf hB hT hRB r_s r_q k 0 (by omega))
theorem lwt_no {r : Int → Int} {s q : Int} (h : ∀ t, 0 ≤ t → t ≤ 3 → ¬ twk r s q t) : lwt r s q = -1 := by
  unfold lwt
  rw [dif_neg (fun ⟨t, a, c, d, f⟩ => h t a c d)]
/-- the trays' numbers -/
def RT (r : Int → Int) : Prop := ∀ t : Int, 0 ≤ t → t < 4 → (0 ≤ r (25 + 3 * t) ∧ r (25 + 3 * t) ≤ 3) ∧ (0 ≤ r (25 + 3 * t + 1) ∧ r (25 + 3 * t + 1) ≤ 3) ∧ 0 ≤ r (25 + 3 * t + 2) ∧ r (25 + 3 * t + 2) ≤ 500
theorem L_X6_lowestWith {σ : Sto} {b : Nat} {c : Nat → Int → Int} {π : Int → Nat} {Q : Option Value → Sto → Prop} (hB : MB b) {s q : Int} {r : Int → Int} (hT : TR c r) (hRT : RT r) (r_s : -2147483648 ≤ s ∧ s < 2147483648) (r_q : -2147483648 ≤ q ∧ q < 2147483648) (k : Q (some (zI (lwt r s q))) (kst b σ c π)) : ∀ n : Nat, n ≤ 4 → (∀ i : Int, 0 ≤ i → i < (n : Int) → ¬ twk r s q i) → V M_X6_lowestWith 144 2 [(0, .ref (b + 1)), (1, zI s), (2, zI q), (3, zI (n : Int))] [] 144 (kst b σ c π) Q := by
  refine loop_nat (4) (fun n hn ih => ?_)
  intro hv
  have hz : ¬ twk r s q (n : Int) → ∀ i : Int, 0 ≤ i → i < ((n + 1 : Nat) : Int) → ¬ twk r s q i := fun z i a c => by
    by_cases y : i = (n : Int)
    · rw [y]; exact z
    · exact hv i a (by omega)
  refine V_iload_n (pc := 2) e_X6_lowestWith_2 rfl ?_
  refine V_iconst (pc := 3) e_X6_lowestWith_3 ?_
  refine V_icmp_ge (pc := 4) e_X6_lowestWith_4 (by decide) (by omega) (by decide) (fun h4 => ?_) (fun h4 => ?_)
  · refine V_iconst (pc := 44) e_X6_lowestWith_44 ?_
    refine V_ret (pc := 45) (v := some (zI _)) ⟨e_X6_lowestWith_45, _, rfl, rfl⟩ ?_
    exact Qv k (lwt_no (fun t a c => hv t a (by omega))) rfl
  · have g := hRT (n : Int) (by omega) (by omega)
    have tt := hT (n : Int) (by omega) (by omega)
    refine V_aload_n (pc := 7) e_X6_lowestWith_7 rfl (Or.inl ⟨_, rfl⟩) ?_
    refine Vk_getR (pc := 8) (q := 0) hB rfl (by decide) rfl fx_6_9 e_X6_lowestWith_8 rfl rfl (by decide) rfl ?_
    refine V_iload_n (pc := 11) e_X6_lowestWith_11 rfl ?_
    refine Vk_ld (pc := 12) (n := 4) hB rfl (by decide) rfl (by decide) e_X6_lowestWith_12 (by omega) ?_
    refine V_iload_n (pc := 13) e_X6_lowestWith_13 rfl ?_
    refine V_icmp_ne (pc := 14) e_X6_lowestWith_14 (by decide) (by omega) (by omega) (fun h14 => ?_) (fun h14 => ?_)
    · refine V_iinc (pc := 38) e_X6_lowestWith_38 rfl (by decide) ?_
      refine V_goto (pc := 41) e_X6_lowestWith_41 (by decide) ?_
      exact V_lq [(0, .ref (b + 1)), (1, zI s), (2, zI q), (3, zI ((n + 1 : Nat) : Int))] ⟨⟨_, rfl, rfl⟩, ⟨_, rfl, rfl⟩, ⟨_, rfl, rfl⟩, ⟨_, rfl, rfl⟩, trivial⟩ (ih (by omega) (hz (by omega)))
    · refine V_aload_n (pc := 17) e_X6_lowestWith_17 rfl (Or.inl ⟨_, rfl⟩) ?_
      refine Vk_getR (pc := 18) (q := 1) hB rfl (by decide) rfl fx_6_15 e_X6_lowestWith_18 rfl rfl (by decide) rfl ?_
      refine V_iload_n (pc := 21) e_X6_lowestWith_21 rfl ?_
      refine Vk_ld (pc := 22) (n := 4) hB rfl (by decide) rfl (by decide) e_X6_lowestWith_22 (by omega) ?_
      refine V_iload_n (pc := 23) e_X6_lowestWith_23 rfl ?_
      refine V_icmp_ne (pc := 24) e_X6_lowestWith_24 (by decide) (by omega) (by omega) (fun h24 => ?_) (fun h24 => ?_)
      · refine V_iinc (pc := 38) e_X6_lowestWith_38 rfl (by decide) ?_
        refine V_goto (pc := 41) e_X6_lowestWith_41 (by decide) ?_
        exact V_lq [(0, .ref (b + 1)), (1, zI s), (2, zI q), (3, zI ((n + 1 : Nat) : Int))] ⟨⟨_, rfl, rfl⟩, ⟨_, rfl, rfl⟩, ⟨_, rfl, rfl⟩, ⟨_, rfl, rfl⟩, trivial⟩ (ih (by omega) (hz (by omega)))
      · refine V_aload_n (pc := 27) e_X6_lowestWith_27 rfl (Or.inl ⟨_, rfl⟩) ?_
        refine Vk_getR (pc := 28) (q := 2) hB rfl (by decide) rfl fx_6_18 e_X6_lowestWith_28 rfl rfl (by decide) rfl ?_
        refine V_iload_n (pc := 31) e_X6_lowestWith_31 rfl ?_
        refine Vk_ld (pc := 32) (n := 4) hB rfl (by decide) rfl (by decide) e_X6_lowestWith_32 (by omega) ?_
        refine V_if_le (pc := 33) e_X6_lowestWith_33 (by decide) (by omega) (fun h33 => ?_) (fun h33 => ?_)
        · refine V_iinc (pc := 38) e_X6_lowestWith_38 rfl (by decide) ?_
          refine V_goto (pc := 41) e_X6_lowestWith_41 (by decide) ?_
          exact V_lq [(0, .ref (b + 1)), (1, zI s), (2, zI q), (3, zI ((n + 1 : Nat) : Int))] ⟨⟨_, rfl, rfl⟩, ⟨_, rfl, rfl⟩, ⟨_, rfl, rfl⟩, ⟨_, rfl, rfl⟩, trivial⟩ (ih (by omega) (hz (by omega)))
        · refine V_iload_n (pc := 36) e_X6_lowestWith_36 rfl ?_
          refine V_ret (pc := 37) (v := some (zI _)) ⟨e_X6_lowestWith_37, _, rfl, rfl⟩ ?_
          exact Qv k (lwt_at (by omega) (by omega) ⟨by omega, by omega, by omega⟩ hv) rfl
theorem c_X6_lowestWith {σ : Sto} {b : Nat} {c : Nat → Int → Int} {π : Int → Nat} {Q : Option Value → Sto → Prop} (hB : MB b) {s q : Int} {r : Int → Int} (hT : TR c r) (hRT : RT r) (r_s : -2147483648 ≤ s ∧ s < 2147483648) (r_q : -2147483648 ≤ q ∧ q < 2147483648) (k : Q (some (zI (lwt r s q))) (kst b σ c π)) : Con M_X6_lowestWith 144 144 (kst b σ c π) [.ref (b + 1), zI s, zI q] Q := by
  refine V_entry ok_X6_lowestWith (Nat.le_refl _) (Nat.le_of_ble_eq_true rfl) (V_ls [(0, .ref (b + 1)), (1, zI s), (2, zI q)] ⟨rfl, rfl, rfl, trivial⟩ ?_)
  refine V_iconst (pc := 0) e_X6_lowestWith_0 ?_
  refine V_istore_n (pc := 1) e_X6_lowestWith_1 (by decide) ?_
  exact V_lq [(0, .ref (b + 1)), (1, zI s), (2, zI q), (3, zI ((0 : Nat) : Int))] ⟨⟨_, rfl, rfl⟩, ⟨_, rfl, rfl⟩, ⟨_, rfl, rfl⟩, ⟨_, rfl, rfl⟩, trivial⟩ (L_X6_lowestWith hB hT hRT r_s r_q k 0 (by omega) (fun i a c => absurd c (by omega)))
theorem c_X6_takeSheet {σ : Sto} {b : Nat} {c : Nat → Int → Int} {π : Int → Nat} {Q : Option Value → Sto → Prop} (hB : MB b) {s q : Int} {r : Int → Int} (hT : TR c r) (hRT : RT r) (r_s : -2147483648 ≤ s ∧ s < 2147483648) (r_q : -2147483648 ≤ q ∧ q < 2147483648) (hl : 0 ≤ lwt r s q ∧ lwt r s q ≤ 3) (k : Q none (kst b σ (up2 c 4 (lwt r s q) (c 4 (lwt r s q) - 1)) π)) : Con M_X6_takeSheet 144 144 (kst b σ c π) [.ref (b + 1), zI s, zI q] Q := by
  refine V_entry ok_X6_takeSheet (Nat.le_refl _) (Nat.le_of_ble_eq_true rfl) (V_ls [(0, .ref (b + 1)), (1, zI s), (2, zI q)] ⟨rfl, rfl, rfl, trivial⟩ ?_)
  refine V_aload_n (pc := 0) e_X6_takeSheet_0 rfl (Or.inl ⟨_, rfl⟩) ?_
  refine V_iload_n (pc := 1) e_X6_takeSheet_1 rfl ?_
  refine V_iload_n (pc := 2) e_X6_takeSheet_2 rfl ?_
  refine V_cV2 (pc := 3) ca_6_31 e_X6_takeSheet_3 (by decide) (Nat.le_of_ble_eq_true rfl) (kb_lt hB (by decide)) ((shB hB (by decide)).trans rfl) (by decide) (c_X6_lowestWith hB hT hRT (by omega) (by omega) ?_)
  refine V_istore_n (pc := 6) e_X6_takeSheet_6 (by decide) ?_
  refine V_iload_n (pc := 7) e_X6_takeSheet_7 rfl ?_
  refine V_iconst (pc := 8) e_X6_takeSheet_8 ?_
  refine V_icmp_eq (pc := 9) e_X6_takeSheet_9 (by decide) (by omega) (by decide) (fun h9 => ?_) (fun h9 => ?_)
  · refine V_ret (pc := 22) (v := none) ⟨e_X6_takeSheet_22, rfl⟩ ?_
    first | exact k | (exfalso; omega)
  · refine V_aload_n (pc := 12) e_X6_takeSheet_12 rfl (Or.inl ⟨_, rfl⟩) ?_
    refine Vk_getR (pc := 13) (q := 2) hB rfl (by decide) rfl fx_6_18 e_X6_takeSheet_13 rfl rfl (by decide) rfl ?_
    refine V_iload_n (pc := 16) e_X6_takeSheet_16 rfl ?_
    refine V_dup2 (pc := 17) e_X6_takeSheet_17 rfl rfl ?_
    refine Vk_ld (pc := 18) (n := 4) hB rfl (by decide) rfl (by decide) e_X6_takeSheet_18 (by omega) ?_
    refine V_iconst (pc := 19) e_X6_takeSheet_19 ?_
    refine V_isub (pc := 20) e_X6_takeSheet_20 ?_
    refine Vk_st (pc := 21) (n := 4) hB rfl (by decide) rfl (by decide) e_X6_takeSheet_21 (by omega) ?_
    refine V_ret (pc := 22) (v := none) ⟨e_X6_takeSheet_22, rfl⟩ ?_
    first | exact k | (exfalso; omega)
theorem c_X6_change {σ : Sto} {b : Nat} {c : Nat → Int → Int} {π : Int → Nat} {Q : Option Value → Sto → Prop} (hB : MB b) {t s q : Int} (ht : 0 ≤ t ∧ t ≤ 3) (k : Q (some (zI (c 4 t))) (kst b σ (up2 (up2 (up2 c 2 t s) 3 t q) 4 t 0) π)) : Con M_X6_change 144 144 (kst b σ c π) [.ref (b + 1), zI t, zI s, zI q] Q := by
  refine V_entry ok_X6_change (Nat.le_refl _) (Nat.le_of_ble_eq_true rfl) (V_ls [(0, .ref (b + 1)), (1, zI t), (2, zI s), (3, zI q)] ⟨rfl, rfl, rfl, rfl, trivial⟩ ?_)
  refine V_iload_n (pc := 0) e_X6_change_0 rfl ?_
  refine V_iconst (pc := 1) e_X6_change_1 ?_
  refine V_cN2 (pc := 2) ca_6_27 e_X6_change_2 (by decide) (Nat.le_of_ble_eq_true rfl) (c_X7_isBelow (by omega) (by omega) (fun h_bl => ?_) (fun h_bl => ?_))
  · refine V_if_ne (pc := 5) e_X6_change_5 (by decide) (by decide) (fun _ => ?_) (fun h => absurd h (by decide))
    refine V_aload_n (pc := 10) e_X6_change_10 rfl (Or.inl ⟨_, rfl⟩) ?_
    refine Vk_getR (pc := 11) (q := 2) hB rfl (by decide) rfl fx_6_18 e_X6_change_11 rfl rfl (by decide) rfl ?_
    refine V_iload_n (pc := 14) e_X6_change_14 rfl ?_
    refine Vk_ld (pc := 15) (n := 4) hB rfl (by decide) rfl (by decide) e_X6_change_15 (by omega) ?_
    refine V_istore (pc := 16) e_X6_change_16 (by decide) ?_
    refine V_aload_n (pc := 18) e_X6_change_18 rfl (Or.inl ⟨_, rfl⟩) ?_
    refine Vk_getR (pc := 19) (q := 0) hB rfl (by decide) rfl fx_6_9 e_X6_change_19 rfl rfl (by decide) rfl ?_
    refine V_iload_n (pc := 22) e_X6_change_22 rfl ?_
    refine V_iload_n (pc := 23) e_X6_change_23 rfl ?_
    refine Vk_st (pc := 24) (n := 4) hB rfl (by decide) rfl (by decide) e_X6_change_24 (by omega) ?_
    refine V_aload_n (pc := 25) e_X6_change_25 rfl (Or.inl ⟨_, rfl⟩) ?_
    refine Vk_getR (pc := 26) (q := 1) hB rfl (by decide) rfl fx_6_15 e_X6_change_26 rfl rfl (by decide) rfl ?_
    refine V_iload_n (pc := 29) e_X6_change_29 rfl ?_
    refine V_iload_n (pc := 30) e_X6_change_30 rfl ?_
    refine Vk_st (pc := 31) (n := 4) hB rfl (by decide) rfl (by decide) e_X6_change_31 (by omega) ?_
    refine V_aload_n (pc := 32) e_X6_change_32 rfl (Or.inl ⟨_, rfl⟩) ?_
    refine Vk_getR (pc := 33) (q := 2) hB rfl (by decide) rfl fx_6_18 e_X6_change_33 rfl rfl (by decide) rfl ?_
    refine V_iload_n (pc := 36) e_X6_change_36 rfl ?_
    refine V_iconst (pc := 37) e_X6_change_37 ?_
    refine Vk_st (pc := 38) (n := 4) hB rfl (by decide) rfl (by decide) e_X6_change_38 (by omega) ?_
    refine V_iload (pc := 39) e_X6_change_39 rfl ?_
    refine V_ret (pc := 41) (v := some (zI _)) ⟨e_X6_change_41, _, rfl, rfl⟩ ?_
    first | exact k | (exfalso; omega)
  · refine V_if_ne (pc := 5) e_X6_change_5 (by decide) (by decide) (fun h => absurd (by decide) h) (fun _ => ?_)
    refine V_iconst (pc := 8) e_X6_change_8 ?_
    refine V_ret (pc := 9) (v := some (zI _)) ⟨e_X6_change_9, _, rfl, rfl⟩ ?_
    first | exact k | (exfalso; omega)
theorem c_X3_add {σ : Sto} {b : Nat} {c : Nat → Int → Int} {π : Int → Nat} {Q : Option Value → Sto → Prop} (hB : MB b) {w a : Int} (hw : 0 ≤ w ∧ w < 9) (k : Q none (kst b σ (up2 c 18 w (c 18 w + a)) π)) : Con M_X3_add 144 144 (kst b σ c π) [.ref (b + 17), zI w, zI a] Q := by
  refine V_entry ok_X3_add (Nat.le_refl _) (Nat.le_of_ble_eq_true rfl) (V_ls [(0, .ref (b + 17)), (1, zI w), (2, zI a)] ⟨rfl, rfl, rfl, trivial⟩ ?_)
  refine V_iload_n (pc := 0) e_X3_add_0 rfl ?_
  refine V_bipush (pc := 1) (by decide) e_X3_add_1 ?_
  refine V_cN2 (pc := 3) ca_3_37 e_X3_add_3 (by decide) (Nat.le_of_ble_eq_true rfl) (c_X7_isBelow (by omega) (by omega) (fun h_bl => ?_) (fun h_bl => ?_))
  · refine V_if_eq (pc := 6) e_X3_add_6 (by decide) (by decide) (fun h => absurd h (by decide)) (fun _ => ?_)
    refine V_aload_n (pc := 9) e_X3_add_9 rfl (Or.inl ⟨_, rfl⟩) ?_
    refine Vk_getR (pc := 10) (q := 0) hB rfl (by decide) rfl fx_3_9 e_X3_add_10 rfl rfl (by decide) rfl ?_
    refine V_iload_n (pc := 13) e_X3_add_13 rfl ?_
    refine V_dup2 (pc := 14) e_X3_add_14 rfl rfl ?_
    refine Vk_ld (pc := 15) (n := 9) hB rfl (by decide) rfl (by decide) e_X3_add_15 (by omega) ?_
    refine V_iload_n (pc := 16) e_X3_add_16 rfl ?_
    refine V_iadd (pc := 17) e_X3_add_17 ?_
    refine Vk_st (pc := 18) (n := 9) hB rfl (by decide) rfl (by decide) e_X3_add_18 (by omega) ?_
    refine V_ret (pc := 19) (v := none) ⟨e_X3_add_19, rfl⟩ ?_
    first | exact k | (exfalso; omega)
  · refine V_if_eq (pc := 6) e_X3_add_6 (by decide) (by decide) (fun _ => ?_) (fun h => absurd (by decide) h)
    refine V_ret (pc := 19) (v := none) ⟨e_X3_add_19, rfl⟩ ?_
    first | exact k | (exfalso; omega)
theorem c_X1_isOn {σ : Sto} {b i : Nat} {c : Nat → Int → Int} {π : Int → Nat} {Q : Option Value → Sto → Prop} (hB : MB b) (hi : 7 ≤ i ∧ i ≤ 16) {s q : Int} (r_s : -2147483648 ≤ s ∧ s < 2147483648) (r_q : -2147483648 ≤ q ∧ q < 2147483648) (h3 : -3000000 ≤ c i 3 ∧ c i 3 ≤ 3000000) (h4 : -3000000 ≤ c i 4 ∧ c i 4 ≤ 3000000) (k1 : c i 3 = s ∧ c i 4 = q → Q (some (zI 1)) (kst b σ c π)) (k0 : ¬ (c i 3 = s ∧ c i 4 = q) → Q (some (zI 0)) (kst b σ c π)) : Con M_X1_isOn 144 144 (kst b σ c π) [.ref (b + i), zI s, zI q] Q := by
  refine V_entry ok_X1_isOn (Nat.le_refl _) (Nat.le_of_ble_eq_true rfl) (V_ls [(0, .ref (b + i)), (1, zI s), (2, zI q)] ⟨rfl, rfl, rfl, trivial⟩ ?_)
  refine V_aload_n (pc := 0) e_X1_isOn_0 rfl (Or.inl ⟨_, rfl⟩) ?_
  refine Vk_get (pc := 1) (q := 3) hB rfl (by omega) (shM_j (by omega) (by omega)) fx_1_18 e_X1_isOn_1 rfl rfl ?_
  refine V_iload_n (pc := 4) e_X1_isOn_4 rfl ?_
  refine V_icmp_ne (pc := 5) e_X1_isOn_5 (by decide) (by omega) (by omega) (fun h5 => ?_) (fun h5 => ?_)
  · refine V_iconst (pc := 20) e_X1_isOn_20 ?_
    refine V_ret (pc := 21) (v := some (zI _)) ⟨e_X1_isOn_21, _, rfl, by decide⟩ ?_
    first | exact k1 (by omega) | exact k0 (by omega)
  · refine V_aload_n (pc := 8) e_X1_isOn_8 rfl (Or.inl ⟨_, rfl⟩) ?_
    refine Vk_get (pc := 9) (q := 4) hB rfl (by omega) (shM_j (by omega) (by omega)) fx_1_21 e_X1_isOn_9 rfl rfl ?_
    refine V_iload_n (pc := 12) e_X1_isOn_12 rfl ?_
    refine V_icmp_ne (pc := 13) e_X1_isOn_13 (by decide) (by omega) (by omega) (fun h13 => ?_) (fun h13 => ?_)
    · refine V_iconst (pc := 20) e_X1_isOn_20 ?_
      refine V_ret (pc := 21) (v := some (zI _)) ⟨e_X1_isOn_21, _, rfl, by decide⟩ ?_
      first | exact k1 (by omega) | exact k0 (by omega)
    · refine V_iconst (pc := 16) e_X1_isOn_16 ?_
      refine V_goto (pc := 17) e_X1_isOn_17 (by decide) ?_
      refine V_ret (pc := 21) (v := some (zI _)) ⟨e_X1_isOn_21, _, rfl, by decide⟩ ?_
      first | exact k1 (by omega) | exact k0 (by omega)
theorem c_X1_hasSetToStaple {σ : Sto} {b i : Nat} {c : Nat → Int → Int} {π : Int → Nat} {Q : Option Value → Sto → Prop} (hB : MB b) (hi : 7 ≤ i ∧ i ≤ 16) {r : Int → Int} {p : Int} (hj : JR c i r p) (hJ : JB r p)  (k1 : hset r p → Q (some (zI 1)) (kst b σ c π)) (k0 : ¬ (hset r p) → Q (some (zI 0)) (kst b σ c π)) : Con M_X1_hasSetToStaple 144 144 (kst b σ c π) [.ref (b + i)] Q := by
  refine V_entry ok_X1_hasSetToStaple (Nat.le_refl _) (Nat.le_of_ble_eq_true rfl) (V_ls [(0, .ref (b + i))] ⟨rfl, trivial⟩ ?_)
  have jj := hJ
  unfold JB at jj
  have jr := hj
  unfold JR at jr
  have s := sst_rg hJ
  have al := als_rg hJ
  have dv := dv_rg (x := jf r p 8) (y := sst r p) (by omega) (by omega)
  have ee : c i 13 / c i 9 = jf r p 8 / sst r p := by rw [show c i 13 = jf r p 8 by omega, show c i 9 = sst r p by omega]
  refine V_aload_n (pc := 0) e_X1_hasSetToStaple_0 rfl (Or.inl ⟨_, rfl⟩) ?_
  refine Vk_get (pc := 1) (q := 8) hB rfl (by omega) (shM_j (by omega) (by omega)) fx_1_34 e_X1_hasSetToStaple_1 rfl rfl ?_
  refine V_if_le (pc := 4) e_X1_hasSetToStaple_4 (by decide) (by omega) (fun h4 => ?_) (fun h4 => ?_)
  · refine V_iconst (pc := 34) e_X1_hasSetToStaple_34 ?_
    refine V_ret (pc := 35) (v := some (zI _)) ⟨e_X1_hasSetToStaple_35, _, rfl, by decide⟩ ?_
    first | exact k1 (by omega) | exact k0 (by omega)
  · refine V_aload_n (pc := 7) e_X1_hasSetToStaple_7 rfl (Or.inl ⟨_, rfl⟩) ?_
    refine Vk_get (pc := 8) (q := 9) hB rfl (by omega) (shM_j (by omega) (by omega)) fx_1_37 e_X1_hasSetToStaple_8 rfl rfl ?_
    refine V_if_le (pc := 11) e_X1_hasSetToStaple_11 (by decide) (by omega) (fun h11 => ?_) (fun h11 => ?_)
    · refine V_iconst (pc := 34) e_X1_hasSetToStaple_34 ?_
      refine V_ret (pc := 35) (v := some (zI _)) ⟨e_X1_hasSetToStaple_35, _, rfl, by decide⟩ ?_
      first | exact k1 (by omega) | exact k0 (by omega)
    · refine V_aload_n (pc := 14) e_X1_hasSetToStaple_14 rfl (Or.inl ⟨_, rfl⟩) ?_
      refine Vk_get (pc := 15) (q := 14) hB rfl (by omega) (shM_j (by omega) (by omega)) fx_1_52 e_X1_hasSetToStaple_15 rfl rfl ?_
      refine V_aload_n (pc := 18) e_X1_hasSetToStaple_18 rfl (Or.inl ⟨_, rfl⟩) ?_
      refine Vk_get (pc := 19) (q := 13) hB rfl (by omega) (shM_j (by omega) (by omega)) fx_1_49 e_X1_hasSetToStaple_19 rfl rfl ?_
      refine V_aload_n (pc := 22) e_X1_hasSetToStaple_22 rfl (Or.inl ⟨_, rfl⟩) ?_
      refine Vk_get (pc := 23) (q := 9) hB rfl (by omega) (shM_j (by omega) (by omega)) fx_1_37 e_X1_hasSetToStaple_23 rfl rfl ?_
      refine V_idiv (pc := 26) e_X1_hasSetToStaple_26 (by omega) (by omega) ?_
      refine V_icmp_ge (pc := 27) e_X1_hasSetToStaple_27 (by decide) (by omega) (by omega) (fun h27 => ?_) (fun h27 => ?_)
      · refine V_iconst (pc := 34) e_X1_hasSetToStaple_34 ?_
        refine V_ret (pc := 35) (v := some (zI _)) ⟨e_X1_hasSetToStaple_35, _, rfl, by decide⟩ ?_
        first | exact k1 (by omega) | exact k0 (by omega)
      · refine V_iconst (pc := 30) e_X1_hasSetToStaple_30 ?_
        refine V_goto (pc := 31) e_X1_hasSetToStaple_31 (by decide) ?_
        refine V_ret (pc := 35) (v := some (zI _)) ⟨e_X1_hasSetToStaple_35, _, rfl, by decide⟩ ?_
        first | exact k1 (by omega) | exact k0 (by omega)
theorem c_X1_isFinished {σ : Sto} {b i : Nat} {c : Nat → Int → Int} {π : Int → Nat} {Q : Option Value → Sto → Prop} (hB : MB b) (hi : 7 ≤ i ∧ i ≤ 16) {r : Int → Int} {p : Int} (hj : JR c i r p) (hJ : JB r p) (h8 : jf r p 8 ≤ als r p) (h9 : jf r p 9 ≤ jf r p 2) (k1 : donF r p → Q (some (zI 1)) (kst b σ c π)) (k0 : ¬ (donF r p) → Q (some (zI 0)) (kst b σ c π)) : Con M_X1_isFinished 144 144 (kst b σ c π) [.ref (b + i)] Q := by
  refine V_entry ok_X1_isFinished (Nat.le_refl _) (Nat.le_of_ble_eq_true rfl) (V_ls [(0, .ref (b + i))] ⟨rfl, trivial⟩ ?_)
  have jj := hJ
  unfold JB at jj
  have jr := hj
  unfold JR at jr
  have s := sst_rg hJ
  have al := als_rg hJ
  refine V_aload_n (pc := 0) e_X1_isFinished_0 rfl (Or.inl ⟨_, rfl⟩) ?_
  refine Vk_get (pc := 1) (q := 13) hB rfl (by omega) (shM_j (by omega) (by omega)) fx_1_49 e_X1_isFinished_1 rfl rfl ?_
  refine V_aload_n (pc := 4) e_X1_isFinished_4 rfl (Or.inl ⟨_, rfl⟩) ?_
  refine Vk_get (pc := 5) (q := 10) hB rfl (by omega) (shM_j (by omega) (by omega)) fx_1_40 e_X1_isFinished_5 rfl rfl ?_
  refine V_icmp_lt (pc := 8) e_X1_isFinished_8 (by decide) (by omega) (by omega) (fun h8 => ?_) (fun h8 => ?_)
  · refine V_iconst (pc := 33) e_X1_isFinished_33 ?_
    refine V_ret (pc := 34) (v := some (zI _)) ⟨e_X1_isFinished_34, _, rfl, by decide⟩ ?_
    first | exact k1 (by omega) | exact k0 (by omega)
  · refine V_aload_n (pc := 11) e_X1_isFinished_11 rfl (Or.inl ⟨_, rfl⟩) ?_
    refine Vk_get (pc := 12) (q := 8) hB rfl (by omega) (shM_j (by omega) (by omega)) fx_1_34 e_X1_isFinished_12 rfl rfl ?_
    refine V_if_eq (pc := 15) e_X1_isFinished_15 (by decide) (by omega) (fun h15 => ?_) (fun h15 => ?_)
    · refine V_iconst (pc := 29) e_X1_isFinished_29 ?_
      refine V_goto (pc := 30) e_X1_isFinished_30 (by decide) ?_
      refine V_ret (pc := 34) (v := some (zI _)) ⟨e_X1_isFinished_34, _, rfl, by decide⟩ ?_
      first | exact k1 (by omega) | exact k0 (by omega)
    · refine V_aload_n (pc := 18) e_X1_isFinished_18 rfl (Or.inl ⟨_, rfl⟩) ?_
      refine Vk_get (pc := 19) (q := 14) hB rfl (by omega) (shM_j (by omega) (by omega)) fx_1_52 e_X1_isFinished_19 rfl rfl ?_
      refine V_aload_n (pc := 22) e_X1_isFinished_22 rfl (Or.inl ⟨_, rfl⟩) ?_
      refine Vk_get (pc := 23) (q := 2) hB rfl (by omega) (shM_j (by omega) (by omega)) fx_1_15 e_X1_isFinished_23 rfl rfl ?_
      refine V_icmp_lt (pc := 26) e_X1_isFinished_26 (by decide) (by omega) (by omega) (fun h26 => ?_) (fun h26 => ?_)
      · refine V_iconst (pc := 33) e_X1_isFinished_33 ?_
        refine V_ret (pc := 34) (v := some (zI _)) ⟨e_X1_isFinished_34, _, rfl, by decide⟩ ?_
        first | exact k1 (by omega) | exact k0 (by omega)
      · refine V_iconst (pc := 29) e_X1_isFinished_29 ?_
        refine V_goto (pc := 30) e_X1_isFinished_30 (by decide) ?_
        refine V_ret (pc := 34) (v := some (zI _)) ⟨e_X1_isFinished_34, _, rfl, by decide⟩ ?_
        first | exact k1 (by omega) | exact k0 (by omega)
theorem c_X1_nextSheet {σ : Sto} {b i : Nat} {c : Nat → Int → Int} {π : Int → Nat} {Q : Option Value → Sto → Prop} (hB : MB b) (hi : 7 ≤ i ∧ i ≤ 16) {r : Int → Int} {p : Int} (hj : JR c i r p) (hJ : JB r p) (h8 : jf r p 8 ≤ als r p) (k : Q (some (zI (if jf r p 8 = als r p then -4 else nsh r p))) (kst b σ c π)) : Con M_X1_nextSheet 144 144 (kst b σ c π) [.ref (b + i)] Q := by
  refine V_entry ok_X1_nextSheet (Nat.le_refl _) (Nat.le_of_ble_eq_true rfl) (V_ls [(0, .ref (b + i))] ⟨rfl, trivial⟩ ?_)
  have jj := hJ
  unfold JB at jj
  have jr := hj
  unfold JR at jr
  have s := sst_rg hJ
  have al := als_rg hJ
  have dv := dv_rg (x := jf r p 8) (y := sst r p) (by omega) (by omega)
  have du := dv_rg (x := jf r p 8) (y := jf r p 2) (by omega) (by omega)
  have ea : c i 13 / c i 9 = jf r p 8 / sst r p := by rw [show c i 13 = jf r p 8 by omega, show c i 9 = sst r p by omega]
  have eb : c i 13 % c i 9 = jf r p 8 % sst r p := by rw [show c i 13 = jf r p 8 by omega, show c i 9 = sst r p by omega]
  have ec : c i 13 / c i 2 = jf r p 8 / jf r p 2 := by rw [show c i 13 = jf r p 8 by omega, show c i 2 = jf r p 2 by omega]
  have ed : c i 13 % c i 2 = jf r p 8 % jf r p 2 := by rw [show c i 13 = jf r p 8 by omega, show c i 2 = jf r p 2 by omega]
  refine V_aload_n (pc := 0) e_X1_nextSheet_0 rfl (Or.inl ⟨_, rfl⟩) ?_
  refine Vk_get (pc := 1) (q := 13) hB rfl (by omega) (shM_j (by omega) (by omega)) fx_1_49 e_X1_nextSheet_1 rfl rfl ?_
  refine V_aload_n (pc := 4) e_X1_nextSheet_4 rfl (Or.inl ⟨_, rfl⟩) ?_
  refine Vk_get (pc := 5) (q := 10) hB rfl (by omega) (shM_j (by omega) (by omega)) fx_1_40 e_X1_nextSheet_5 rfl rfl ?_
  refine V_icmp_ge (pc := 8) e_X1_nextSheet_8 (by decide) (by omega) (by omega) (fun h8 => ?_) (fun h8 => ?_)
  · refine V_bipush (pc := 27) (by decide) e_X1_nextSheet_27 ?_
    refine V_ret (pc := 29) (v := some (zI _)) ⟨e_X1_nextSheet_29, _, rfl, rfl⟩ ?_
    exact Qv k (by unfold nsh; (repeat' split) <;> omega) rfl
  · refine V_aload_n (pc := 11) e_X1_nextSheet_11 rfl (Or.inl ⟨_, rfl⟩) ?_
    refine Vk_get (pc := 12) (q := 9) hB rfl (by omega) (shM_j (by omega) (by omega)) fx_1_37 e_X1_nextSheet_12 rfl rfl ?_
    refine V_iconst (pc := 15) e_X1_nextSheet_15 ?_
    refine V_icmp_lt (pc := 16) e_X1_nextSheet_16 (by decide) (by omega) (by decide) (fun h16 => ?_) (fun h16 => ?_)
    · refine V_bipush (pc := 27) (by decide) e_X1_nextSheet_27 ?_
      refine V_ret (pc := 29) (v := some (zI _)) ⟨e_X1_nextSheet_29, _, rfl, rfl⟩ ?_
      exact Qv k (by unfold nsh; (repeat' split) <;> omega) rfl
    · refine V_aload_n (pc := 19) e_X1_nextSheet_19 rfl (Or.inl ⟨_, rfl⟩) ?_
      refine Vk_get (pc := 20) (q := 2) hB rfl (by omega) (shM_j (by omega) (by omega)) fx_1_15 e_X1_nextSheet_20 rfl rfl ?_
      refine V_iconst (pc := 23) e_X1_nextSheet_23 ?_
      refine V_icmp_ge (pc := 24) e_X1_nextSheet_24 (by decide) (by omega) (by decide) (fun h24 => ?_) (fun h24 => ?_)
      · refine V_aload_n (pc := 30) e_X1_nextSheet_30 rfl (Or.inl ⟨_, rfl⟩) ?_
        refine Vk_get (pc := 31) (q := 7) hB rfl (by omega) (shM_j (by omega) (by omega)) fx_1_31 e_X1_nextSheet_31 rfl rfl ?_
        refine V_if_eq (pc := 34) e_X1_nextSheet_34 (by decide) (by omega) (fun h34 => ?_) (fun h34 => ?_)
        · refine V_aload_n (pc := 49) e_X1_nextSheet_49 rfl (Or.inl ⟨_, rfl⟩) ?_
          refine Vk_get (pc := 50) (q := 13) hB rfl (by omega) (shM_j (by omega) (by omega)) fx_1_49 e_X1_nextSheet_50 rfl rfl ?_
          refine V_aload_n (pc := 53) e_X1_nextSheet_53 rfl (Or.inl ⟨_, rfl⟩) ?_
          refine Vk_get (pc := 54) (q := 2) hB rfl (by omega) (shM_j (by omega) (by omega)) fx_1_15 e_X1_nextSheet_54 rfl rfl ?_
          refine V_idiv (pc := 57) e_X1_nextSheet_57 (by omega) (by omega) ?_
          refine V_ret (pc := 58) (v := some (zI _)) ⟨e_X1_nextSheet_58, _, rfl, rfl⟩ ?_
          exact Qv k (by unfold nsh; (repeat' split) <;> omega) rfl
        · refine V_aload_n (pc := 37) e_X1_nextSheet_37 rfl (Or.inl ⟨_, rfl⟩) ?_
          refine Vk_get (pc := 38) (q := 13) hB rfl (by omega) (shM_j (by omega) (by omega)) fx_1_49 e_X1_nextSheet_38 rfl rfl ?_
          refine V_aload_n (pc := 41) e_X1_nextSheet_41 rfl (Or.inl ⟨_, rfl⟩) ?_
          refine Vk_get (pc := 42) (q := 9) hB rfl (by omega) (shM_j (by omega) (by omega)) fx_1_37 e_X1_nextSheet_42 rfl rfl ?_
          refine V_irem (pc := 45) e_X1_nextSheet_45 (by omega) (by omega) ?_
          refine V_goto (pc := 46) e_X1_nextSheet_46 (by decide) ?_
          refine V_ret (pc := 58) (v := some (zI _)) ⟨e_X1_nextSheet_58, _, rfl, rfl⟩ ?_
          exact Qv k (by unfold nsh; (repeat' split) <;> omega) rfl
      · refine V_bipush (pc := 27) (by decide) e_X1_nextSheet_27 ?_
        refine V_ret (pc := 29) (v := some (zI _)) ⟨e_X1_nextSheet_29, _, rfl, rfl⟩ ?_
        exact Qv k (by unfold nsh; (repeat' split) <;> omega) rfl
theorem c_X1_nextCopy {σ : Sto} {b i : Nat} {c : Nat → Int → Int} {π : Int → Nat} {Q : Option Value → Sto → Prop} (hB : MB b) (hi : 7 ≤ i ∧ i ≤ 16) {r : Int → Int} {p : Int} (hj : JR c i r p) (hJ : JB r p) (h8 : jf r p 8 ≤ als r p) (k : Q (some (zI (if jf r p 8 = als r p then -4 else ncp r p))) (kst b σ c π)) : Con M_X1_nextCopy 144 144 (kst b σ c π) [.ref (b + i)] Q := by
  refine V_entry ok_X1_nextCopy (Nat.le_refl _) (Nat.le_of_ble_eq_true rfl) (V_ls [(0, .ref (b + i))] ⟨rfl, trivial⟩ ?_)
  have jj := hJ
  unfold JB at jj
  have jr := hj
  unfold JR at jr
  have s := sst_rg hJ
  have al := als_rg hJ
  have dv := dv_rg (x := jf r p 8) (y := sst r p) (by omega) (by omega)
  have du := dv_rg (x := jf r p 8) (y := jf r p 2) (by omega) (by omega)
  have ea : c i 13 / c i 9 = jf r p 8 / sst r p := by rw [show c i 13 = jf r p 8 by omega, show c i 9 = sst r p by omega]
  have eb : c i 13 % c i 9 = jf r p 8 % sst r p := by rw [show c i 13 = jf r p 8 by omega, show c i 9 = sst r p by omega]
  have ec : c i 13 / c i 2 = jf r p 8 / jf r p 2 := by rw [show c i 13 = jf r p 8 by omega, show c i 2 = jf r p 2 by omega]
  have ed : c i 13 % c i 2 = jf r p 8 % jf r p 2 := by rw [show c i 13 = jf r p 8 by omega, show c i 2 = jf r p 2 by omega]
  refine V_aload_n (pc := 0) e_X1_nextCopy_0 rfl (Or.inl ⟨_, rfl⟩) ?_
  refine Vk_get (pc := 1) (q := 13) hB rfl (by omega) (shM_j (by omega) (by omega)) fx_1_49 e_X1_nextCopy_1 rfl rfl ?_
  refine V_aload_n (pc := 4) e_X1_nextCopy_4 rfl (Or.inl ⟨_, rfl⟩) ?_
  refine Vk_get (pc := 5) (q := 10) hB rfl (by omega) (shM_j (by omega) (by omega)) fx_1_40 e_X1_nextCopy_5 rfl rfl ?_
  refine V_icmp_ge (pc := 8) e_X1_nextCopy_8 (by decide) (by omega) (by omega) (fun h8 => ?_) (fun h8 => ?_)
  · refine V_bipush (pc := 27) (by decide) e_X1_nextCopy_27 ?_
    refine V_ret (pc := 29) (v := some (zI _)) ⟨e_X1_nextCopy_29, _, rfl, rfl⟩ ?_
    exact Qv k (by unfold ncp; (repeat' split) <;> omega) rfl
  · refine V_aload_n (pc := 11) e_X1_nextCopy_11 rfl (Or.inl ⟨_, rfl⟩) ?_
    refine Vk_get (pc := 12) (q := 9) hB rfl (by omega) (shM_j (by omega) (by omega)) fx_1_37 e_X1_nextCopy_12 rfl rfl ?_
    refine V_iconst (pc := 15) e_X1_nextCopy_15 ?_
    refine V_icmp_lt (pc := 16) e_X1_nextCopy_16 (by decide) (by omega) (by decide) (fun h16 => ?_) (fun h16 => ?_)
    · refine V_bipush (pc := 27) (by decide) e_X1_nextCopy_27 ?_
      refine V_ret (pc := 29) (v := some (zI _)) ⟨e_X1_nextCopy_29, _, rfl, rfl⟩ ?_
      exact Qv k (by unfold ncp; (repeat' split) <;> omega) rfl
    · refine V_aload_n (pc := 19) e_X1_nextCopy_19 rfl (Or.inl ⟨_, rfl⟩) ?_
      refine Vk_get (pc := 20) (q := 2) hB rfl (by omega) (shM_j (by omega) (by omega)) fx_1_15 e_X1_nextCopy_20 rfl rfl ?_
      refine V_iconst (pc := 23) e_X1_nextCopy_23 ?_
      refine V_icmp_ge (pc := 24) e_X1_nextCopy_24 (by decide) (by omega) (by decide) (fun h24 => ?_) (fun h24 => ?_)
      · refine V_aload_n (pc := 30) e_X1_nextCopy_30 rfl (Or.inl ⟨_, rfl⟩) ?_
        refine Vk_get (pc := 31) (q := 7) hB rfl (by omega) (shM_j (by omega) (by omega)) fx_1_31 e_X1_nextCopy_31 rfl rfl ?_
        refine V_if_eq (pc := 34) e_X1_nextCopy_34 (by decide) (by omega) (fun h34 => ?_) (fun h34 => ?_)
        · refine V_aload_n (pc := 49) e_X1_nextCopy_49 rfl (Or.inl ⟨_, rfl⟩) ?_
          refine Vk_get (pc := 50) (q := 13) hB rfl (by omega) (shM_j (by omega) (by omega)) fx_1_49 e_X1_nextCopy_50 rfl rfl ?_
          refine V_aload_n (pc := 53) e_X1_nextCopy_53 rfl (Or.inl ⟨_, rfl⟩) ?_
          refine Vk_get (pc := 54) (q := 2) hB rfl (by omega) (shM_j (by omega) (by omega)) fx_1_15 e_X1_nextCopy_54 rfl rfl ?_
          refine V_irem (pc := 57) e_X1_nextCopy_57 (by omega) (by omega) ?_
          refine V_ret (pc := 58) (v := some (zI _)) ⟨e_X1_nextCopy_58, _, rfl, rfl⟩ ?_
          exact Qv k (by unfold ncp; (repeat' split) <;> omega) rfl
        · refine V_aload_n (pc := 37) e_X1_nextCopy_37 rfl (Or.inl ⟨_, rfl⟩) ?_
          refine Vk_get (pc := 38) (q := 13) hB rfl (by omega) (shM_j (by omega) (by omega)) fx_1_49 e_X1_nextCopy_38 rfl rfl ?_
          refine V_aload_n (pc := 41) e_X1_nextCopy_41 rfl (Or.inl ⟨_, rfl⟩) ?_
          refine Vk_get (pc := 42) (q := 9) hB rfl (by omega) (shM_j (by omega) (by omega)) fx_1_37 e_X1_nextCopy_42 rfl rfl ?_
          refine V_idiv (pc := 45) e_X1_nextCopy_45 (by omega) (by omega) ?_
          refine V_goto (pc := 46) e_X1_nextCopy_46 (by decide) ?_
          refine V_ret (pc := 58) (v := some (zI _)) ⟨e_X1_nextCopy_58, _, rfl, rfl⟩ ?_
          exact Qv k (by unfold ncp; (repeat' split) <;> omega) rfl
      · refine V_bipush (pc := 27) (by decide) e_X1_nextCopy_27 ?_
        refine V_ret (pc := 29) (v := some (zI _)) ⟨e_X1_nextCopy_29, _, rfl, rfl⟩ ?_
        exact Qv k (by unfold ncp; (repeat' split) <;> omega) rfl
theorem c_X1_sidesOfNextSheet {σ : Sto} {b i : Nat} {c : Nat → Int → Int} {π : Int → Nat} {Q : Option Value → Sto → Prop} (hB : MB b) (hi : 7 ≤ i ∧ i ≤ 16) {r : Int → Int} {p : Int} (hj : JR c i r p) (hJ : JB r p) (h8 : jf r p 8 < als r p) (hn : nsh r p < sst r p) (k : Q (some (zI (sid r p))) (kst b σ c π)) : Con M_X1_sidesOfNextSheet 144 144 (kst b σ c π) [.ref (b + i)] Q := by
  refine V_entry ok_X1_sidesOfNextSheet (Nat.le_refl _) (Nat.le_of_ble_eq_true rfl) (V_ls [(0, .ref (b + i))] ⟨rfl, trivial⟩ ?_)
  have jj := hJ
  unfold JB at jj
  have jr := hj
  unfold JR at jr
  have s := sst_rg hJ
  have al := als_rg hJ
  have ns := nsh_rg hJ
  have ei : (if jf r p 8 = als r p then -4 else nsh r p) = nsh r p := if_neg (by omega)
  refine V_aload_n (pc := 0) e_X1_sidesOfNextSheet_0 rfl (Or.inl ⟨_, rfl⟩) ?_
  refine V_cV0 (pc := 1) ca_1_62 e_X1_sidesOfNextSheet_1 (by decide) (Nat.le_of_ble_eq_true rfl) (kb_lt hB (by omega)) ((shB hB (by omega)).trans (shM_j (by omega) (by omega))) (by decide) (c_X1_nextSheet hB hi hj hJ (by omega) ?_)
  rw [ei]
  refine V_aload_n (pc := 4) e_X1_sidesOfNextSheet_4 rfl (Or.inl ⟨_, rfl⟩) ?_
  refine Vk_get (pc := 5) (q := 9) hB rfl (by omega) (shM_j (by omega) (by omega)) fx_1_37 e_X1_sidesOfNextSheet_5 rfl rfl ?_
  refine V_iconst (pc := 8) e_X1_sidesOfNextSheet_8 ?_
  refine V_isub (pc := 9) e_X1_sidesOfNextSheet_9 ?_
  refine V_icmp_ne (pc := 10) e_X1_sidesOfNextSheet_10 (by decide) (by omega) (by omega) (fun h10 => ?_) (fun h10 => ?_)
  · refine V_iconst (pc := 17) e_X1_sidesOfNextSheet_17 ?_
    refine V_istore_n (pc := 18) e_X1_sidesOfNextSheet_18 (by decide) ?_
    refine V_aload_n (pc := 19) e_X1_sidesOfNextSheet_19 rfl (Or.inl ⟨_, rfl⟩) ?_
    refine Vk_get (pc := 20) (q := 6) hB rfl (by omega) (shM_j (by omega) (by omega)) fx_1_27 e_X1_sidesOfNextSheet_20 rfl rfl ?_
    refine V_if_eq (pc := 23) e_X1_sidesOfNextSheet_23 (by decide) (by omega) (fun h23 => ?_) (fun h23 => ?_)
    · refine V_iconst (pc := 43) e_X1_sidesOfNextSheet_43 ?_
      refine V_ret (pc := 44) (v := some (zI _)) ⟨e_X1_sidesOfNextSheet_44, _, rfl, rfl⟩ ?_
      exact Qv k (by unfold sid; split <;> omega) rfl
    · refine V_iload_n (pc := 26) e_X1_sidesOfNextSheet_26 rfl ?_
      refine V_if_eq (pc := 27) e_X1_sidesOfNextSheet_27 (by decide) (by decide) (fun _ => ?_) (fun h => absurd (by decide) h)
      refine V_iconst (pc := 39) e_X1_sidesOfNextSheet_39 ?_
      refine V_goto (pc := 40) e_X1_sidesOfNextSheet_40 (by decide) ?_
      refine V_ret (pc := 44) (v := some (zI _)) ⟨e_X1_sidesOfNextSheet_44, _, rfl, rfl⟩ ?_
      exact Qv k (by unfold sid; split <;> omega) rfl
  · refine V_iconst (pc := 13) e_X1_sidesOfNextSheet_13 ?_
    refine V_goto (pc := 14) e_X1_sidesOfNextSheet_14 (by decide) ?_
    refine V_istore_n (pc := 18) e_X1_sidesOfNextSheet_18 (by decide) ?_
    refine V_aload_n (pc := 19) e_X1_sidesOfNextSheet_19 rfl (Or.inl ⟨_, rfl⟩) ?_
    refine Vk_get (pc := 20) (q := 6) hB rfl (by omega) (shM_j (by omega) (by omega)) fx_1_27 e_X1_sidesOfNextSheet_20 rfl rfl ?_
    refine V_if_eq (pc := 23) e_X1_sidesOfNextSheet_23 (by decide) (by omega) (fun h23 => ?_) (fun h23 => ?_)
    · refine V_iconst (pc := 43) e_X1_sidesOfNextSheet_43 ?_
      refine V_ret (pc := 44) (v := some (zI _)) ⟨e_X1_sidesOfNextSheet_44, _, rfl, rfl⟩ ?_
      exact Qv k (by unfold sid; split <;> omega) rfl
    · refine V_iload_n (pc := 26) e_X1_sidesOfNextSheet_26 rfl ?_
      refine V_if_eq (pc := 27) e_X1_sidesOfNextSheet_27 (by decide) (by decide) (fun h => absurd h (by decide)) (fun _ => ?_)
      refine V_aload_n (pc := 30) e_X1_sidesOfNextSheet_30 rfl (Or.inl ⟨_, rfl⟩) ?_
      refine Vk_get (pc := 31) (q := 1) hB rfl (by omega) (shM_j (by omega) (by omega)) fx_1_9 e_X1_sidesOfNextSheet_31 rfl rfl ?_
      refine V_iconst (pc := 34) e_X1_sidesOfNextSheet_34 ?_
      refine V_irem (pc := 35) e_X1_sidesOfNextSheet_35 (by omega) (by decide) ?_
      refine V_if_ne (pc := 36) e_X1_sidesOfNextSheet_36 (by decide) (by omega) (fun h36 => ?_) (fun h36 => ?_)
      · refine V_iconst (pc := 43) e_X1_sidesOfNextSheet_43 ?_
        refine V_ret (pc := 44) (v := some (zI _)) ⟨e_X1_sidesOfNextSheet_44, _, rfl, rfl⟩ ?_
        exact Qv k (by unfold sid; split <;> omega) rfl
      · refine V_iconst (pc := 39) e_X1_sidesOfNextSheet_39 ?_
        refine V_goto (pc := 40) e_X1_sidesOfNextSheet_40 (by decide) ?_
        refine V_ret (pc := 44) (v := some (zI _)) ⟨e_X1_sidesOfNextSheet_44, _, rfl, rfl⟩ ?_
        exact Qv k (by unfold sid; split <;> omega) rfl
theorem c_X1_property {σ : Sto} {b i : Nat} {c : Nat → Int → Int} {π : Int → Nat} {Q : Option Value → Sto → Prop} (hB : MB b) (hi : 7 ≤ i ∧ i ≤ 16) {r : Int → Int} {p : Int} (hj : JR c i r p) (hJ : JB r p) {w : Int} (h8 : jf r p 8 ≤ als r p) (hw : 0 ≤ w ∧ w ≤ 12) (k : Q (some (zI (telF r p w))) (kst b σ c π)) : Con M_X1_property 144 144 (kst b σ c π) [.ref (b + i), zI w] Q := by
  refine V_entry ok_X1_property (Nat.le_refl _) (Nat.le_of_ble_eq_true rfl) (V_ls [(0, .ref (b + i)), (1, zI w)] ⟨rfl, rfl, trivial⟩ ?_)
  have jj := hJ
  unfold JB at jj
  have jr := hj
  unfold JR at jr
  have s := sst_rg hJ
  have al := als_rg hJ
  refine V_iload_n (pc := 0) e_X1_property_0 rfl ?_
  refine V_table (pc := 1) e_X1_property_1 (by decide) (by decide) (by decide) (by omega) (fun h1 => ?_) (fun j o h1 ho => ?_)
  · refine V_aload_n (pc := 132) e_X1_property_132 rfl (Or.inl ⟨_, rfl⟩) ?_
    refine V_cV0 (pc := 133) ca_1_66 e_X1_property_133 (by decide) (Nat.le_of_ble_eq_true rfl) (kb_lt hB (by omega)) ((shB hB (by omega)).trans (shM_j (by omega) (by omega))) (by decide) (c_X1_nextCopy hB hi hj hJ (by omega) ?_)
    refine V_ret (pc := 136) (v := some (zI _)) ⟨e_X1_property_136, _, rfl, rfl⟩ ?_
    obtain rfl : w = 12 := by omega
    exact Qv k rfl rfl
  · match j, ho with
    | 0, ho =>
      obtain rfl := Option.some.inj ho
      refine V_aload_n (pc := 64) e_X1_property_64 rfl (Or.inl ⟨_, rfl⟩) ?_
      refine Vk_get (pc := 65) (q := 1) hB rfl (by omega) (shM_j (by omega) (by omega)) fx_1_9 e_X1_property_65 rfl rfl ?_
      refine V_ret (pc := 68) (v := some (zI _)) ⟨e_X1_property_68, _, rfl, rfl⟩ ?_
      obtain rfl : w = 0 := by omega
      exact Qv k (show jf r p 1 = _ by omega) rfl
    | 1, ho =>
      obtain rfl := Option.some.inj ho
      refine V_aload_n (pc := 69) e_X1_property_69 rfl (Or.inl ⟨_, rfl⟩) ?_
      refine Vk_get (pc := 70) (q := 2) hB rfl (by omega) (shM_j (by omega) (by omega)) fx_1_15 e_X1_property_70 rfl rfl ?_
      refine V_ret (pc := 73) (v := some (zI _)) ⟨e_X1_property_73, _, rfl, rfl⟩ ?_
      obtain rfl : w = 1 := by omega
      exact Qv k (show jf r p 2 = _ by omega) rfl
    | 2, ho =>
      obtain rfl := Option.some.inj ho
      refine V_aload_n (pc := 74) e_X1_property_74 rfl (Or.inl ⟨_, rfl⟩) ?_
      refine Vk_get (pc := 75) (q := 3) hB rfl (by omega) (shM_j (by omega) (by omega)) fx_1_18 e_X1_property_75 rfl rfl ?_
      refine V_ret (pc := 78) (v := some (zI _)) ⟨e_X1_property_78, _, rfl, rfl⟩ ?_
      obtain rfl : w = 2 := by omega
      exact Qv k (show jf r p 3 = _ by omega) rfl
    | 3, ho =>
      obtain rfl := Option.some.inj ho
      refine V_aload_n (pc := 79) e_X1_property_79 rfl (Or.inl ⟨_, rfl⟩) ?_
      refine Vk_get (pc := 80) (q := 4) hB rfl (by omega) (shM_j (by omega) (by omega)) fx_1_21 e_X1_property_80 rfl rfl ?_
      refine V_ret (pc := 83) (v := some (zI _)) ⟨e_X1_property_83, _, rfl, rfl⟩ ?_
      obtain rfl : w = 3 := by omega
      exact Qv k (show jf r p 4 = _ by omega) rfl
    | 4, ho =>
      obtain rfl := Option.some.inj ho
      refine V_aload_n (pc := 84) e_X1_property_84 rfl (Or.inl ⟨_, rfl⟩) ?_
      refine Vk_get (pc := 85) (q := 5) hB rfl (by omega) (shM_j (by omega) (by omega)) fx_1_24 e_X1_property_85 rfl rfl ?_
      refine V_ret (pc := 88) (v := some (zI _)) ⟨e_X1_property_88, _, rfl, rfl⟩ ?_
      obtain rfl : w = 4 := by omega
      exact Qv k (show jf r p 5 = _ by omega) rfl
    | 5, ho =>
      obtain rfl := Option.some.inj ho
      refine V_aload_n (pc := 89) e_X1_property_89 rfl (Or.inl ⟨_, rfl⟩) ?_
      refine Vk_get (pc := 90) (q := 11) hB rfl (by omega) (shM_j (by omega) (by omega)) fx_1_43 e_X1_property_90 rfl rfl ?_
      refine V_ret (pc := 93) (v := some (zI _)) ⟨e_X1_property_93, _, rfl, rfl⟩ ?_
      obtain rfl : w = 5 := by omega
      exact Qv k (show jf r p 6 = _ by omega) rfl
    | 6, ho =>
      obtain rfl := Option.some.inj ho
      refine V_aload_n (pc := 94) e_X1_property_94 rfl (Or.inl ⟨_, rfl⟩) ?_
      refine Vk_get (pc := 95) (q := 12) hB rfl (by omega) (shM_j (by omega) (by omega)) fx_1_46 e_X1_property_95 rfl rfl ?_
      refine V_if_eq (pc := 98) e_X1_property_98 (by decide) (by omega) (fun h98 => ?_) (fun h98 => ?_)
      · refine V_iconst (pc := 105) e_X1_property_105 ?_
        refine V_ret (pc := 106) (v := some (zI _)) ⟨e_X1_property_106, _, rfl, rfl⟩ ?_
        obtain rfl : w = 6 := by omega
        exact Qv k (show jf r p 7 = _ by omega) rfl
      · refine V_iconst (pc := 101) e_X1_property_101 ?_
        refine V_goto (pc := 102) e_X1_property_102 (by decide) ?_
        refine V_ret (pc := 106) (v := some (zI _)) ⟨e_X1_property_106, _, rfl, rfl⟩ ?_
        obtain rfl : w = 6 := by omega
        exact Qv k (show jf r p 7 = _ by omega) rfl
    | 7, ho =>
      obtain rfl := Option.some.inj ho
      refine V_aload_n (pc := 107) e_X1_property_107 rfl (Or.inl ⟨_, rfl⟩) ?_
      refine Vk_get (pc := 108) (q := 9) hB rfl (by omega) (shM_j (by omega) (by omega)) fx_1_37 e_X1_property_108 rfl rfl ?_
      refine V_ret (pc := 111) (v := some (zI _)) ⟨e_X1_property_111, _, rfl, rfl⟩ ?_
      obtain rfl : w = 7 := by omega
      exact Qv k (show sst r p = _ by omega) rfl
    | 8, ho =>
      obtain rfl := Option.some.inj ho
      refine V_aload_n (pc := 112) e_X1_property_112 rfl (Or.inl ⟨_, rfl⟩) ?_
      refine Vk_get (pc := 113) (q := 10) hB rfl (by omega) (shM_j (by omega) (by omega)) fx_1_40 e_X1_property_113 rfl rfl ?_
      refine V_ret (pc := 116) (v := some (zI _)) ⟨e_X1_property_116, _, rfl, rfl⟩ ?_
      obtain rfl : w = 8 := by omega
      exact Qv k (show als r p = _ by omega) rfl
    | 9, ho =>
      obtain rfl := Option.some.inj ho
      refine V_aload_n (pc := 117) e_X1_property_117 rfl (Or.inl ⟨_, rfl⟩) ?_
      refine Vk_get (pc := 118) (q := 13) hB rfl (by omega) (shM_j (by omega) (by omega)) fx_1_49 e_X1_property_118 rfl rfl ?_
      refine V_ret (pc := 121) (v := some (zI _)) ⟨e_X1_property_121, _, rfl, rfl⟩ ?_
      obtain rfl : w = 9 := by omega
      exact Qv k (show jf r p 8 = _ by omega) rfl
    | 10, ho =>
      obtain rfl := Option.some.inj ho
      refine V_aload_n (pc := 122) e_X1_property_122 rfl (Or.inl ⟨_, rfl⟩) ?_
      refine Vk_get (pc := 123) (q := 14) hB rfl (by omega) (shM_j (by omega) (by omega)) fx_1_52 e_X1_property_123 rfl rfl ?_
      refine V_ret (pc := 126) (v := some (zI _)) ⟨e_X1_property_126, _, rfl, rfl⟩ ?_
      obtain rfl : w = 10 := by omega
      exact Qv k (show jf r p 9 = _ by omega) rfl
    | 11, ho =>
      obtain rfl := Option.some.inj ho
      refine V_aload_n (pc := 127) e_X1_property_127 rfl (Or.inl ⟨_, rfl⟩) ?_
      refine V_cV0 (pc := 128) ca_1_62 e_X1_property_128 (by decide) (Nat.le_of_ble_eq_true rfl) (kb_lt hB (by omega)) ((shB hB (by omega)).trans (shM_j (by omega) (by omega))) (by decide) (c_X1_nextSheet hB hi hj hJ (by omega) ?_)
      refine V_ret (pc := 131) (v := some (zI _)) ⟨e_X1_property_131, _, rfl, rfl⟩ ?_
      obtain rfl : w = 11 := by omega
      exact Qv k rfl rfl
    | j + 12, ho => exact absurd ho (by simp)
