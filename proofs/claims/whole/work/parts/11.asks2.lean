/-! the model's questions, the rest -/
theorem shA_rg {r : Int → Int} (hR : RB r) (s q : Int) : ∀ n : Nat, n ≤ 4 → -3000000 * (n : Int) ≤ shA r s q n ∧ shA r s q n ≤ 3000000 * (n : Int)
  | 0, _ => ⟨by unfold shA; omega, by unfold shA; omega⟩
  | n + 1, h => by
    have i := shA_rg hR s q n (by omega)
    have e := hR (25 + 3 * (n : Int) + 2) (by omega) (by omega) (by omega)
    unfold shA
    split <;> omega
theorem c_X8_sides {σ : Sto} {now : Int → Int} {P : PT} {T : TT} {Q : Option Value → Sto → Prop} {p : Int} (hJ : JB now p) (k : Q (some (zI (sid now p))) (mst σ now P T)) : Con M_X8_sides 150 150 (mst σ now P T) [.ref 144, zI p] Q := by
  refine V_entry ok_X8_sides (Nat.le_refl _) (Nat.le_of_ble_eq_true rfl) (V_ls [(0, .ref 144), (1, zI p)] ⟨rfl, rfl, trivial⟩ ?_)
  obtain ⟨d0, d1, d2, d3, d6, d7, d8, d9, d12, d13, d14, d17, d18, d19, d22, d23, d24, d27, d28, d29, d30, d33, d34, d35, d38, d39, d42, d43, d44, d45, d48, d49, d52, d53, -⟩ := D_X8_sides
  have jj := hJ
  unfold JB at jj
  have s := sst_rg hJ
  have b1 := ba_1 (jf now p 5) (by omega) (by omega)
  have ns := nsh_rg hJ
  refine V_aload_n (pc := 0) d0 rfl (Or.inl ⟨_, rfl⟩) ?_
  refine V_iload_n (pc := 1) d1 rfl ?_
  refine V_iconst (pc := 2) d2 ?_
  refine V_cV2 (pc := 3) ca_8_64 d3 (by decide) (Nat.le_of_ble_eq_true rfl) (by decide) rfl (by decide) (c_X8_of (by omega) ?_)
  refine V_iconst (pc := 6) d6 ?_
  refine V_iand (pc := 7) d7 ?_
  refine V_iconst (pc := 8) d8 ?_
  refine V_icmp_ne (pc := 9) d9 (by decide) (by omega) (by decide) (fun h9 => ?_) (fun h9 => ?_)
  · refine V_iconst (pc := 42) d42 ?_
    refine V_istore_n (pc := 43) d43 (by decide) ?_
    refine V_iload_n (pc := 44) d44 rfl ?_
    refine V_if_eq (pc := 45) d45 (by decide) (by decide) (fun _ => ?_) (fun h => absurd (by decide) h)
    refine V_iconst (pc := 52) d52 ?_
    refine V_ret (pc := 53) (v := some (zI _)) ⟨d53, _, rfl, rfl⟩ ?_
    exact Qv k (by unfold sid; split <;> omega) rfl
  · refine V_aload_n (pc := 12) d12 rfl (Or.inl ⟨_, rfl⟩) ?_
    refine V_iload_n (pc := 13) d13 rfl ?_
    refine V_cV1 (pc := 14) ca_8_106 d14 (by decide) (Nat.le_of_ble_eq_true rfl) (by decide) rfl (by decide) (c_X8_nextSheet (by assumption) ?_)
    refine V_aload_n (pc := 17) d17 rfl (Or.inl ⟨_, rfl⟩) ?_
    refine V_iload_n (pc := 18) d18 rfl ?_
    refine V_cV1 (pc := 19) ca_8_97 d19 (by decide) (Nat.le_of_ble_eq_true rfl) (by decide) rfl (by decide) (c_X8_setSheets (by assumption) ?_)
    refine V_iconst (pc := 22) d22 ?_
    refine V_isub (pc := 23) d23 ?_
    refine V_icmp_lt (pc := 24) d24 (by decide) (by omega) (by omega) (fun h24 => ?_) (fun h24 => ?_)
    · refine V_iconst (pc := 38) d38 ?_
      refine V_goto (pc := 39) d39 (by decide) ?_
      refine V_istore_n (pc := 43) d43 (by decide) ?_
      refine V_iload_n (pc := 44) d44 rfl ?_
      refine V_if_eq (pc := 45) d45 (by decide) (by decide) (fun h => absurd h (by decide)) (fun _ => ?_)
      refine V_iconst (pc := 48) d48 ?_
      refine V_goto (pc := 49) d49 (by decide) ?_
      refine V_ret (pc := 53) (v := some (zI _)) ⟨d53, _, rfl, rfl⟩ ?_
      exact Qv k (by unfold sid; split <;> omega) rfl
    · refine V_aload_n (pc := 27) d27 rfl (Or.inl ⟨_, rfl⟩) ?_
      refine V_iload_n (pc := 28) d28 rfl ?_
      refine V_iconst (pc := 29) d29 ?_
      refine V_cV2 (pc := 30) ca_8_64 d30 (by decide) (Nat.le_of_ble_eq_true rfl) (by decide) rfl (by decide) (c_X8_of (by omega) ?_)
      refine V_iconst (pc := 33) d33 ?_
      refine V_irem (pc := 34) d34 (by omega) (by decide) ?_
      refine V_if_ne (pc := 35) d35 (by decide) (by omega) (fun h35 => ?_) (fun h35 => ?_)
      · refine V_iconst (pc := 42) d42 ?_
        refine V_istore_n (pc := 43) d43 (by decide) ?_
        refine V_iload_n (pc := 44) d44 rfl ?_
        refine V_if_eq (pc := 45) d45 (by decide) (by decide) (fun _ => ?_) (fun h => absurd (by decide) h)
        refine V_iconst (pc := 52) d52 ?_
        refine V_ret (pc := 53) (v := some (zI _)) ⟨d53, _, rfl, rfl⟩ ?_
        exact Qv k (by unfold sid; split <;> omega) rfl
      · refine V_iconst (pc := 38) d38 ?_
        refine V_goto (pc := 39) d39 (by decide) ?_
        refine V_istore_n (pc := 43) d43 (by decide) ?_
        refine V_iload_n (pc := 44) d44 rfl ?_
        refine V_if_eq (pc := 45) d45 (by decide) (by decide) (fun h => absurd h (by decide)) (fun _ => ?_)
        refine V_iconst (pc := 48) d48 ?_
        refine V_goto (pc := 49) d49 (by decide) ?_
        refine V_ret (pc := 53) (v := some (zI _)) ⟨d53, _, rfl, rfl⟩ ?_
        exact Qv k (by unfold sid; split <;> omega) rfl
theorem c_X8_whyStop {σ : Sto} {now : Int → Int} {P : PT} {T : TT} {Q : Option Value → Sto → Prop} {p : Int} (hR : RR now) (hp : p < 0 ∨ JB now p) (r_p : -2147483648 ≤ p ∧ p < 2147483648) (k : Q (some (zI (wst now p))) (mst σ now P T)) : Con M_X8_whyStop 150 150 (mst σ now P T) [.ref 144, zI p] Q := by
  refine V_entry ok_X8_whyStop (Nat.le_refl _) (Nat.le_of_ble_eq_true rfl) (V_ls [(0, .ref 144), (1, zI p)] ⟨rfl, rfl, trivial⟩ ?_)
  obtain ⟨d0, d1, d4, d5, d6, d7, d8, d11, d14, d15, d18, d19, d20, d21, d22, d25, d28, d29, d32, d33, d34, d35, d36, d37, d38, d41, d42, d43, d44, d47, d50, d53, d54, d57, d58, d61, d62, d63, d64, d67, d69, d70, d73, d74, d77, d78, -⟩ := D_X8_whyStop
  have g2 := hR.1 2 (by decide) (by decide) (by decide)
  have g3 := hR.1 3 (by decide) (by decide) (by decide)
  have g15 := hR.1 15 (by decide) (by decide) (by decide)
  have sh := shA_rg hR.1 (jf now p 3) (jf now p 4) 4 (by omega)
  refine V_iload_n (pc := 0) d0 rfl ?_
  refine V_if_ge (pc := 1) d1 (by decide) (by omega) (fun h1 => ?_) (fun h1 => ?_)
  · have hJ : JB now p := hp.resolve_left (by omega)
    have jj := hJ
    unfold JB at jj
    refine V_aload_n (pc := 6) d6 rfl (Or.inl ⟨_, rfl⟩) ?_
    refine V_iload_n (pc := 7) d7 rfl ?_
    refine V_cV1 (pc := 8) ca_8_121 d8 (by decide) (Nat.le_of_ble_eq_true rfl) (by decide) rfl (by decide) (c_X8_hasSet (by assumption) (fun h_hs => ?_) (fun h_hs => ?_))
    · refine V_if_eq (pc := 11) d11 (by decide) (by decide) (fun h => absurd h (by decide)) (fun _ => ?_)
      refine V_aload_n (pc := 14) d14 rfl (Or.inl ⟨_, rfl⟩) ?_
      refine V_getR (pc := 15) (q := 0) (j := 145) fx_8_7 d15 rfl rfl (by decide) rfl rfl ?_
      refine V_iconst (pc := 18) d18 ?_
      refine Vm_now (pc := 19) d19 (by decide) ?_
      refine V_aload_n (pc := 20) d20 rfl (Or.inl ⟨_, rfl⟩) ?_
      refine V_iload_n (pc := 21) d21 rfl ?_
      refine V_cV1 (pc := 22) ca_8_118 d22 (by decide) (Nat.le_of_ble_eq_true rfl) (by decide) rfl (by decide) (c_X8_staplesOf (by assumption) ?_)
      refine V_icmp_ge (pc := 25) d25 (by decide) (by omega) (by omega) (fun h25 => ?_) (fun h25 => ?_)
      · refine V_iconst (pc := 32) d32 ?_
        refine V_ret (pc := 33) (v := some (zI _)) ⟨d33, _, rfl, rfl⟩ ?_
        exact Qv k (by unfold wst; (repeat' split) <;> omega) rfl
      · refine V_iconst (pc := 28) d28 ?_
        refine V_goto (pc := 29) d29 (by decide) ?_
        refine V_ret (pc := 33) (v := some (zI _)) ⟨d33, _, rfl, rfl⟩ ?_
        exact Qv k (by unfold wst; (repeat' split) <;> omega) rfl
    · refine V_if_eq (pc := 11) d11 (by decide) (by decide) (fun _ => ?_) (fun h => absurd (by decide) h)
      refine V_aload_n (pc := 34) d34 rfl (Or.inl ⟨_, rfl⟩) ?_
      refine V_aload_n (pc := 35) d35 rfl (Or.inl ⟨_, rfl⟩) ?_
      refine V_iload_n (pc := 36) d36 rfl ?_
      refine V_iconst (pc := 37) d37 ?_
      refine V_cV2 (pc := 38) ca_8_64 d38 (by decide) (Nat.le_of_ble_eq_true rfl) (by decide) rfl (by decide) (c_X8_of (by omega) ?_)
      refine V_aload_n (pc := 41) d41 rfl (Or.inl ⟨_, rfl⟩) ?_
      refine V_iload_n (pc := 42) d42 rfl ?_
      refine V_iconst (pc := 43) d43 ?_
      refine V_cV2 (pc := 44) ca_8_64 d44 (by decide) (Nat.le_of_ble_eq_true rfl) (by decide) rfl (by decide) (c_X8_of (by omega) ?_)
      refine V_cV2 (pc := 47) ca_8_50 d47 (by decide) (Nat.le_of_ble_eq_true rfl) (by decide) rfl (by decide) (c_X8_sheetsOf hR.1 (by omega) (by omega) ?_)
      refine V_if_ne (pc := 50) d50 (by decide) (by omega) (fun h50 => ?_) (fun h50 => ?_)
      · refine V_aload_n (pc := 57) d57 rfl (Or.inl ⟨_, rfl⟩) ?_
        refine V_getR (pc := 58) (q := 0) (j := 145) fx_8_7 d58 rfl rfl (by decide) rfl rfl ?_
        refine V_iconst (pc := 61) d61 ?_
        refine Vm_now (pc := 62) d62 (by decide) ?_
        refine V_aload_n (pc := 63) d63 rfl (Or.inl ⟨_, rfl⟩) ?_
        refine V_getR (pc := 64) (q := 0) (j := 145) fx_8_7 d64 rfl rfl (by decide) rfl rfl ?_
        refine V_bipush (pc := 67) (by decide) d67 ?_
        refine Vm_now (pc := 69) d69 (by decide) ?_
        refine V_icmp_lt (pc := 70) d70 (by decide) (by omega) (by omega) (fun h70 => ?_) (fun h70 => ?_)
        · refine V_iconst (pc := 77) d77 ?_
          refine V_ret (pc := 78) (v := some (zI _)) ⟨d78, _, rfl, rfl⟩ ?_
          exact Qv k (by unfold wst; (repeat' split) <;> omega) rfl
        · refine V_iconst (pc := 73) d73 ?_
          refine V_goto (pc := 74) d74 (by decide) ?_
          refine V_ret (pc := 78) (v := some (zI _)) ⟨d78, _, rfl, rfl⟩ ?_
          exact Qv k (by unfold wst; (repeat' split) <;> omega) rfl
      · refine V_iconst (pc := 53) d53 ?_
        refine V_goto (pc := 54) d54 (by decide) ?_
        refine V_ret (pc := 78) (v := some (zI _)) ⟨d78, _, rfl, rfl⟩ ?_
        exact Qv k (by unfold wst; (repeat' split) <;> omega) rfl
  · refine V_iconst (pc := 4) d4 ?_
    refine V_ret (pc := 5) (v := some (zI _)) ⟨d5, _, rfl, rfl⟩ ?_
    exact Qv k (by unfold wst; (repeat' split) <;> omega) rfl
theorem c_X8_isAhead {σ : Sto} {now : Int → Int} {P : PT} {T : TT} {Q : Option Value → Sto → Prop} {p q : Int} (h7 : -3000000 ≤ now 7 ∧ now 7 ≤ 3000000) (hJ : JB now p) (hK : JB now q) (k1 : ahd now p q → Q (some (zI 1)) (mst σ now P T)) (k0 : ¬ (ahd now p q) → Q (some (zI 0)) (mst σ now P T)) : Con M_X8_isAhead 150 150 (mst σ now P T) [.ref 144, zI p, zI q] Q := by
  refine V_entry ok_X8_isAhead (Nat.le_refl _) (Nat.le_of_ble_eq_true rfl) (V_ls [(0, .ref 144), (1, zI p), (2, zI q)] ⟨rfl, rfl, rfl, trivial⟩ ?_)
  obtain ⟨d0, d1, d2, d4, d7, d8, d9, d11, d14, d17, d18, d19, d21, d24, d27, d28, d31, d32, d33, d34, d35, d36, d39, d40, d43, d45, d46, d49, d50, d51, d52, d55, d56, d59, d61, d62, d65, d66, d67, d68, d71, d72, d75, d77, d78, d81, d82, d85, d86, d87, d88, d89, d91, d94, d95, d96, d98, d101, d104, d105, d106, d108, d111, d112, d113, d115, d118, d121, d122, d125, d126, d129, d130, d131, d134, d135, d138, d139, -⟩ := D_X8_isAhead
  have jj := hJ
  unfold JB at jj
  have k := hK
  unfold JB at k
  refine V_aload_n (pc := 0) d0 rfl (Or.inl ⟨_, rfl⟩) ?_
  refine V_iload_n (pc := 1) d1 rfl ?_
  refine V_bipush (pc := 2) (by decide) d2 ?_
  refine V_cV2 (pc := 4) ca_8_64 d4 (by decide) (Nat.le_of_ble_eq_true rfl) (by decide) rfl (by decide) (c_X8_of (by omega) ?_)
  refine V_aload_n (pc := 7) d7 rfl (Or.inl ⟨_, rfl⟩) ?_
  refine V_iload_n (pc := 8) d8 rfl ?_
  refine V_bipush (pc := 9) (by decide) d9 ?_
  refine V_cV2 (pc := 11) ca_8_64 d11 (by decide) (Nat.le_of_ble_eq_true rfl) (by decide) rfl (by decide) (c_X8_of (by omega) ?_)
  refine V_icmp_eq (pc := 14) d14 (by decide) (by omega) (by omega) (fun h14 => ?_) (fun h14 => ?_)
  · refine V_aload_n (pc := 33) d33 rfl (Or.inl ⟨_, rfl⟩) ?_
    refine V_iload_n (pc := 34) d34 rfl ?_
    refine V_iconst (pc := 35) d35 ?_
    refine V_cV2 (pc := 36) ca_8_64 d36 (by decide) (Nat.le_of_ble_eq_true rfl) (by decide) rfl (by decide) (c_X8_of (by omega) ?_)
    refine V_aload_n (pc := 39) d39 rfl (Or.inl ⟨_, rfl⟩) ?_
    refine V_getR (pc := 40) (q := 0) (j := 145) fx_8_7 d40 rfl rfl (by decide) rfl rfl ?_
    refine V_bipush (pc := 43) (by decide) d43 ?_
    refine Vm_now (pc := 45) d45 (by decide) ?_
    refine V_icmp_eq (pc := 46) d46 (by decide) (by omega) (by omega) (fun h46 => ?_) (fun h46 => ?_)
    · refine V_aload_n (pc := 65) d65 rfl (Or.inl ⟨_, rfl⟩) ?_
      refine V_iload_n (pc := 66) d66 rfl ?_
      refine V_iconst (pc := 67) d67 ?_
      refine V_cV2 (pc := 68) ca_8_64 d68 (by decide) (Nat.le_of_ble_eq_true rfl) (by decide) rfl (by decide) (c_X8_of (by omega) ?_)
      refine V_aload_n (pc := 71) d71 rfl (Or.inl ⟨_, rfl⟩) ?_
      refine V_getR (pc := 72) (q := 0) (j := 145) fx_8_7 d72 rfl rfl (by decide) rfl rfl ?_
      refine V_bipush (pc := 75) (by decide) d75 ?_
      refine Vm_now (pc := 77) d77 (by decide) ?_
      refine V_icmp_ne (pc := 78) d78 (by decide) (by omega) (by omega) (fun h78 => ?_) (fun h78 => ?_)
      · refine V_iconst (pc := 85) d85 ?_
        refine V_ret (pc := 86) (v := some (zI _)) ⟨d86, _, rfl, by decide⟩ ?_
        first | exact k1 (by omega) | exact k0 (by omega)
      · refine V_iconst (pc := 81) d81 ?_
        refine V_goto (pc := 82) d82 (by decide) ?_
        refine V_ret (pc := 86) (v := some (zI _)) ⟨d86, _, rfl, by decide⟩ ?_
        first | exact k1 (by omega) | exact k0 (by omega)
    · refine V_aload_n (pc := 49) d49 rfl (Or.inl ⟨_, rfl⟩) ?_
      refine V_iload_n (pc := 50) d50 rfl ?_
      refine V_iconst (pc := 51) d51 ?_
      refine V_cV2 (pc := 52) ca_8_64 d52 (by decide) (Nat.le_of_ble_eq_true rfl) (by decide) rfl (by decide) (c_X8_of (by omega) ?_)
      refine V_aload_n (pc := 55) d55 rfl (Or.inl ⟨_, rfl⟩) ?_
      refine V_getR (pc := 56) (q := 0) (j := 145) fx_8_7 d56 rfl rfl (by decide) rfl rfl ?_
      refine V_bipush (pc := 59) (by decide) d59 ?_
      refine Vm_now (pc := 61) d61 (by decide) ?_
      refine V_icmp_ne (pc := 62) d62 (by decide) (by omega) (by omega) (fun h62 => ?_) (fun h62 => ?_)
      · refine V_aload_n (pc := 87) d87 rfl (Or.inl ⟨_, rfl⟩) ?_
        refine V_iload_n (pc := 88) d88 rfl ?_
        refine V_bipush (pc := 89) (by decide) d89 ?_
        refine V_cV2 (pc := 91) ca_8_64 d91 (by decide) (Nat.le_of_ble_eq_true rfl) (by decide) rfl (by decide) (c_X8_of (by omega) ?_)
        refine V_aload_n (pc := 94) d94 rfl (Or.inl ⟨_, rfl⟩) ?_
        refine V_iload_n (pc := 95) d95 rfl ?_
        refine V_bipush (pc := 96) (by decide) d96 ?_
        refine V_cV2 (pc := 98) ca_8_64 d98 (by decide) (Nat.le_of_ble_eq_true rfl) (by decide) rfl (by decide) (c_X8_of (by omega) ?_)
        refine V_icmp_eq (pc := 101) d101 (by decide) (by omega) (by omega) (fun h101 => ?_) (fun h101 => ?_)
        · refine V_iload_n (pc := 129) d129 rfl ?_
          refine V_iload_n (pc := 130) d130 rfl ?_
          refine V_icmp_ge (pc := 131) d131 (by decide) (by omega) (by omega) (fun h131 => ?_) (fun h131 => ?_)
          · refine V_iconst (pc := 138) d138 ?_
            refine V_ret (pc := 139) (v := some (zI _)) ⟨d139, _, rfl, by decide⟩ ?_
            first | exact k1 (by omega) | exact k0 (by omega)
          · refine V_iconst (pc := 134) d134 ?_
            refine V_goto (pc := 135) d135 (by decide) ?_
            refine V_ret (pc := 139) (v := some (zI _)) ⟨d139, _, rfl, by decide⟩ ?_
            first | exact k1 (by omega) | exact k0 (by omega)
        · refine V_aload_n (pc := 104) d104 rfl (Or.inl ⟨_, rfl⟩) ?_
          refine V_iload_n (pc := 105) d105 rfl ?_
          refine V_bipush (pc := 106) (by decide) d106 ?_
          refine V_cV2 (pc := 108) ca_8_64 d108 (by decide) (Nat.le_of_ble_eq_true rfl) (by decide) rfl (by decide) (c_X8_of (by omega) ?_)
          refine V_aload_n (pc := 111) d111 rfl (Or.inl ⟨_, rfl⟩) ?_
          refine V_iload_n (pc := 112) d112 rfl ?_
          refine V_bipush (pc := 113) (by decide) d113 ?_
          refine V_cV2 (pc := 115) ca_8_64 d115 (by decide) (Nat.le_of_ble_eq_true rfl) (by decide) rfl (by decide) (c_X8_of (by omega) ?_)
          refine V_icmp_le (pc := 118) d118 (by decide) (by omega) (by omega) (fun h118 => ?_) (fun h118 => ?_)
          · refine V_iconst (pc := 125) d125 ?_
            refine V_goto (pc := 126) d126 (by decide) ?_
            refine V_ret (pc := 139) (v := some (zI _)) ⟨d139, _, rfl, by decide⟩ ?_
            first | exact k1 (by omega) | exact k0 (by omega)
          · refine V_iconst (pc := 121) d121 ?_
            refine V_goto (pc := 122) d122 (by decide) ?_
            refine V_ret (pc := 139) (v := some (zI _)) ⟨d139, _, rfl, by decide⟩ ?_
            first | exact k1 (by omega) | exact k0 (by omega)
      · refine V_aload_n (pc := 65) d65 rfl (Or.inl ⟨_, rfl⟩) ?_
        refine V_iload_n (pc := 66) d66 rfl ?_
        refine V_iconst (pc := 67) d67 ?_
        refine V_cV2 (pc := 68) ca_8_64 d68 (by decide) (Nat.le_of_ble_eq_true rfl) (by decide) rfl (by decide) (c_X8_of (by omega) ?_)
        refine V_aload_n (pc := 71) d71 rfl (Or.inl ⟨_, rfl⟩) ?_
        refine V_getR (pc := 72) (q := 0) (j := 145) fx_8_7 d72 rfl rfl (by decide) rfl rfl ?_
        refine V_bipush (pc := 75) (by decide) d75 ?_
        refine Vm_now (pc := 77) d77 (by decide) ?_
        refine V_icmp_ne (pc := 78) d78 (by decide) (by omega) (by omega) (fun h78 => ?_) (fun h78 => ?_)
        · refine V_iconst (pc := 85) d85 ?_
          refine V_ret (pc := 86) (v := some (zI _)) ⟨d86, _, rfl, by decide⟩ ?_
          first | exact k1 (by omega) | exact k0 (by omega)
        · refine V_iconst (pc := 81) d81 ?_
          refine V_goto (pc := 82) d82 (by decide) ?_
          refine V_ret (pc := 86) (v := some (zI _)) ⟨d86, _, rfl, by decide⟩ ?_
          first | exact k1 (by omega) | exact k0 (by omega)
  · refine V_aload_n (pc := 17) d17 rfl (Or.inl ⟨_, rfl⟩) ?_
    refine V_iload_n (pc := 18) d18 rfl ?_
    refine V_bipush (pc := 19) (by decide) d19 ?_
    refine V_cV2 (pc := 21) ca_8_64 d21 (by decide) (Nat.le_of_ble_eq_true rfl) (by decide) rfl (by decide) (c_X8_of (by omega) ?_)
    refine V_if_ne (pc := 24) d24 (by decide) (by omega) (fun h24 => ?_) (fun h24 => ?_)
    · refine V_iconst (pc := 31) d31 ?_
      refine V_ret (pc := 32) (v := some (zI _)) ⟨d32, _, rfl, by decide⟩ ?_
      first | exact k1 (by omega) | exact k0 (by omega)
    · refine V_iconst (pc := 27) d27 ?_
      refine V_goto (pc := 28) d28 (by decide) ?_
      refine V_ret (pc := 32) (v := some (zI _)) ⟨d32, _, rfl, by decide⟩ ?_
      first | exact k1 (by omega) | exact k0 (by omega)
theorem c_X8_tellJob {σ : Sto} {now : Int → Int} {P : PT} {T : TT} {Q : Option Value → Sto → Prop} {p w : Int} (hJ : JB now p) (hw : 0 ≤ w ∧ w ≤ 12) (k : Q (some (zI (telF now p w))) (mst σ now P T)) : Con M_X8_tellJob 150 150 (mst σ now P T) [.ref 144, zI p, zI w] Q := by
  refine V_entry ok_X8_tellJob (Nat.le_refl _) (Nat.le_of_ble_eq_true rfl) (V_ls [(0, .ref 144), (1, zI p), (2, zI w)] ⟨rfl, rfl, rfl, trivial⟩ ?_)
  obtain ⟨d0, d1, d2, d4, d7, d8, d9, d12, d15, d16, d19, d20, d21, d22, d60, d61, d62, d65, d66, d67, d68, d71, d72, d73, d74, d76, d79, d80, d81, d82, d84, d87, d88, d89, d92, d94, d97, d98, d99, d102, d103, d104, d107, d109, d112, d113, d114, d117, d118, d119, d120, d121, d122, d123, d126, -⟩ := D_X8_tellJob
  have jj := hJ
  unfold JB at jj
  have a := als_rg hJ
  refine V_aload_n (pc := 0) d0 rfl (Or.inl ⟨_, rfl⟩) ?_
  refine V_iload_n (pc := 1) d1 rfl ?_
  refine V_bipush (pc := 2) (by decide) d2 ?_
  refine V_cV2 (pc := 4) ca_8_64 d4 (by decide) (Nat.le_of_ble_eq_true rfl) (by decide) rfl (by decide) (c_X8_of (by omega) ?_)
  refine V_aload_n (pc := 7) d7 rfl (Or.inl ⟨_, rfl⟩) ?_
  refine V_iload_n (pc := 8) d8 rfl ?_
  refine V_cV1 (pc := 9) ca_8_103 d9 (by decide) (Nat.le_of_ble_eq_true rfl) (by decide) rfl (by decide) (c_X8_allSheets (by assumption) ?_)
  refine V_icmp_ne (pc := 12) d12 (by decide) (by omega) (by omega) (fun h12 => ?_) (fun h12 => ?_)
  · refine V_iconst (pc := 19) d19 ?_
    refine V_istore_n (pc := 20) d20 (by decide) ?_
    refine V_iload_n (pc := 21) d21 rfl ?_
    refine V_table (pc := 22) d22 (by decide) (by decide) (by decide) (by omega) (fun h22 => ?_) (fun j o h22 ho => ?_)
    · refine V_aload_n (pc := 118) d118 rfl (Or.inl ⟨_, rfl⟩) ?_
      refine V_iload_n (pc := 119) d119 rfl ?_
      refine V_iconst (pc := 120) d120 ?_
      refine V_iload_n (pc := 121) d121 rfl ?_
      refine V_iadd (pc := 122) d122 ?_
      refine V_cV2 (pc := 123) ca_8_64 d123 (by decide) (Nat.le_of_ble_eq_true rfl) (by decide) rfl (by decide) (c_X8_of (by omega) ?_)
      refine V_ret (pc := 126) (v := some (zI _)) ⟨d126, _, rfl, rfl⟩ ?_
      exact Qv k (by unfold telF; (repeat' split) <;> first | rfl | omega) rfl
    · match j, ho with
      | 0, ho =>
        obtain rfl := Option.some.inj ho
        refine V_aload_n (pc := 60) d60 rfl (Or.inl ⟨_, rfl⟩) ?_
        refine V_iload_n (pc := 61) d61 rfl ?_
        refine V_cV1 (pc := 62) ca_8_97 d62 (by decide) (Nat.le_of_ble_eq_true rfl) (by decide) rfl (by decide) (c_X8_setSheets (by assumption) ?_)
        refine V_ret (pc := 65) (v := some (zI _)) ⟨d65, _, rfl, rfl⟩ ?_
        exact Qv k (by unfold telF; (repeat' split) <;> first | rfl | omega) rfl
      | 1, ho =>
        obtain rfl := Option.some.inj ho
        refine V_aload_n (pc := 66) d66 rfl (Or.inl ⟨_, rfl⟩) ?_
        refine V_iload_n (pc := 67) d67 rfl ?_
        refine V_cV1 (pc := 68) ca_8_103 d68 (by decide) (Nat.le_of_ble_eq_true rfl) (by decide) rfl (by decide) (c_X8_allSheets (by assumption) ?_)
        refine V_ret (pc := 71) (v := some (zI _)) ⟨d71, _, rfl, rfl⟩ ?_
        exact Qv k (by unfold telF; (repeat' split) <;> first | rfl | omega) rfl
      | 2, ho =>
        obtain rfl := Option.some.inj ho
        refine V_aload_n (pc := 72) d72 rfl (Or.inl ⟨_, rfl⟩) ?_
        refine V_iload_n (pc := 73) d73 rfl ?_
        refine V_bipush (pc := 74) (by decide) d74 ?_
        refine V_cV2 (pc := 76) ca_8_64 d76 (by decide) (Nat.le_of_ble_eq_true rfl) (by decide) rfl (by decide) (c_X8_of (by omega) ?_)
        refine V_ret (pc := 79) (v := some (zI _)) ⟨d79, _, rfl, rfl⟩ ?_
        exact Qv k (by unfold telF; (repeat' split) <;> first | rfl | omega) rfl
      | 3, ho =>
        obtain rfl := Option.some.inj ho
        refine V_aload_n (pc := 80) d80 rfl (Or.inl ⟨_, rfl⟩) ?_
        refine V_iload_n (pc := 81) d81 rfl ?_
        refine V_bipush (pc := 82) (by decide) d82 ?_
        refine V_cV2 (pc := 84) ca_8_64 d84 (by decide) (Nat.le_of_ble_eq_true rfl) (by decide) rfl (by decide) (c_X8_of (by omega) ?_)
        refine V_ret (pc := 87) (v := some (zI _)) ⟨d87, _, rfl, rfl⟩ ?_
        exact Qv k (by unfold telF; (repeat' split) <;> first | rfl | omega) rfl
      | 4, ho =>
        obtain rfl := Option.some.inj ho
        refine V_iload_n (pc := 88) d88 rfl ?_
        refine V_if_eq (pc := 89) d89 (by decide) (by decide) (fun _ => ?_) (fun h => absurd (by decide) h)
        refine V_aload_n (pc := 97) d97 rfl (Or.inl ⟨_, rfl⟩) ?_
        refine V_iload_n (pc := 98) d98 rfl ?_
        refine V_cV1 (pc := 99) ca_8_106 d99 (by decide) (Nat.le_of_ble_eq_true rfl) (by decide) rfl (by decide) (c_X8_nextSheet (by assumption) ?_)
        refine V_ret (pc := 102) (v := some (zI _)) ⟨d102, _, rfl, rfl⟩ ?_
        exact Qv k (by unfold telF; (repeat' split) <;> first | rfl | omega) rfl
      | 5, ho =>
        obtain rfl := Option.some.inj ho
        refine V_iload_n (pc := 103) d103 rfl ?_
        refine V_if_eq (pc := 104) d104 (by decide) (by decide) (fun _ => ?_) (fun h => absurd (by decide) h)
        refine V_aload_n (pc := 112) d112 rfl (Or.inl ⟨_, rfl⟩) ?_
        refine V_iload_n (pc := 113) d113 rfl ?_
        refine V_cV1 (pc := 114) ca_8_109 d114 (by decide) (Nat.le_of_ble_eq_true rfl) (by decide) rfl (by decide) (c_X8_nextCopy (by assumption) ?_)
        refine V_ret (pc := 117) (v := some (zI _)) ⟨d117, _, rfl, rfl⟩ ?_
        exact Qv k (by unfold telF; (repeat' split) <;> first | rfl | omega) rfl
      | j + 6, ho => exact absurd ho (by simp)
  · refine V_iconst (pc := 15) d15 ?_
    refine V_goto (pc := 16) d16 (by decide) ?_
    refine V_istore_n (pc := 20) d20 (by decide) ?_
    refine V_iload_n (pc := 21) d21 rfl ?_
    refine V_table (pc := 22) d22 (by decide) (by decide) (by decide) (by omega) (fun h22 => ?_) (fun j o h22 ho => ?_)
    · refine V_aload_n (pc := 118) d118 rfl (Or.inl ⟨_, rfl⟩) ?_
      refine V_iload_n (pc := 119) d119 rfl ?_
      refine V_iconst (pc := 120) d120 ?_
      refine V_iload_n (pc := 121) d121 rfl ?_
      refine V_iadd (pc := 122) d122 ?_
      refine V_cV2 (pc := 123) ca_8_64 d123 (by decide) (Nat.le_of_ble_eq_true rfl) (by decide) rfl (by decide) (c_X8_of (by omega) ?_)
      refine V_ret (pc := 126) (v := some (zI _)) ⟨d126, _, rfl, rfl⟩ ?_
      exact Qv k (by unfold telF; (repeat' split) <;> first | rfl | omega) rfl
    · match j, ho with
      | 0, ho =>
        obtain rfl := Option.some.inj ho
        refine V_aload_n (pc := 60) d60 rfl (Or.inl ⟨_, rfl⟩) ?_
        refine V_iload_n (pc := 61) d61 rfl ?_
        refine V_cV1 (pc := 62) ca_8_97 d62 (by decide) (Nat.le_of_ble_eq_true rfl) (by decide) rfl (by decide) (c_X8_setSheets (by assumption) ?_)
        refine V_ret (pc := 65) (v := some (zI _)) ⟨d65, _, rfl, rfl⟩ ?_
        exact Qv k (by unfold telF; (repeat' split) <;> first | rfl | omega) rfl
      | 1, ho =>
        obtain rfl := Option.some.inj ho
        refine V_aload_n (pc := 66) d66 rfl (Or.inl ⟨_, rfl⟩) ?_
        refine V_iload_n (pc := 67) d67 rfl ?_
        refine V_cV1 (pc := 68) ca_8_103 d68 (by decide) (Nat.le_of_ble_eq_true rfl) (by decide) rfl (by decide) (c_X8_allSheets (by assumption) ?_)
        refine V_ret (pc := 71) (v := some (zI _)) ⟨d71, _, rfl, rfl⟩ ?_
        exact Qv k (by unfold telF; (repeat' split) <;> first | rfl | omega) rfl
      | 2, ho =>
        obtain rfl := Option.some.inj ho
        refine V_aload_n (pc := 72) d72 rfl (Or.inl ⟨_, rfl⟩) ?_
        refine V_iload_n (pc := 73) d73 rfl ?_
        refine V_bipush (pc := 74) (by decide) d74 ?_
        refine V_cV2 (pc := 76) ca_8_64 d76 (by decide) (Nat.le_of_ble_eq_true rfl) (by decide) rfl (by decide) (c_X8_of (by omega) ?_)
        refine V_ret (pc := 79) (v := some (zI _)) ⟨d79, _, rfl, rfl⟩ ?_
        exact Qv k (by unfold telF; (repeat' split) <;> first | rfl | omega) rfl
      | 3, ho =>
        obtain rfl := Option.some.inj ho
        refine V_aload_n (pc := 80) d80 rfl (Or.inl ⟨_, rfl⟩) ?_
        refine V_iload_n (pc := 81) d81 rfl ?_
        refine V_bipush (pc := 82) (by decide) d82 ?_
        refine V_cV2 (pc := 84) ca_8_64 d84 (by decide) (Nat.le_of_ble_eq_true rfl) (by decide) rfl (by decide) (c_X8_of (by omega) ?_)
        refine V_ret (pc := 87) (v := some (zI _)) ⟨d87, _, rfl, rfl⟩ ?_
        exact Qv k (by unfold telF; (repeat' split) <;> first | rfl | omega) rfl
      | 4, ho =>
        obtain rfl := Option.some.inj ho
        refine V_iload_n (pc := 88) d88 rfl ?_
        refine V_if_eq (pc := 89) d89 (by decide) (by decide) (fun h => absurd h (by decide)) (fun _ => ?_)
        refine V_bipush (pc := 92) (by decide) d92 ?_
        refine V_goto (pc := 94) d94 (by decide) ?_
        refine V_ret (pc := 102) (v := some (zI _)) ⟨d102, _, rfl, rfl⟩ ?_
        exact Qv k (by unfold telF; (repeat' split) <;> first | rfl | omega) rfl
      | 5, ho =>
        obtain rfl := Option.some.inj ho
        refine V_iload_n (pc := 103) d103 rfl ?_
        refine V_if_eq (pc := 104) d104 (by decide) (by decide) (fun h => absurd h (by decide)) (fun _ => ?_)
        refine V_bipush (pc := 107) (by decide) d107 ?_
        refine V_goto (pc := 109) d109 (by decide) ?_
        refine V_ret (pc := 117) (v := some (zI _)) ⟨d117, _, rfl, rfl⟩ ?_
        exact Qv k (by unfold telF; (repeat' split) <;> first | rfl | omega) rfl
      | j + 6, ho => exact absurd ho (by simp)
theorem sof_w {pg hw : Int} (h : 0 ≤ pg ∧ pg ≤ 999) : 0 ≤ sof pg hw ∧ sof pg hw ≤ 1000 := by
  unfold sof
  split <;> omega
theorem c_X8_whyNot {σ : Sto} {now : Int → Int} {P : PT} {T : TT} {Q : Option Value → Sto → Prop} {pg kd hw : Int} (h13 : 0 ≤ now 13 ∧ now 13 ≤ 1000) (hp : 0 ≤ pg ∧ pg ≤ 999) (hk : 0 ≤ kd ∧ kd ≤ 3) (hh : 0 ≤ hw ∧ hw < 16) (k : Q (some (zI (wny now pg kd hw))) (mst σ now P T)) : Con M_X8_whyNot 150 150 (mst σ now P T) [.ref 144, zI pg, zI kd, zI hw] Q := by
  refine V_entry ok_X8_whyNot (Nat.le_refl _) (Nat.le_of_ble_eq_true rfl) (V_ls [(0, .ref 144), (1, zI pg), (2, zI kd), (3, zI hw)] ⟨rfl, rfl, rfl, rfl, trivial⟩ ?_)
  obtain ⟨d0, d1, d2, d5, d6, d7, d8, d9, d12, d14, d15, d16, d19, d20, d23, d25, d26, d27, d28, d31, d32, d35, d37, d38, d40, d41, d42, d43, d46, d47, d50, d51, d52, d55, d56, d59, d61, d62, d65, d66, d69, d71, d73, d76, d77, d80, d81, -⟩ := D_X8_whyNot
  have b2 := ba_2 hw (by omega) (by omega)
  have so := sof_w (hw := hw) hp
  refine V_iload_n (pc := 0) d0 rfl ?_
  refine V_iconst (pc := 1) d1 ?_
  refine V_icmp_ge (pc := 2) d2 (by decide) (by omega) (by decide) (fun h2 => ?_) (fun h2 => ?_)
  · refine V_iload_n (pc := 7) d7 rfl ?_
    refine V_iload_n (pc := 8) d8 rfl ?_
    refine V_cS2 (pc := 9) ca_8_67 d9 (by decide) (Nat.le_of_ble_eq_true rfl) (c_X8_setOf (by omega) (by omega) ?_)
    refine V_istore (pc := 12) d12 (by decide) ?_
    refine V_iload_n (pc := 14) d14 rfl ?_
    refine V_iconst (pc := 15) d15 ?_
    refine V_icmp_ne (pc := 16) d16 (by decide) (by omega) (by decide) (fun h16 => ?_) (fun h16 => ?_)
    · refine V_aload_n (pc := 31) d31 rfl (Or.inl ⟨_, rfl⟩) ?_
      refine V_getR (pc := 32) (q := 0) (j := 145) fx_8_7 d32 rfl rfl (by decide) rfl rfl ?_
      refine V_bipush (pc := 35) (by decide) d35 ?_
      refine Vm_now (pc := 37) d37 (by decide) ?_
      refine V_istore (pc := 38) d38 (by decide) ?_
      refine V_iload_n (pc := 40) d40 rfl ?_
      refine V_iconst (pc := 41) d41 ?_
      refine V_iand (pc := 42) d42 ?_
      refine V_if_ne (pc := 43) d43 (by decide) (by omega) (fun h43 => ?_) (fun h43 => ?_)
      · refine V_iload_n (pc := 50) d50 rfl ?_
        refine V_iconst (pc := 51) d51 ?_
        refine V_icmp_ne (pc := 52) d52 (by decide) (by omega) (by decide) (fun h52 => ?_) (fun h52 => ?_)
        · refine V_iload (pc := 59) d59 rfl ?_
          refine V_iconst (pc := 61) d61 ?_
          refine V_icmp_ne (pc := 62) d62 (by decide) (by omega) (by decide) (fun h62 => ?_) (fun h62 => ?_)
          · refine V_iload (pc := 69) d69 rfl ?_
            refine V_iload (pc := 71) d71 rfl ?_
            refine V_icmp_le (pc := 73) d73 (by decide) (by omega) (by omega) (fun h73 => ?_) (fun h73 => ?_)
            · refine V_iconst (pc := 80) d80 ?_
              refine V_ret (pc := 81) (v := some (zI _)) ⟨d81, _, rfl, rfl⟩ ?_
              exact Qv k (by unfold wny; (repeat' split) <;> omega) rfl
            · refine V_iconst (pc := 76) d76 ?_
              refine V_goto (pc := 77) d77 (by decide) ?_
              refine V_ret (pc := 81) (v := some (zI _)) ⟨d81, _, rfl, rfl⟩ ?_
              exact Qv k (by unfold wny; (repeat' split) <;> omega) rfl
          · refine V_iconst (pc := 65) d65 ?_
            refine V_goto (pc := 66) d66 (by decide) ?_
            refine V_ret (pc := 81) (v := some (zI _)) ⟨d81, _, rfl, rfl⟩ ?_
            exact Qv k (by unfold wny; (repeat' split) <;> omega) rfl
        · refine V_iconst (pc := 55) d55 ?_
          refine V_goto (pc := 56) d56 (by decide) ?_
          refine V_ret (pc := 81) (v := some (zI _)) ⟨d81, _, rfl, rfl⟩ ?_
          exact Qv k (by unfold wny; (repeat' split) <;> omega) rfl
      · refine V_iconst (pc := 46) d46 ?_
        refine V_goto (pc := 47) d47 (by decide) ?_
        refine V_ret (pc := 81) (v := some (zI _)) ⟨d81, _, rfl, rfl⟩ ?_
        exact Qv k (by unfold wny; (repeat' split) <;> omega) rfl
    · refine V_aload_n (pc := 19) d19 rfl (Or.inl ⟨_, rfl⟩) ?_
      refine V_getR (pc := 20) (q := 0) (j := 145) fx_8_7 d20 rfl rfl (by decide) rfl rfl ?_
      refine V_bipush (pc := 23) (by decide) d23 ?_
      refine Vm_now (pc := 25) d25 (by decide) ?_
      refine V_iconst (pc := 26) d26 ?_
      refine V_idiv (pc := 27) d27 (by omega) (by decide) ?_
      refine V_goto (pc := 28) d28 (by decide) ?_
      refine V_istore (pc := 38) d38 (by decide) ?_
      refine V_iload_n (pc := 40) d40 rfl ?_
      refine V_iconst (pc := 41) d41 ?_
      refine V_iand (pc := 42) d42 ?_
      refine V_if_ne (pc := 43) d43 (by decide) (by omega) (fun h43 => ?_) (fun h43 => ?_)
      · refine V_iload_n (pc := 50) d50 rfl ?_
        refine V_iconst (pc := 51) d51 ?_
        refine V_icmp_ne (pc := 52) d52 (by decide) (by omega) (by decide) (fun h52 => ?_) (fun h52 => ?_)
        · refine V_iload (pc := 59) d59 rfl ?_
          refine V_iconst (pc := 61) d61 ?_
          refine V_icmp_ne (pc := 62) d62 (by decide) (by omega) (by decide) (fun h62 => ?_) (fun h62 => ?_)
          · refine V_iload (pc := 69) d69 rfl ?_
            refine V_iload (pc := 71) d71 rfl ?_
            refine V_icmp_le (pc := 73) d73 (by decide) (by omega) (by omega) (fun h73 => ?_) (fun h73 => ?_)
            · refine V_iconst (pc := 80) d80 ?_
              refine V_ret (pc := 81) (v := some (zI _)) ⟨d81, _, rfl, rfl⟩ ?_
              exact Qv k (by unfold wny; (repeat' split) <;> omega) rfl
            · refine V_iconst (pc := 76) d76 ?_
              refine V_goto (pc := 77) d77 (by decide) ?_
              refine V_ret (pc := 81) (v := some (zI _)) ⟨d81, _, rfl, rfl⟩ ?_
              exact Qv k (by unfold wny; (repeat' split) <;> omega) rfl
          · refine V_iconst (pc := 65) d65 ?_
            refine V_goto (pc := 66) d66 (by decide) ?_
            refine V_ret (pc := 81) (v := some (zI _)) ⟨d81, _, rfl, rfl⟩ ?_
            exact Qv k (by unfold wny; (repeat' split) <;> omega) rfl
        · refine V_iconst (pc := 55) d55 ?_
          refine V_goto (pc := 56) d56 (by decide) ?_
          refine V_ret (pc := 81) (v := some (zI _)) ⟨d81, _, rfl, rfl⟩ ?_
          exact Qv k (by unfold wny; (repeat' split) <;> omega) rfl
      · refine V_iconst (pc := 46) d46 ?_
        refine V_goto (pc := 47) d47 (by decide) ?_
        refine V_ret (pc := 81) (v := some (zI _)) ⟨d81, _, rfl, rfl⟩ ?_
        exact Qv k (by unfold wny; (repeat' split) <;> omega) rfl
  · refine V_iconst (pc := 5) d5 ?_
    refine V_ret (pc := 6) (v := some (zI _)) ⟨d6, _, rfl, rfl⟩ ?_
    exact Qv k (by unfold wny; (repeat' split) <;> omega) rfl
theorem L_X8_placeOf {σ : Sto} {now : Int → Int} {P : PT} {T : TT} {Q : Option Value → Sto → Prop} {j : Int} (hj : -2147483648 ≤ j ∧ j < 2147483648) (hR : RR now) (k : Q (some (zI (plc now j))) (mst σ now P T)) : ∀ n : Nat, n ≤ (now 0).toNat → (∀ i : Int, 0 ≤ i → i < (n : Int) → ¬ jf now i 0 = j) → V M_X8_placeOf 150 2 [(0, .ref 144), (1, zI j), (2, zI (n : Int))] [] 150 (mst σ now P T) Q := by
  refine loop_nat ((now 0).toNat) (fun n hn ih => ?_)
  intro hv
  obtain ⟨d0, d1, d2, d3, d4, d7, d8, d9, d12, d13, d14, d15, d18, d19, d22, d23, d24, d27, d30, d31, -⟩ := D_X8_placeOf
  have h0 := hR.2.1
  refine V_iload_n (pc := 2) d2 rfl ?_
  refine V_aload_n (pc := 3) d3 rfl (Or.inl ⟨_, rfl⟩) ?_
  refine V_getR (pc := 4) (q := 0) (j := 145) fx_8_7 d4 rfl rfl (by decide) rfl rfl ?_
  refine V_iconst (pc := 7) d7 ?_
  refine Vm_now (pc := 8) d8 (by decide) ?_
  refine V_icmp_ge (pc := 9) d9 (by decide) (by omega) (by omega) (fun h9 => ?_) (fun h9 => ?_)
  · refine V_iconst (pc := 30) d30 ?_
    refine V_ret (pc := 31) (v := some (zI _)) ⟨d31, _, rfl, rfl⟩ ?_
    exact Qv k (plc_no (fun i a c => hv i a (by omega))) rfl
  · have hJ := hR.2.2.2 (n : Int) (by omega) (by omega)
    have jj := hJ
    unfold JB at jj
    refine V_aload_n (pc := 12) d12 rfl (Or.inl ⟨_, rfl⟩) ?_
    refine V_iload_n (pc := 13) d13 rfl ?_
    refine V_iconst (pc := 14) d14 ?_
    refine V_cV2 (pc := 15) ca_8_64 d15 (by decide) (Nat.le_of_ble_eq_true rfl) (by decide) rfl (by decide) (c_X8_of (by omega) ?_)
    refine V_iload_n (pc := 18) d18 rfl ?_
    refine V_icmp_ne (pc := 19) d19 (by decide) (by omega) (by omega) (fun h19 => ?_) (fun h19 => ?_)
    · refine V_iinc (pc := 24) d24 rfl (by decide) ?_
      refine V_goto (pc := 27) d27 (by decide) ?_
      exact V_lq [(0, .ref 144), (1, zI j), (2, zI ((n + 1 : Nat) : Int))] ⟨⟨_, rfl, rfl⟩, ⟨_, rfl, rfl⟩, ⟨_, rfl, rfl⟩, trivial⟩ (ih (by omega) (fun i a c => by
        by_cases z : i = (n : Int)
        · rw [z]; exact h19
        · exact hv i a (by omega)))
    · refine V_iload_n (pc := 22) d22 rfl ?_
      refine V_ret (pc := 23) (v := some (zI _)) ⟨d23, _, rfl, rfl⟩ ?_
      exact Qv k (plc_at (by omega) (by omega) h19 hv) rfl
theorem c_X8_placeOf {σ : Sto} {now : Int → Int} {P : PT} {T : TT} {Q : Option Value → Sto → Prop} {j : Int} (hj : -2147483648 ≤ j ∧ j < 2147483648) (hR : RR now) (k : Q (some (zI (plc now j))) (mst σ now P T)) : Con M_X8_placeOf 150 150 (mst σ now P T) [.ref 144, zI j] Q := by
  refine V_entry ok_X8_placeOf (Nat.le_refl _) (Nat.le_of_ble_eq_true rfl) (V_ls [(0, .ref 144), (1, zI j)] ⟨rfl, rfl, trivial⟩ ?_)
  obtain ⟨d0, d1, d2, d3, d4, d7, d8, d9, d12, d13, d14, d15, d18, d19, d22, d23, d24, d27, d30, d31, -⟩ := D_X8_placeOf
  refine V_iconst (pc := 0) d0 ?_
  refine V_istore_n (pc := 1) d1 (by decide) ?_
  exact V_lq [(0, .ref 144), (1, zI j), (2, zI ((0 : Nat) : Int))] ⟨⟨_, rfl, rfl⟩, ⟨_, rfl, rfl⟩, ⟨_, rfl, rfl⟩, trivial⟩ (L_X8_placeOf hj hR k 0 (by omega) (fun i a c => absurd c (by omega)))
theorem L_X8_nextJob {σ : Sto} {now : Int → Int} {P : PT} {T : TT} {Q : Option Value → Sto → Prop} (hR : RR now) (k : Q (some (zI (nxj now))) (mst σ now P T)) : ∀ n : Nat, n ≤ (now 0).toNat → V M_X8_nextJob 150 4 [(0, .ref 144), (1, zI (nxF now n)), (2, zI (n : Int))] [] 150 (mst σ now P T) Q := by
  refine loop_nat ((now 0).toNat) (fun n hn ih => ?_)
  obtain ⟨d0, d1, d2, d3, d4, d5, d6, d9, d10, d11, d14, d15, d16, d18, d21, d24, d25, d28, d29, d30, d31, d34, d37, d38, d41, d42, d43, d46, d49, d50, -⟩ := D_X8_nextJob
  have h0 := hR.2.1
  have g7 := hR.1 7 (by decide) (by decide) (by decide)
  have f := nxF_rg now n
  refine V_iload_n (pc := 4) d4 rfl ?_
  refine V_aload_n (pc := 5) d5 rfl (Or.inl ⟨_, rfl⟩) ?_
  refine V_getR (pc := 6) (q := 0) (j := 145) fx_8_7 d6 rfl rfl (by decide) rfl rfl ?_
  refine V_iconst (pc := 9) d9 ?_
  refine Vm_now (pc := 10) d10 (by decide) ?_
  refine V_icmp_ge (pc := 11) d11 (by decide) (by omega) (by omega) (fun h11 => ?_) (fun h11 => ?_)
  · refine V_iload_n (pc := 49) d49 rfl ?_
    refine V_ret (pc := 50) (v := some (zI _)) ⟨d50, _, rfl, rfl⟩ ?_
    exact Qv k (by unfold nxj; rw [show n = (now 0).toNat by omega]) rfl
  · have hJ := hR.2.2.2 (n : Int) (by omega) (by omega)
    have jj := hJ
    unfold JB at jj
    refine V_aload_n (pc := 14) d14 rfl (Or.inl ⟨_, rfl⟩) ?_
    refine V_iload_n (pc := 15) d15 rfl ?_
    refine V_bipush (pc := 16) (by decide) d16 ?_
    refine V_cV2 (pc := 18) ca_8_64 d18 (by decide) (Nat.le_of_ble_eq_true rfl) (by decide) rfl (by decide) (c_X8_of (by omega) ?_)
    refine V_if_ne (pc := 21) d21 (by decide) (by omega) (fun h21 => ?_) (fun h21 => ?_)
    · refine V_iload_n (pc := 41) d41 rfl ?_
      refine V_istore_n (pc := 42) d42 (by decide) ?_
      refine V_iinc (pc := 43) d43 rfl (by decide) ?_
      refine V_goto (pc := 46) d46 (by decide) ?_
      exact V_lq [(0, .ref 144), (1, zI (nxF now (n + 1))), (2, zI ((n + 1 : Nat) : Int))] ⟨⟨_, rfl, rfl⟩, ⟨_, rfl, congrArg (fun e : Int => zI e) (by (show _ = (if jf now (n : Int) 7 = 0 ∧ (nxF now n < 0 ∨ ahd now (n : Int) (nxF now n)) then (n : Int) else nxF now n); split <;> first | rfl | omega))⟩, ⟨_, rfl, rfl⟩, trivial⟩ (ih (by omega))
    · refine V_iload_n (pc := 24) d24 rfl ?_
      refine V_if_lt (pc := 25) d25 (by decide) (by omega) (fun h25 => ?_) (fun h25 => ?_)
      · refine V_iload_n (pc := 37) d37 rfl ?_
        refine V_goto (pc := 38) d38 (by decide) ?_
        refine V_istore_n (pc := 42) d42 (by decide) ?_
        refine V_iinc (pc := 43) d43 rfl (by decide) ?_
        refine V_goto (pc := 46) d46 (by decide) ?_
        exact V_lq [(0, .ref 144), (1, zI (nxF now (n + 1))), (2, zI ((n + 1 : Nat) : Int))] ⟨⟨_, rfl, rfl⟩, ⟨_, rfl, congrArg (fun e : Int => zI e) (by (show _ = (if jf now (n : Int) 7 = 0 ∧ (nxF now n < 0 ∨ ahd now (n : Int) (nxF now n)) then (n : Int) else nxF now n); split <;> first | rfl | omega))⟩, ⟨_, rfl, rfl⟩, trivial⟩ (ih (by omega))
      · have hK := hR.2.2.2 (nxF now n) (by omega) (by omega)
        refine V_aload_n (pc := 28) d28 rfl (Or.inl ⟨_, rfl⟩) ?_
        refine V_iload_n (pc := 29) d29 rfl ?_
        refine V_iload_n (pc := 30) d30 rfl ?_
        refine V_cV2 (pc := 31) ca_8_115 d31 (by decide) (Nat.le_of_ble_eq_true rfl) (by decide) rfl (by decide) (c_X8_isAhead g7 (by assumption) (by assumption) (fun h_ia => ?_) (fun h_ia => ?_))
        · refine V_if_eq (pc := 34) d34 (by decide) (by decide) (fun h => absurd h (by decide)) (fun _ => ?_)
          refine V_iload_n (pc := 37) d37 rfl ?_
          refine V_goto (pc := 38) d38 (by decide) ?_
          refine V_istore_n (pc := 42) d42 (by decide) ?_
          refine V_iinc (pc := 43) d43 rfl (by decide) ?_
          refine V_goto (pc := 46) d46 (by decide) ?_
          exact V_lq [(0, .ref 144), (1, zI (nxF now (n + 1))), (2, zI ((n + 1 : Nat) : Int))] ⟨⟨_, rfl, rfl⟩, ⟨_, rfl, congrArg (fun e : Int => zI e) (by (show _ = (if jf now (n : Int) 7 = 0 ∧ (nxF now n < 0 ∨ ahd now (n : Int) (nxF now n)) then (n : Int) else nxF now n); split <;> first | rfl | omega))⟩, ⟨_, rfl, rfl⟩, trivial⟩ (ih (by omega))
        · refine V_if_eq (pc := 34) d34 (by decide) (by decide) (fun _ => ?_) (fun h => absurd (by decide) h)
          refine V_iload_n (pc := 41) d41 rfl ?_
          refine V_istore_n (pc := 42) d42 (by decide) ?_
          refine V_iinc (pc := 43) d43 rfl (by decide) ?_
          refine V_goto (pc := 46) d46 (by decide) ?_
          exact V_lq [(0, .ref 144), (1, zI (nxF now (n + 1))), (2, zI ((n + 1 : Nat) : Int))] ⟨⟨_, rfl, rfl⟩, ⟨_, rfl, congrArg (fun e : Int => zI e) (by (show _ = (if jf now (n : Int) 7 = 0 ∧ (nxF now n < 0 ∨ ahd now (n : Int) (nxF now n)) then (n : Int) else nxF now n); split <;> first | rfl | omega))⟩, ⟨_, rfl, rfl⟩, trivial⟩ (ih (by omega))
theorem c_X8_nextJob {σ : Sto} {now : Int → Int} {P : PT} {T : TT} {Q : Option Value → Sto → Prop} (hR : RR now) (k : Q (some (zI (nxj now))) (mst σ now P T)) : Con M_X8_nextJob 150 150 (mst σ now P T) [.ref 144] Q := by
  refine V_entry ok_X8_nextJob (Nat.le_refl _) (Nat.le_of_ble_eq_true rfl) (V_ls [(0, .ref 144)] ⟨rfl, trivial⟩ ?_)
  obtain ⟨d0, d1, d2, d3, d4, d5, d6, d9, d10, d11, d14, d15, d16, d18, d21, d24, d25, d28, d29, d30, d31, d34, d37, d38, d41, d42, d43, d46, d49, d50, -⟩ := D_X8_nextJob
  refine V_iconst (pc := 0) d0 ?_
  refine V_istore_n (pc := 1) d1 (by decide) ?_
  refine V_iconst (pc := 2) d2 ?_
  refine V_istore_n (pc := 3) d3 (by decide) ?_
  exact V_lq [(0, .ref 144), (1, zI (nxF now 0)), (2, zI ((0 : Nat) : Int))] ⟨⟨_, rfl, rfl⟩, ⟨_, rfl, rfl⟩, ⟨_, rfl, rfl⟩, trivial⟩ (L_X8_nextJob hR k 0 (by omega))
theorem L_X8_heldOnes {σ : Sto} {now : Int → Int} {P : PT} {T : TT} {Q : Option Value → Sto → Prop} (hR : RR now) (k : Q (some (zI (hdN now (now 0).toNat))) (mst σ now P T)) : ∀ n : Nat, n ≤ (now 0).toNat → V M_X8_heldOnes 150 4 [(0, .ref 144), (1, zI (hdN now n)), (2, zI (n : Int))] [] 150 (mst σ now P T) Q := by
  refine loop_nat ((now 0).toNat) (fun n hn ih => ?_)
  obtain ⟨d0, d1, d2, d3, d4, d5, d6, d9, d10, d11, d14, d15, d16, d17, d19, d22, d23, d24, d27, d30, d31, -⟩ := D_X8_heldOnes
  have h0 := hR.2.1
  refine V_iload_n (pc := 4) d4 rfl ?_
  refine V_aload_n (pc := 5) d5 rfl (Or.inl ⟨_, rfl⟩) ?_
  refine V_getR (pc := 6) (q := 0) (j := 145) fx_8_7 d6 rfl rfl (by decide) rfl rfl ?_
  refine V_iconst (pc := 9) d9 ?_
  refine Vm_now (pc := 10) d10 (by decide) ?_
  refine V_icmp_ge (pc := 11) d11 (by decide) (by omega) (by omega) (fun h11 => ?_) (fun h11 => ?_)
  · refine V_iload_n (pc := 30) d30 rfl ?_
    refine V_ret (pc := 31) (v := some (zI _)) ⟨d31, _, rfl, rfl⟩ ?_
    exact Qv k (by rw [show n = (now 0).toNat by omega]) rfl
  · have hJ := hR.2.2.2 (n : Int) (by omega) (by omega)
    have jj := hJ
    unfold JB at jj
    refine V_iload_n (pc := 14) d14 rfl ?_
    refine V_aload_n (pc := 15) d15 rfl (Or.inl ⟨_, rfl⟩) ?_
    refine V_iload_n (pc := 16) d16 rfl ?_
    refine V_bipush (pc := 17) (by decide) d17 ?_
    refine V_cV2 (pc := 19) ca_8_64 d19 (by decide) (Nat.le_of_ble_eq_true rfl) (by decide) rfl (by decide) (c_X8_of (by omega) ?_)
    refine V_iadd (pc := 22) d22 ?_
    refine V_istore_n (pc := 23) d23 (by decide) ?_
    refine V_iinc (pc := 24) d24 rfl (by decide) ?_
    refine V_goto (pc := 27) d27 (by decide) ?_
    exact V_lq [(0, .ref 144), (1, zI (hdN now (n + 1))), (2, zI ((n + 1 : Nat) : Int))] ⟨⟨_, rfl, rfl⟩, ⟨_, rfl, rfl⟩, ⟨_, rfl, rfl⟩, trivial⟩ (ih (by omega))
theorem c_X8_heldOnes {σ : Sto} {now : Int → Int} {P : PT} {T : TT} {Q : Option Value → Sto → Prop} (hR : RR now) (k : Q (some (zI (hdN now (now 0).toNat))) (mst σ now P T)) : Con M_X8_heldOnes 150 150 (mst σ now P T) [.ref 144] Q := by
  refine V_entry ok_X8_heldOnes (Nat.le_refl _) (Nat.le_of_ble_eq_true rfl) (V_ls [(0, .ref 144)] ⟨rfl, trivial⟩ ?_)
  obtain ⟨d0, d1, d2, d3, d4, d5, d6, d9, d10, d11, d14, d15, d16, d17, d19, d22, d23, d24, d27, d30, d31, -⟩ := D_X8_heldOnes
  refine V_iconst (pc := 0) d0 ?_
  refine V_istore_n (pc := 1) d1 (by decide) ?_
  refine V_iconst (pc := 2) d2 ?_
  refine V_istore_n (pc := 3) d3 (by decide) ?_
  exact V_lq [(0, .ref 144), (1, zI (hdN now 0)), (2, zI ((0 : Nat) : Int))] ⟨⟨_, rfl, rfl⟩, ⟨_, rfl, rfl⟩, ⟨_, rfl, rfl⟩, trivial⟩ (L_X8_heldOnes hR k 0 (by omega))
theorem L_X8_queued_i {σ : Sto} {now : Int → Int} {P : PT} {T : TT} {Q : Option Value → Sto → Prop} {p q : Int} (hR : RR now) (hp : 0 ≤ p ∧ p < now 0) (k : V M_X8_queued 150 64 [(0, .ref 144), (1, zI q), (2, zI p), (3, zI (ahN now p (now 0).toNat))] [] 150 (mst σ now P T) Q) : ∀ n : Nat, n ≤ (now 0).toNat → V M_X8_queued 150 23 [(0, .ref 144), (1, zI q), (2, zI p), (3, zI (ahN now p n)), (4, zI (n : Int))] [] 150 (mst σ now P T) Q := by
  refine loop_nat ((now 0).toNat) (fun n hn ih => ?_)
  obtain ⟨d0, d1, d4, d5, d6, d7, d8, d9, d10, d13, d14, d15, d18, d19, d20, d21, d23, d25, d26, d29, d30, d31, d34, d35, d37, d38, d41, d42, d44, d45, d48, d51, d52, d55, d56, d57, d58, d61, d64, d65, d66, d69, d70, d71, d72, d75, d76, d79, d82, d84, -⟩ := D_X8_queued
  have h0 := hR.2.1
  have g7 := hR.1 7 (by decide) (by decide) (by decide)
  have hK := hR.2.2.2 p hp.1 hp.2
  refine V_iload (pc := 23) d23 rfl ?_
  refine V_aload_n (pc := 25) d25 rfl (Or.inl ⟨_, rfl⟩) ?_
  refine V_getR (pc := 26) (q := 0) (j := 145) fx_8_7 d26 rfl rfl (by decide) rfl rfl ?_
  refine V_iconst (pc := 29) d29 ?_
  refine Vm_now (pc := 30) d30 (by decide) ?_
  refine V_icmp_ge (pc := 31) d31 (by decide) (by omega) (by omega) (fun h31 => ?_) (fun h31 => ?_)
  · exact V_lq [(0, .ref 144), (1, zI q), (2, zI p), (3, zI (ahN now p (now 0).toNat))] ⟨⟨_, rfl, rfl⟩, ⟨_, rfl, rfl⟩, ⟨_, rfl, rfl⟩, ⟨_, rfl, congrArg (fun e : Int => zI e) (by rw [show n = (now 0).toNat by omega])⟩, trivial⟩ k
  · have hJ := hR.2.2.2 (n : Int) (by omega) (by omega)
    have jj := hJ
    unfold JB at jj
    refine V_iload_n (pc := 34) d34 rfl ?_
    refine V_iload (pc := 35) d35 rfl ?_
    refine V_iload_n (pc := 37) d37 rfl ?_
    refine V_icmp_eq (pc := 38) d38 (by decide) (by omega) (by omega) (fun h38 => ?_) (fun h38 => ?_)
    · refine V_iconst (pc := 55) d55 ?_
      refine V_iadd (pc := 56) d56 ?_
      refine V_istore_n (pc := 57) d57 (by decide) ?_
      refine V_iinc (pc := 58) d58 rfl (by decide) ?_
      refine V_goto (pc := 61) d61 (by decide) ?_
      exact V_lq [(0, .ref 144), (1, zI q), (2, zI p), (3, zI (ahN now p (n + 1))), (4, zI ((n + 1 : Nat) : Int))] ⟨⟨_, rfl, rfl⟩, ⟨_, rfl, rfl⟩, ⟨_, rfl, rfl⟩, ⟨_, rfl, congrArg (fun e : Int => zI e) (by (show _ = ahN now p n + (if ¬ (n : Int) = p ∧ ahd now (n : Int) p then 1 else 0); split <;> omega))⟩, ⟨_, rfl, rfl⟩, trivial⟩ (ih (by omega))
    · refine V_aload_n (pc := 41) d41 rfl (Or.inl ⟨_, rfl⟩) ?_
      refine V_iload (pc := 42) d42 rfl ?_
      refine V_iload_n (pc := 44) d44 rfl ?_
      refine V_cV2 (pc := 45) ca_8_115 d45 (by decide) (Nat.le_of_ble_eq_true rfl) (by decide) rfl (by decide) (c_X8_isAhead g7 (by assumption) (by assumption) (fun h_ia => ?_) (fun h_ia => ?_))
      · refine V_if_eq (pc := 48) d48 (by decide) (by decide) (fun h => absurd h (by decide)) (fun _ => ?_)
        refine V_iconst (pc := 51) d51 ?_
        refine V_goto (pc := 52) d52 (by decide) ?_
        refine V_iadd (pc := 56) d56 ?_
        refine V_istore_n (pc := 57) d57 (by decide) ?_
        refine V_iinc (pc := 58) d58 rfl (by decide) ?_
        refine V_goto (pc := 61) d61 (by decide) ?_
        exact V_lq [(0, .ref 144), (1, zI q), (2, zI p), (3, zI (ahN now p (n + 1))), (4, zI ((n + 1 : Nat) : Int))] ⟨⟨_, rfl, rfl⟩, ⟨_, rfl, rfl⟩, ⟨_, rfl, rfl⟩, ⟨_, rfl, congrArg (fun e : Int => zI e) (by (show _ = ahN now p n + (if ¬ (n : Int) = p ∧ ahd now (n : Int) p then 1 else 0); split <;> omega))⟩, ⟨_, rfl, rfl⟩, trivial⟩ (ih (by omega))
      · refine V_if_eq (pc := 48) d48 (by decide) (by decide) (fun _ => ?_) (fun h => absurd (by decide) h)
        refine V_iconst (pc := 55) d55 ?_
        refine V_iadd (pc := 56) d56 ?_
        refine V_istore_n (pc := 57) d57 (by decide) ?_
        refine V_iinc (pc := 58) d58 rfl (by decide) ?_
        refine V_goto (pc := 61) d61 (by decide) ?_
        exact V_lq [(0, .ref 144), (1, zI q), (2, zI p), (3, zI (ahN now p (n + 1))), (4, zI ((n + 1 : Nat) : Int))] ⟨⟨_, rfl, rfl⟩, ⟨_, rfl, rfl⟩, ⟨_, rfl, rfl⟩, ⟨_, rfl, congrArg (fun e : Int => zI e) (by (show _ = ahN now p n + (if ¬ (n : Int) = p ∧ ahd now (n : Int) p then 1 else 0); split <;> omega))⟩, ⟨_, rfl, rfl⟩, trivial⟩ (ih (by omega))
theorem L_X8_queued {σ : Sto} {now : Int → Int} {P : PT} {T : TT} {Q : Option Value → Sto → Prop} {q : Int} (hR : RR now) (hq : 0 ≤ q ∧ q < 2147483648)  : ∀ n : Nat, n ≤ (now 0).toNat → Q (some (zI (quF now q ((now 0).toNat - n) n))) (mst σ now P T) → V M_X8_queued 150 8 [(0, .ref 144), (1, zI q), (2, zI (n : Int))] [] 150 (mst σ now P T) Q := by
  refine loop_nat ((now 0).toNat) (fun n hn ih => ?_)
  intro hv
  obtain ⟨d0, d1, d4, d5, d6, d7, d8, d9, d10, d13, d14, d15, d18, d19, d20, d21, d23, d25, d26, d29, d30, d31, d34, d35, d37, d38, d41, d42, d44, d45, d48, d51, d52, d55, d56, d57, d58, d61, d64, d65, d66, d69, d70, d71, d72, d75, d76, d79, d82, d84, -⟩ := D_X8_queued
  have h0 := hR.2.1
  refine V_iload_n (pc := 8) d8 rfl ?_
  refine V_aload_n (pc := 9) d9 rfl (Or.inl ⟨_, rfl⟩) ?_
  refine V_getR (pc := 10) (q := 0) (j := 145) fx_8_7 d10 rfl rfl (by decide) rfl rfl ?_
  refine V_iconst (pc := 13) d13 ?_
  refine Vm_now (pc := 14) d14 (by decide) ?_
  refine V_icmp_ge (pc := 15) d15 (by decide) (by omega) (by omega) (fun h15 => ?_) (fun h15 => ?_)
  · refine V_bipush (pc := 82) (by decide) d82 ?_
    refine V_ret (pc := 84) (v := some (zI _)) ⟨d84, _, rfl, rfl⟩ ?_
    exact Qv hv (by rw [show (now 0).toNat - n = 0 by omega]; rfl) rfl
  · refine V_iconst (pc := 18) d18 ?_
    refine V_istore_n (pc := 19) d19 (by decide) ?_
    refine V_iconst (pc := 20) d20 ?_
    refine V_istore (pc := 21) d21 (by decide) ?_
    refine V_lq [(0, .ref 144), (1, zI q), (2, zI (n : Int)), (3, zI (ahN now (n : Int) 0)), (4, zI ((0 : Nat) : Int))] ⟨⟨_, rfl, rfl⟩, ⟨_, rfl, rfl⟩, ⟨_, rfl, rfl⟩, ⟨_, rfl, rfl⟩, ⟨_, rfl, rfl⟩, trivial⟩ (L_X8_queued_i hR (by omega) ?_ 0 (by omega))
    have f := ahN_rg now (n : Int) (now 0).toNat
    have e : (now 0).toNat - n = ((now 0).toNat - (n + 1)) + 1 := by omega
    refine V_iload_n (pc := 64) d64 rfl ?_
    refine V_iload_n (pc := 65) d65 rfl ?_
    refine V_icmp_ne (pc := 66) d66 (by decide) (by omega) (by omega) (fun h66 => ?_) (fun h66 => ?_)
    · refine V_iinc (pc := 76) d76 rfl (by decide) ?_
      refine V_goto (pc := 79) d79 (by decide) ?_
      exact V_lq [(0, .ref 144), (1, zI q), (2, zI ((n + 1 : Nat) : Int))] ⟨⟨_, rfl, rfl⟩, ⟨_, rfl, rfl⟩, ⟨_, rfl, rfl⟩, trivial⟩ (ih (by omega) (Qv hv (by rw [e, quF, if_neg h66]) rfl))
    · have hJ := hR.2.2.2 (n : Int) (by omega) (by omega)
      have jj := hJ
      unfold JB at jj
      refine V_aload_n (pc := 69) d69 rfl (Or.inl ⟨_, rfl⟩) ?_
      refine V_iload_n (pc := 70) d70 rfl ?_
      refine V_iconst (pc := 71) d71 ?_
      refine V_cV2 (pc := 72) ca_8_64 d72 (by decide) (Nat.le_of_ble_eq_true rfl) (by decide) rfl (by decide) (c_X8_of (by omega) ?_)
      refine V_ret (pc := 75) (v := some (zI _)) ⟨d75, _, rfl, rfl⟩ ?_
      exact Qv hv (by rw [e, quF, if_pos h66]) rfl
theorem c_X8_queued {σ : Sto} {now : Int → Int} {P : PT} {T : TT} {Q : Option Value → Sto → Prop} {q : Int} (hR : RR now) (r_q : -2147483648 ≤ q ∧ q < 2147483648) (k1 : q < 0 → Q (some (zI (-1))) (mst σ now P T)) (k : 0 ≤ q → Q (some (zI (quF now q (now 0).toNat 0))) (mst σ now P T)) : Con M_X8_queued 150 150 (mst σ now P T) [.ref 144, zI q] Q := by
  refine V_entry ok_X8_queued (Nat.le_refl _) (Nat.le_of_ble_eq_true rfl) (V_ls [(0, .ref 144), (1, zI q)] ⟨rfl, rfl, trivial⟩ ?_)
  obtain ⟨d0, d1, d4, d5, d6, d7, d8, d9, d10, d13, d14, d15, d18, d19, d20, d21, d23, d25, d26, d29, d30, d31, d34, d35, d37, d38, d41, d42, d44, d45, d48, d51, d52, d55, d56, d57, d58, d61, d64, d65, d66, d69, d70, d71, d72, d75, d76, d79, d82, d84, -⟩ := D_X8_queued
  refine V_iload_n (pc := 0) d0 rfl ?_
  refine V_if_ge (pc := 1) d1 (by decide) (by omega) (fun h1 => ?_) (fun h1 => ?_)
  · refine V_iconst (pc := 6) d6 ?_
    refine V_istore_n (pc := 7) d7 (by decide) ?_
    exact V_lq [(0, .ref 144), (1, zI q), (2, zI ((0 : Nat) : Int))] ⟨⟨_, rfl, rfl⟩, ⟨_, rfl, rfl⟩, ⟨_, rfl, rfl⟩, trivial⟩ (L_X8_queued hR (by omega) 0 (by omega) (k (by omega)))
  · refine V_iconst (pc := 4) d4 ?_
    refine V_ret (pc := 5) (v := some (zI _)) ⟨d5, _, rfl, rfl⟩ ?_
    exact k1 (by omega)
theorem lkN_rg {r : Int → Int} (hR : RR r) (s q : Int) : ∀ n : Nat, (n : Int) ≤ r 0 → -12000000 - 20000 * (n : Int) ≤ lkN r s q n ∧ lkN r s q n ≤ 12000000 + 20000 * (n : Int)
  | 0, _ => by
    have h := shA_rg hR.1 s q 4 (by omega)
    unfold lkN
    omega
  | n + 1, h => by
    have i := lkN_rg hR s q n (by omega)
    have hJ := hR.2.2.2 (n : Int) (by omega) (by omega)
    have a := als_rg hJ
    have j := hJ
    unfold JB at j
    unfold lkN
    (repeat' split) <;> omega
theorem L_X8_lacking {σ : Sto} {now : Int → Int} {P : PT} {T : TT} {Q : Option Value → Sto → Prop} {s q : Int} (hR : RR now) (r_s : -2147483648 ≤ s ∧ s < 2147483648) (r_q : -2147483648 ≤ q ∧ q < 2147483648) (k : Q (some (zI (if lkN now s q (now 0).toNat < 0 then 0 else lkN now s q (now 0).toNat))) (mst σ now P T)) : ∀ n : Nat, n ≤ (now 0).toNat → V M_X8_lacking 150 21 [(0, .ref 144), (1, zI s), (2, zI q), (3, zI (lkN now s q n)), (4, zI (n : Int))] [] 150 (mst σ now P T) Q := by
  refine loop_nat ((now 0).toNat) (fun n hn ih => ?_)
  obtain ⟨d0, d1, d2, d5, d8, d9, d10, d11, d12, d13, d16, d17, d18, d19, d21, d23, d24, d27, d28, d29, d32, d33, d35, d36, d39, d40, d43, d44, d46, d47, d50, d51, d54, d55, d58, d59, d61, d62, d65, d66, d67, d68, d71, d72, d75, d77, d78, d79, d81, d82, d85, d88, d89, d92, d93, d95, d96, d98, d101, d102, d104, d107, d108, d110, d112, d115, d116, d118, d119, d122, d123, d124, d125, d128, d131, d132, d135, d136, d139, d140, -⟩ := D_X8_lacking
  have h0 := hR.2.1
  have g5 := hR.1 5 (by decide) (by decide) (by decide)
  have g6 := hR.1 6 (by decide) (by decide) (by decide)
  have lr := lkN_rg hR s q n (by omega)
  refine V_iload (pc := 21) d21 rfl ?_
  refine V_aload_n (pc := 23) d23 rfl (Or.inl ⟨_, rfl⟩) ?_
  refine V_getR (pc := 24) (q := 0) (j := 145) fx_8_7 d24 rfl rfl (by decide) rfl rfl ?_
  refine V_iconst (pc := 27) d27 ?_
  refine Vm_now (pc := 28) d28 (by decide) ?_
  refine V_icmp_ge (pc := 29) d29 (by decide) (by omega) (by omega) (fun h29 => ?_) (fun h29 => ?_)
  · refine V_iload_n (pc := 131) d131 rfl ?_
    refine V_if_ge (pc := 132) d132 (by decide) (by omega) (fun h132 => ?_) (fun h132 => ?_)
    · refine V_iload_n (pc := 139) d139 rfl ?_
      refine V_ret (pc := 140) (v := some (zI _)) ⟨d140, _, rfl, rfl⟩ ?_
      obtain rfl : n = (now 0).toNat := by omega
      exact Qv k (by split <;> omega) rfl
    · refine V_iconst (pc := 135) d135 ?_
      refine V_goto (pc := 136) d136 (by decide) ?_
      refine V_ret (pc := 140) (v := some (zI _)) ⟨d140, _, rfl, rfl⟩ ?_
      obtain rfl : n = (now 0).toNat := by omega
      exact Qv k (by split <;> omega) rfl
  · have hJ := hR.2.2.2 (n : Int) (by omega) (by omega)
    have jj := hJ
    unfold JB at jj
    refine V_aload_n (pc := 32) d32 rfl (Or.inl ⟨_, rfl⟩) ?_
    refine V_iload (pc := 33) d33 rfl ?_
    refine V_iconst (pc := 35) d35 ?_
    refine V_cV2 (pc := 36) ca_8_64 d36 (by decide) (Nat.le_of_ble_eq_true rfl) (by decide) rfl (by decide) (c_X8_of (by omega) ?_)
    refine V_iload_n (pc := 39) d39 rfl ?_
    refine V_icmp_ne (pc := 40) d40 (by decide) (by omega) (by omega) (fun h40 => ?_) (fun h40 => ?_)
    · refine V_iconst (pc := 58) d58 ?_
      refine V_istore (pc := 59) d59 (by decide) ?_
      refine V_aload_n (pc := 61) d61 rfl (Or.inl ⟨_, rfl⟩) ?_
      refine V_getR (pc := 62) (q := 0) (j := 145) fx_8_7 d62 rfl rfl (by decide) rfl rfl ?_
      refine V_iconst (pc := 65) d65 ?_
      refine Vm_now (pc := 66) d66 (by decide) ?_
      refine V_iconst (pc := 67) d67 ?_
      refine V_icmp_ne (pc := 68) d68 (by decide) (by omega) (by decide) (fun h68 => ?_) (fun h68 => ?_)
      · refine V_iconst (pc := 92) d92 ?_
        refine V_istore (pc := 93) d93 (by decide) ?_
        refine V_iload_n (pc := 95) d95 rfl ?_
        refine V_iload (pc := 96) d96 rfl ?_
        refine V_if_eq (pc := 98) d98 (by decide) (by decide) (fun _ => ?_) (fun h => absurd (by decide) h)
        refine V_iconst (pc := 122) d122 ?_
        refine V_iadd (pc := 123) d123 ?_
        refine V_istore_n (pc := 124) d124 (by decide) ?_
        refine V_iinc (pc := 125) d125 rfl (by decide) ?_
        refine V_goto (pc := 128) d128 (by decide) ?_
        exact V_lq [(0, .ref 144), (1, zI s), (2, zI q), (3, zI (lkN now s q (n + 1))), (4, zI ((n + 1 : Nat) : Int))] ⟨⟨_, rfl, rfl⟩, ⟨_, rfl, rfl⟩, ⟨_, rfl, rfl⟩, ⟨_, rfl, congrArg (fun e : Int => zI e) (by (show _ = lkN now s q n + (if jf now (n : Int) 3 = s ∧ jf now (n : Int) 4 = q then als now (n : Int) - jf now (n : Int) 8 - (if now 5 = 1 ∧ now 6 = jf now (n : Int) 0 then 1 else 0) else 0); (repeat' split) <;> omega))⟩, ⟨_, rfl, rfl⟩, trivial⟩ (ih (by omega))
      · refine V_aload_n (pc := 71) d71 rfl (Or.inl ⟨_, rfl⟩) ?_
        refine V_getR (pc := 72) (q := 0) (j := 145) fx_8_7 d72 rfl rfl (by decide) rfl rfl ?_
        refine V_bipush (pc := 75) (by decide) d75 ?_
        refine Vm_now (pc := 77) d77 (by decide) ?_
        refine V_aload_n (pc := 78) d78 rfl (Or.inl ⟨_, rfl⟩) ?_
        refine V_iload (pc := 79) d79 rfl ?_
        refine V_iconst (pc := 81) d81 ?_
        refine V_cV2 (pc := 82) ca_8_64 d82 (by decide) (Nat.le_of_ble_eq_true rfl) (by decide) rfl (by decide) (c_X8_of (by omega) ?_)
        refine V_icmp_ne (pc := 85) d85 (by decide) (by omega) (by omega) (fun h85 => ?_) (fun h85 => ?_)
        · refine V_iconst (pc := 92) d92 ?_
          refine V_istore (pc := 93) d93 (by decide) ?_
          refine V_iload_n (pc := 95) d95 rfl ?_
          refine V_iload (pc := 96) d96 rfl ?_
          refine V_if_eq (pc := 98) d98 (by decide) (by decide) (fun _ => ?_) (fun h => absurd (by decide) h)
          refine V_iconst (pc := 122) d122 ?_
          refine V_iadd (pc := 123) d123 ?_
          refine V_istore_n (pc := 124) d124 (by decide) ?_
          refine V_iinc (pc := 125) d125 rfl (by decide) ?_
          refine V_goto (pc := 128) d128 (by decide) ?_
          exact V_lq [(0, .ref 144), (1, zI s), (2, zI q), (3, zI (lkN now s q (n + 1))), (4, zI ((n + 1 : Nat) : Int))] ⟨⟨_, rfl, rfl⟩, ⟨_, rfl, rfl⟩, ⟨_, rfl, rfl⟩, ⟨_, rfl, congrArg (fun e : Int => zI e) (by (show _ = lkN now s q n + (if jf now (n : Int) 3 = s ∧ jf now (n : Int) 4 = q then als now (n : Int) - jf now (n : Int) 8 - (if now 5 = 1 ∧ now 6 = jf now (n : Int) 0 then 1 else 0) else 0); (repeat' split) <;> omega))⟩, ⟨_, rfl, rfl⟩, trivial⟩ (ih (by omega))
        · refine V_iconst (pc := 88) d88 ?_
          refine V_goto (pc := 89) d89 (by decide) ?_
          refine V_istore (pc := 93) d93 (by decide) ?_
          refine V_iload_n (pc := 95) d95 rfl ?_
          refine V_iload (pc := 96) d96 rfl ?_
          refine V_if_eq (pc := 98) d98 (by decide) (by decide) (fun _ => ?_) (fun h => absurd (by decide) h)
          refine V_iconst (pc := 122) d122 ?_
          refine V_iadd (pc := 123) d123 ?_
          refine V_istore_n (pc := 124) d124 (by decide) ?_
          refine V_iinc (pc := 125) d125 rfl (by decide) ?_
          refine V_goto (pc := 128) d128 (by decide) ?_
          exact V_lq [(0, .ref 144), (1, zI s), (2, zI q), (3, zI (lkN now s q (n + 1))), (4, zI ((n + 1 : Nat) : Int))] ⟨⟨_, rfl, rfl⟩, ⟨_, rfl, rfl⟩, ⟨_, rfl, rfl⟩, ⟨_, rfl, congrArg (fun e : Int => zI e) (by (show _ = lkN now s q n + (if jf now (n : Int) 3 = s ∧ jf now (n : Int) 4 = q then als now (n : Int) - jf now (n : Int) 8 - (if now 5 = 1 ∧ now 6 = jf now (n : Int) 0 then 1 else 0) else 0); (repeat' split) <;> omega))⟩, ⟨_, rfl, rfl⟩, trivial⟩ (ih (by omega))
    · refine V_aload_n (pc := 43) d43 rfl (Or.inl ⟨_, rfl⟩) ?_
      refine V_iload (pc := 44) d44 rfl ?_
      refine V_iconst (pc := 46) d46 ?_
      refine V_cV2 (pc := 47) ca_8_64 d47 (by decide) (Nat.le_of_ble_eq_true rfl) (by decide) rfl (by decide) (c_X8_of (by omega) ?_)
      refine V_iload_n (pc := 50) d50 rfl ?_
      refine V_icmp_ne (pc := 51) d51 (by decide) (by omega) (by omega) (fun h51 => ?_) (fun h51 => ?_)
      · refine V_iconst (pc := 58) d58 ?_
        refine V_istore (pc := 59) d59 (by decide) ?_
        refine V_aload_n (pc := 61) d61 rfl (Or.inl ⟨_, rfl⟩) ?_
        refine V_getR (pc := 62) (q := 0) (j := 145) fx_8_7 d62 rfl rfl (by decide) rfl rfl ?_
        refine V_iconst (pc := 65) d65 ?_
        refine Vm_now (pc := 66) d66 (by decide) ?_
        refine V_iconst (pc := 67) d67 ?_
        refine V_icmp_ne (pc := 68) d68 (by decide) (by omega) (by decide) (fun h68 => ?_) (fun h68 => ?_)
        · refine V_iconst (pc := 92) d92 ?_
          refine V_istore (pc := 93) d93 (by decide) ?_
          refine V_iload_n (pc := 95) d95 rfl ?_
          refine V_iload (pc := 96) d96 rfl ?_
          refine V_if_eq (pc := 98) d98 (by decide) (by decide) (fun _ => ?_) (fun h => absurd (by decide) h)
          refine V_iconst (pc := 122) d122 ?_
          refine V_iadd (pc := 123) d123 ?_
          refine V_istore_n (pc := 124) d124 (by decide) ?_
          refine V_iinc (pc := 125) d125 rfl (by decide) ?_
          refine V_goto (pc := 128) d128 (by decide) ?_
          exact V_lq [(0, .ref 144), (1, zI s), (2, zI q), (3, zI (lkN now s q (n + 1))), (4, zI ((n + 1 : Nat) : Int))] ⟨⟨_, rfl, rfl⟩, ⟨_, rfl, rfl⟩, ⟨_, rfl, rfl⟩, ⟨_, rfl, congrArg (fun e : Int => zI e) (by (show _ = lkN now s q n + (if jf now (n : Int) 3 = s ∧ jf now (n : Int) 4 = q then als now (n : Int) - jf now (n : Int) 8 - (if now 5 = 1 ∧ now 6 = jf now (n : Int) 0 then 1 else 0) else 0); (repeat' split) <;> omega))⟩, ⟨_, rfl, rfl⟩, trivial⟩ (ih (by omega))
        · refine V_aload_n (pc := 71) d71 rfl (Or.inl ⟨_, rfl⟩) ?_
          refine V_getR (pc := 72) (q := 0) (j := 145) fx_8_7 d72 rfl rfl (by decide) rfl rfl ?_
          refine V_bipush (pc := 75) (by decide) d75 ?_
          refine Vm_now (pc := 77) d77 (by decide) ?_
          refine V_aload_n (pc := 78) d78 rfl (Or.inl ⟨_, rfl⟩) ?_
          refine V_iload (pc := 79) d79 rfl ?_
          refine V_iconst (pc := 81) d81 ?_
          refine V_cV2 (pc := 82) ca_8_64 d82 (by decide) (Nat.le_of_ble_eq_true rfl) (by decide) rfl (by decide) (c_X8_of (by omega) ?_)
          refine V_icmp_ne (pc := 85) d85 (by decide) (by omega) (by omega) (fun h85 => ?_) (fun h85 => ?_)
          · refine V_iconst (pc := 92) d92 ?_
            refine V_istore (pc := 93) d93 (by decide) ?_
            refine V_iload_n (pc := 95) d95 rfl ?_
            refine V_iload (pc := 96) d96 rfl ?_
            refine V_if_eq (pc := 98) d98 (by decide) (by decide) (fun _ => ?_) (fun h => absurd (by decide) h)
            refine V_iconst (pc := 122) d122 ?_
            refine V_iadd (pc := 123) d123 ?_
            refine V_istore_n (pc := 124) d124 (by decide) ?_
            refine V_iinc (pc := 125) d125 rfl (by decide) ?_
            refine V_goto (pc := 128) d128 (by decide) ?_
            exact V_lq [(0, .ref 144), (1, zI s), (2, zI q), (3, zI (lkN now s q (n + 1))), (4, zI ((n + 1 : Nat) : Int))] ⟨⟨_, rfl, rfl⟩, ⟨_, rfl, rfl⟩, ⟨_, rfl, rfl⟩, ⟨_, rfl, congrArg (fun e : Int => zI e) (by (show _ = lkN now s q n + (if jf now (n : Int) 3 = s ∧ jf now (n : Int) 4 = q then als now (n : Int) - jf now (n : Int) 8 - (if now 5 = 1 ∧ now 6 = jf now (n : Int) 0 then 1 else 0) else 0); (repeat' split) <;> omega))⟩, ⟨_, rfl, rfl⟩, trivial⟩ (ih (by omega))
          · refine V_iconst (pc := 88) d88 ?_
            refine V_goto (pc := 89) d89 (by decide) ?_
            refine V_istore (pc := 93) d93 (by decide) ?_
            refine V_iload_n (pc := 95) d95 rfl ?_
            refine V_iload (pc := 96) d96 rfl ?_
            refine V_if_eq (pc := 98) d98 (by decide) (by decide) (fun _ => ?_) (fun h => absurd (by decide) h)
            refine V_iconst (pc := 122) d122 ?_
            refine V_iadd (pc := 123) d123 ?_
            refine V_istore_n (pc := 124) d124 (by decide) ?_
            refine V_iinc (pc := 125) d125 rfl (by decide) ?_
            refine V_goto (pc := 128) d128 (by decide) ?_
            exact V_lq [(0, .ref 144), (1, zI s), (2, zI q), (3, zI (lkN now s q (n + 1))), (4, zI ((n + 1 : Nat) : Int))] ⟨⟨_, rfl, rfl⟩, ⟨_, rfl, rfl⟩, ⟨_, rfl, rfl⟩, ⟨_, rfl, congrArg (fun e : Int => zI e) (by (show _ = lkN now s q n + (if jf now (n : Int) 3 = s ∧ jf now (n : Int) 4 = q then als now (n : Int) - jf now (n : Int) 8 - (if now 5 = 1 ∧ now 6 = jf now (n : Int) 0 then 1 else 0) else 0); (repeat' split) <;> omega))⟩, ⟨_, rfl, rfl⟩, trivial⟩ (ih (by omega))
      · refine V_iconst (pc := 54) d54 ?_
        refine V_goto (pc := 55) d55 (by decide) ?_
        refine V_istore (pc := 59) d59 (by decide) ?_
        refine V_aload_n (pc := 61) d61 rfl (Or.inl ⟨_, rfl⟩) ?_
        refine V_getR (pc := 62) (q := 0) (j := 145) fx_8_7 d62 rfl rfl (by decide) rfl rfl ?_
        refine V_iconst (pc := 65) d65 ?_
        refine Vm_now (pc := 66) d66 (by decide) ?_
        refine V_iconst (pc := 67) d67 ?_
        refine V_icmp_ne (pc := 68) d68 (by decide) (by omega) (by decide) (fun h68 => ?_) (fun h68 => ?_)
        · refine V_iconst (pc := 92) d92 ?_
          refine V_istore (pc := 93) d93 (by decide) ?_
          refine V_iload_n (pc := 95) d95 rfl ?_
          refine V_iload (pc := 96) d96 rfl ?_
          refine V_if_eq (pc := 98) d98 (by decide) (by decide) (fun h => absurd h (by decide)) (fun _ => ?_)
          refine V_aload_n (pc := 101) d101 rfl (Or.inl ⟨_, rfl⟩) ?_
          refine V_iload (pc := 102) d102 rfl ?_
          refine V_cV1 (pc := 104) ca_8_103 d104 (by decide) (Nat.le_of_ble_eq_true rfl) (by decide) rfl (by decide) (c_X8_allSheets (by assumption) ?_)
          refine V_aload_n (pc := 107) d107 rfl (Or.inl ⟨_, rfl⟩) ?_
          refine V_iload (pc := 108) d108 rfl ?_
          refine V_bipush (pc := 110) (by decide) d110 ?_
          refine V_cV2 (pc := 112) ca_8_64 d112 (by decide) (Nat.le_of_ble_eq_true rfl) (by decide) rfl (by decide) (c_X8_of (by omega) ?_)
          refine V_isub (pc := 115) d115 ?_
          refine V_iload (pc := 116) d116 rfl ?_
          refine V_isub (pc := 118) d118 ?_
          refine V_goto (pc := 119) d119 (by decide) ?_
          refine V_iadd (pc := 123) d123 ?_
          refine V_istore_n (pc := 124) d124 (by decide) ?_
          refine V_iinc (pc := 125) d125 rfl (by decide) ?_
          refine V_goto (pc := 128) d128 (by decide) ?_
          exact V_lq [(0, .ref 144), (1, zI s), (2, zI q), (3, zI (lkN now s q (n + 1))), (4, zI ((n + 1 : Nat) : Int))] ⟨⟨_, rfl, rfl⟩, ⟨_, rfl, rfl⟩, ⟨_, rfl, rfl⟩, ⟨_, rfl, congrArg (fun e : Int => zI e) (by (show _ = lkN now s q n + (if jf now (n : Int) 3 = s ∧ jf now (n : Int) 4 = q then als now (n : Int) - jf now (n : Int) 8 - (if now 5 = 1 ∧ now 6 = jf now (n : Int) 0 then 1 else 0) else 0); (repeat' split) <;> omega))⟩, ⟨_, rfl, rfl⟩, trivial⟩ (ih (by omega))
        · refine V_aload_n (pc := 71) d71 rfl (Or.inl ⟨_, rfl⟩) ?_
          refine V_getR (pc := 72) (q := 0) (j := 145) fx_8_7 d72 rfl rfl (by decide) rfl rfl ?_
          refine V_bipush (pc := 75) (by decide) d75 ?_
          refine Vm_now (pc := 77) d77 (by decide) ?_
          refine V_aload_n (pc := 78) d78 rfl (Or.inl ⟨_, rfl⟩) ?_
          refine V_iload (pc := 79) d79 rfl ?_
          refine V_iconst (pc := 81) d81 ?_
          refine V_cV2 (pc := 82) ca_8_64 d82 (by decide) (Nat.le_of_ble_eq_true rfl) (by decide) rfl (by decide) (c_X8_of (by omega) ?_)
          refine V_icmp_ne (pc := 85) d85 (by decide) (by omega) (by omega) (fun h85 => ?_) (fun h85 => ?_)
          · refine V_iconst (pc := 92) d92 ?_
            refine V_istore (pc := 93) d93 (by decide) ?_
            refine V_iload_n (pc := 95) d95 rfl ?_
            refine V_iload (pc := 96) d96 rfl ?_
            refine V_if_eq (pc := 98) d98 (by decide) (by decide) (fun h => absurd h (by decide)) (fun _ => ?_)
            refine V_aload_n (pc := 101) d101 rfl (Or.inl ⟨_, rfl⟩) ?_
            refine V_iload (pc := 102) d102 rfl ?_
            refine V_cV1 (pc := 104) ca_8_103 d104 (by decide) (Nat.le_of_ble_eq_true rfl) (by decide) rfl (by decide) (c_X8_allSheets (by assumption) ?_)
            refine V_aload_n (pc := 107) d107 rfl (Or.inl ⟨_, rfl⟩) ?_
            refine V_iload (pc := 108) d108 rfl ?_
            refine V_bipush (pc := 110) (by decide) d110 ?_
            refine V_cV2 (pc := 112) ca_8_64 d112 (by decide) (Nat.le_of_ble_eq_true rfl) (by decide) rfl (by decide) (c_X8_of (by omega) ?_)
            refine V_isub (pc := 115) d115 ?_
            refine V_iload (pc := 116) d116 rfl ?_
            refine V_isub (pc := 118) d118 ?_
            refine V_goto (pc := 119) d119 (by decide) ?_
            refine V_iadd (pc := 123) d123 ?_
            refine V_istore_n (pc := 124) d124 (by decide) ?_
            refine V_iinc (pc := 125) d125 rfl (by decide) ?_
            refine V_goto (pc := 128) d128 (by decide) ?_
            exact V_lq [(0, .ref 144), (1, zI s), (2, zI q), (3, zI (lkN now s q (n + 1))), (4, zI ((n + 1 : Nat) : Int))] ⟨⟨_, rfl, rfl⟩, ⟨_, rfl, rfl⟩, ⟨_, rfl, rfl⟩, ⟨_, rfl, congrArg (fun e : Int => zI e) (by (show _ = lkN now s q n + (if jf now (n : Int) 3 = s ∧ jf now (n : Int) 4 = q then als now (n : Int) - jf now (n : Int) 8 - (if now 5 = 1 ∧ now 6 = jf now (n : Int) 0 then 1 else 0) else 0); (repeat' split) <;> omega))⟩, ⟨_, rfl, rfl⟩, trivial⟩ (ih (by omega))
          · refine V_iconst (pc := 88) d88 ?_
            refine V_goto (pc := 89) d89 (by decide) ?_
            refine V_istore (pc := 93) d93 (by decide) ?_
            refine V_iload_n (pc := 95) d95 rfl ?_
            refine V_iload (pc := 96) d96 rfl ?_
            refine V_if_eq (pc := 98) d98 (by decide) (by decide) (fun h => absurd h (by decide)) (fun _ => ?_)
            refine V_aload_n (pc := 101) d101 rfl (Or.inl ⟨_, rfl⟩) ?_
            refine V_iload (pc := 102) d102 rfl ?_
            refine V_cV1 (pc := 104) ca_8_103 d104 (by decide) (Nat.le_of_ble_eq_true rfl) (by decide) rfl (by decide) (c_X8_allSheets (by assumption) ?_)
            refine V_aload_n (pc := 107) d107 rfl (Or.inl ⟨_, rfl⟩) ?_
            refine V_iload (pc := 108) d108 rfl ?_
            refine V_bipush (pc := 110) (by decide) d110 ?_
            refine V_cV2 (pc := 112) ca_8_64 d112 (by decide) (Nat.le_of_ble_eq_true rfl) (by decide) rfl (by decide) (c_X8_of (by omega) ?_)
            refine V_isub (pc := 115) d115 ?_
            refine V_iload (pc := 116) d116 rfl ?_
            refine V_isub (pc := 118) d118 ?_
            refine V_goto (pc := 119) d119 (by decide) ?_
            refine V_iadd (pc := 123) d123 ?_
            refine V_istore_n (pc := 124) d124 (by decide) ?_
            refine V_iinc (pc := 125) d125 rfl (by decide) ?_
            refine V_goto (pc := 128) d128 (by decide) ?_
            exact V_lq [(0, .ref 144), (1, zI s), (2, zI q), (3, zI (lkN now s q (n + 1))), (4, zI ((n + 1 : Nat) : Int))] ⟨⟨_, rfl, rfl⟩, ⟨_, rfl, rfl⟩, ⟨_, rfl, rfl⟩, ⟨_, rfl, congrArg (fun e : Int => zI e) (by (show _ = lkN now s q n + (if jf now (n : Int) 3 = s ∧ jf now (n : Int) 4 = q then als now (n : Int) - jf now (n : Int) 8 - (if now 5 = 1 ∧ now 6 = jf now (n : Int) 0 then 1 else 0) else 0); (repeat' split) <;> omega))⟩, ⟨_, rfl, rfl⟩, trivial⟩ (ih (by omega))
theorem c_X8_lacking {σ : Sto} {now : Int → Int} {P : PT} {T : TT} {Q : Option Value → Sto → Prop} {s q : Int} (hR : RR now) (r_s : -2147483648 ≤ s ∧ s < 2147483648) (r_q : -2147483648 ≤ q ∧ q < 2147483648) (k1 : ¬ ((0 ≤ s ∧ s ≤ 3) ∧ 0 ≤ q ∧ q ≤ 3) → Q (some (zI (-1))) (mst σ now P T)) (k : (0 ≤ s ∧ s ≤ 3) ∧ 0 ≤ q ∧ q ≤ 3 → Q (some (zI (if lkN now s q (now 0).toNat < 0 then 0 else lkN now s q (now 0).toNat))) (mst σ now P T)) : Con M_X8_lacking 150 150 (mst σ now P T) [.ref 144, zI s, zI q] Q := by
  refine V_entry ok_X8_lacking (Nat.le_refl _) (Nat.le_of_ble_eq_true rfl) (V_ls [(0, .ref 144), (1, zI s), (2, zI q)] ⟨rfl, rfl, rfl, trivial⟩ ?_)
  obtain ⟨d0, d1, d2, d5, d8, d9, d10, d11, d12, d13, d16, d17, d18, d19, d21, d23, d24, d27, d28, d29, d32, d33, d35, d36, d39, d40, d43, d44, d46, d47, d50, d51, d54, d55, d58, d59, d61, d62, d65, d66, d67, d68, d71, d72, d75, d77, d78, d79, d81, d82, d85, d88, d89, d92, d93, d95, d96, d98, d101, d102, d104, d107, d108, d110, d112, d115, d116, d118, d119, d122, d123, d124, d125, d128, d131, d132, d135, d136, d139, d140, -⟩ := D_X8_lacking
  refine V_iload_n (pc := 0) d0 rfl ?_
  refine V_iload_n (pc := 1) d1 rfl ?_
  refine V_cS2 (pc := 2) ca_8_43 d2 (by decide) (Nat.le_of_ble_eq_true rfl) (c_X8_isPaper (by omega) (by omega) (fun h_isPaper => ?_) (fun h_isPaper => ?_))
  · refine V_if_ne (pc := 5) d5 (by decide) (by decide) (fun _ => ?_) (fun h => absurd h (by decide))
    refine V_aload_n (pc := 10) d10 rfl (Or.inl ⟨_, rfl⟩) ?_
    refine V_iload_n (pc := 11) d11 rfl ?_
    refine V_iload_n (pc := 12) d12 rfl ?_
    refine V_cV2 (pc := 13) ca_8_50 d13 (by decide) (Nat.le_of_ble_eq_true rfl) (by decide) rfl (by decide) (c_X8_sheetsOf hR.1 (by omega) (by omega) ?_)
    refine V_ineg (pc := 16) d16 ?_
    refine V_istore_n (pc := 17) d17 (by decide) ?_
    refine V_iconst (pc := 18) d18 ?_
    refine V_istore (pc := 19) d19 (by decide) ?_
    exact V_lq [(0, .ref 144), (1, zI s), (2, zI q), (3, zI (lkN now s q 0)), (4, zI ((0 : Nat) : Int))] ⟨⟨_, rfl, rfl⟩, ⟨_, rfl, rfl⟩, ⟨_, rfl, rfl⟩, ⟨_, rfl, rfl⟩, ⟨_, rfl, rfl⟩, trivial⟩ (L_X8_lacking hR r_s r_q (k (by omega)) 0 (by omega))
  · refine V_if_ne (pc := 5) d5 (by decide) (by decide) (fun h => absurd (by decide) h) (fun _ => ?_)
    refine V_iconst (pc := 8) d8 ?_
    refine V_ret (pc := 9) (v := some (zI _)) ⟨d9, _, rfl, rfl⟩ ?_
    exact k1 (by omega)
