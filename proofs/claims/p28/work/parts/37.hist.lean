/-! the history: its machines by components -/
def MS (b : Nat) (σ : Sto) (c : Nat → Int → Int) (π : Int → Nat) : Prop := (∀ i, i < 23 → σ.1 (b + i) = c i) ∧ (∀ i, i < 23 → ¬ i = 6 → ∀ q, σ.2.1 (b + i) q = (srf i q).map (fun x => b + x)) ∧ ∀ j, σ.2.1 (b + 6) j = some (b + π j)
theorem MS.eq {b : Nat} {σ : Sto} {c : Nat → Int → Int} {π : Int → Nat} (h : MS b σ c π) : kst b σ c π = σ := by
  obtain ⟨h1, h2, h3⟩ := h
  refine Prod.ext (funext fun i => ?_) (Prod.ext (funext fun i => ?_) rfl)
  · by_cases x : b ≤ i ∧ i < b + 23
    · obtain ⟨m, rfl⟩ := Nat.exists_eq_add_of_le x.1
      rw [kst_1 (by omega), h1 m (by omega)]
    · exact kst_o1 (by omega)
  · by_cases x : b ≤ i ∧ i < b + 23
    · obtain ⟨m, rfl⟩ := Nat.exists_eq_add_of_le x.1
      by_cases y : m = 6
      · subst y
        funext q
        rw [kst_6, h3 q]
      · funext q
        rw [kst_2 (by omega) y, h2 m (by omega) y]
    · exact kst_o2 (by omega)
theorem kst_MS {b : Nat} {σ : Sto} {c : Nat → Int → Int} {π : Int → Nat} : MS b (kst b σ c π) c π := ⟨fun _ h => kst_1 h, fun _ h h6 q => kst_2 h h6 q, fun j => kst_6 j⟩
theorem MS.ext {b : Nat} {σ σ' : Sto} {c : Nat → Int → Int} {π : Int → Nat} (h : MS b σ c π) (h1 : ∀ i, i < 23 → σ'.1 (b + i) = σ.1 (b + i)) (h2 : ∀ i, i < 23 → σ'.2.1 (b + i) = σ.2.1 (b + i)) : MS b σ' c π :=
  ⟨fun i hi => (h1 i hi).trans (h.1 i hi), fun i hi h6 q => (congrFun (h2 i hi) q).trans (h.2.1 i hi h6 q), fun j => (congrFun (h2 6 (by decide)) j).trans (h.2.2 j)⟩
theorem MS.kst_o {a b : Nat} {σ : Sto} {c c2 : Nat → Int → Int} {π π2 : Int → Nat} (h : MS a σ c π) (hd : a + 23 ≤ b ∨ b + 23 ≤ a) : MS a (kst b σ c2 π2) c π := h.ext (fun _ hi => kst_o1 (by omega)) (fun _ hi => kst_o2 (by omega))
theorem MS.setI_o {a i : Nat} {σ : Sto} {c : Nat → Int → Int} {π : Int → Nat} {q x : Int} (h : MS a σ c π) (hd : i < a ∨ a + 23 ≤ i) : MS a (setI σ i q x) c π := h.ext (fun _ hi => up2_ne (by omega)) (fun _ hi => rfl)
theorem MS.setR_o {a i : Nat} {σ : Sto} {c : Nat → Int → Int} {π : Int → Nat} {q : Int} {x : Option Nat} (h : MS a σ c π) (hd : i < a ∨ a + 23 ≤ i) : MS a (setR σ i q x) c π := h.ext (fun _ hi => rfl) (fun _ hi => up2_ne (by omega))
def HB4 (x : Nat) : Prop := x = 49 ∨ x = 72 ∨ x = 95 ∨ x = 118
theorem HB4.mb {x : Nat} (h : HB4 x) : MB x := by
  unfold HB4 at h
  unfold MB
  omega
theorem HB4.ne {x y : Nat} (h : HB4 x) (g : HB4 y) (n : ¬ x = y) : x + 23 ≤ y ∨ y + 23 ≤ x := by
  unfold HB4 at h g
  omega
def HM (σ : Sto) (b : Nat) : Prop := ∃ c π, MS b σ c π ∧ PI π
def HMr (σ : Sto) (b : Nat) (r : Int → Int) : Prop := ∃ c π, MS b σ c π ∧ MR c π r
def HE (σ : Sto) (s : Int) (ρ : Int → Int → Int) (η : Int → Nat) : Prop := (∀ k : Int, 0 ≤ k → k < 4 → σ.2.1 48 k = some (η k) ∧ HB4 (η k) ∧ HM σ (η k)) ∧ (∀ i j : Int, 0 ≤ i → i < 4 → 0 ≤ j → j < 4 → η i = η j → i = j) ∧ ∀ k : Int, 0 ≤ k → k < s → HMr σ (η k) (ρ k)
/-- the history holds s rows -/
def HS (σ : Sto) (s : Int) (ρ : Int → Int → Int) : Prop := σ.2.1 47 0 = some 48 ∧ σ.1 47 1 = s ∧ (0 ≤ s ∧ s ≤ 4) ∧ ∃ η : Int → Nat, HE σ s ρ η
/-- nothing but the history differs -/
def HX (σ σ' : Sto) : Prop := (∀ i : Nat, i < 47 ∨ 141 ≤ i → σ'.1 i = σ.1 i ∧ σ'.2.1 i = σ.2.1 i) ∧ σ'.2.2 = σ.2.2
theorem HX.ms {σ σ' : Sto} {b : Nat} {c : Nat → Int → Int} {π : Int → Nat} (h : HX σ σ') (hb : b + 23 ≤ 47) (m : MS b σ c π) : MS b σ' c π := m.ext (fun i hi => (h.1 _ (by omega)).1) (fun i hi => (h.1 _ (by omega)).2)
theorem HX.trans {σ σ' σ'' : Sto} (h : HX σ σ') (g : HX σ' σ'') : HX σ σ'' := ⟨fun i hi => ⟨(g.1 i hi).1.trans (h.1 i hi).1, (g.1 i hi).2.trans (h.1 i hi).2⟩, g.2.trans h.2⟩
theorem HX.refl {σ : Sto} : HX σ σ := ⟨fun _ _ => ⟨rfl, rfl⟩, rfl⟩
/-- what leaves the history's cells leaves what it holds -/
theorem HS.ext {σ σ' : Sto} {s : Int} {ρ : Int → Int → Int} (h : HS σ s ρ) (h1 : ∀ i : Nat, 47 ≤ i → i < 141 → σ'.1 i = σ.1 i ∧ σ'.2.1 i = σ.2.1 i) : HS σ' s ρ := by
  obtain ⟨a, b, d, η, e1, e2, e3⟩ := h
  refine ⟨by rw [(h1 47 (by decide) (by decide)).2]; exact a, by rw [(h1 47 (by decide) (by decide)).1]; exact b, d, η, fun k k0 k4 => ?_, e2, fun k k0 ks => ?_⟩
  · obtain ⟨x, y, c, π, m, p⟩ := e1 k k0 k4
    have y' := y
    unfold HB4 at y'
    exact ⟨by rw [(h1 48 (by decide) (by decide)).2]; exact x, y, c, π, m.ext (fun i hi => (h1 _ (by omega) (by omega)).1) (fun i hi => (h1 _ (by omega) (by omega)).2), p⟩
  · obtain ⟨x, y, _⟩ := e1 k k0 (by omega)
    obtain ⟨c, π, m, p⟩ := e3 k k0 ks
    unfold HB4 at y
    exact ⟨c, π, m.ext (fun i hi => (h1 _ (by omega) (by omega)).1) (fun i hi => (h1 _ (by omega) (by omega)).2), p⟩
theorem HS.kst {σ : Sto} {s : Int} {ρ : Int → Int → Int} {b : Nat} {c : Nat → Int → Int} {π : Int → Nat} (h : HS σ s ρ) (hb : b + 23 ≤ 47) : HS (kst b σ c π) s ρ := h.ext (fun i a _ => ⟨kst_o1 (by omega), kst_o2 (by omega)⟩)
theorem setI_e {σ : Sto} {i : Nat} {q x : Int} : (setI σ i q x).1 i q = x := by
  show up2 σ.1 i q x i q = x
  exact up2_e
theorem Vh_get {M : MI} {N1 pc : Nat} {ls : List (Nat × Value)} {st : List Value} {Q : Option Value → Sto → Prop} {σ : Sto} {i ix ci k : Nat} {q e : Int} (he : σ.1 i q = e) (hf : fldR (miC M) ix = some (ci, k)) (hd : decode (miB M) pc = .ok (.getfield ix, 3)) (ht : isRf (tyXs ci k) = false) (hq : (k : Int) = q) (hi : i < 144) (hs : sh i = (0, ci)) (kk : V M N1 (pc + 3) ls (zI e :: st) 144 σ Q) : V M N1 pc ls (.ref i :: st) 144 σ Q := by
  refine V_get hf hd ht hq hi hs ?_
  rw [he]
  exact kk
theorem c_X0_dropOldest {σ : Sto} {ρ : Int → Int → Int} {Q : Option Value → Sto → Prop} (hH : HS σ 4 ρ) (k : ∀ σ' : Sto, HX σ σ' → HS σ' 3 (fun k => ρ (k + 1)) → Q none σ') : Con M_X0_dropOldest 144 144 σ [.ref 47] Q := by
  refine V_entry ok_X0_dropOldest (Nat.le_refl _) (Nat.le_of_ble_eq_true rfl) (V_ls [(0, .ref 47)] ⟨rfl, trivial⟩ ?_)
  obtain ⟨a0, a1, _, η, e1, e2, e3⟩ := hH
  obtain ⟨g0, m0, _⟩ := e1 0 (by decide) (by decide)
  obtain ⟨g1, m1, _⟩ := e1 1 (by decide) (by decide)
  obtain ⟨g2, m2, _⟩ := e1 2 (by decide) (by decide)
  obtain ⟨g3, m3, _⟩ := e1 3 (by decide) (by decide)
  have b0 := m0.mb
  have b1 := m1.mb
  have b2 := m2.mb
  have b3 := m3.mb
  refine V_aload_n (pc := 0) e_X0_dropOldest_0 rfl (Or.inl ⟨_, rfl⟩) ?_
  refine V_getR (pc := 1) (q := 0) (j := 48) fx_0_11 e_X0_dropOldest_1 rfl rfl (by decide) rfl (by simp [setR, up2, a0, g0, g1, g2, g3]) ?_
  refine V_iconst (pc := 4) e_X0_dropOldest_4 ?_
  refine V_aald (pc := 5) (k := 4) (n := 4) (r := η 0) e_X0_dropOldest_5 (by decide) rfl (Or.inr rfl) (by omega) (by omega) (by decide) (by simp [setR, up2, a0, g0, g1, g2, g3]) ?_
  refine V_astore_n (pc := 6) e_X0_dropOldest_6 (Or.inl ⟨_, rfl⟩) (by decide) ?_
  refine V_iconst (pc := 7) e_X0_dropOldest_7 ?_
  refine V_istore_n (pc := 8) e_X0_dropOldest_8 (by decide) ?_
  refine V_iload_n (pc := 9) e_X0_dropOldest_9 rfl ?_
  refine V_iconst (pc := 10) e_X0_dropOldest_10 ?_
  refine V_iadd (pc := 11) e_X0_dropOldest_11 ?_
  refine V_iconst (pc := 12) e_X0_dropOldest_12 ?_
  refine V_icmp_ge (pc := 13) e_X0_dropOldest_13 (by decide) (by decide) (by decide) (fun h => absurd h (by decide)) (fun _ => ?_)
  refine V_aload_n (pc := 16) e_X0_dropOldest_16 rfl (Or.inl ⟨_, rfl⟩) ?_
  refine V_getR (pc := 17) (q := 0) (j := 48) fx_0_11 e_X0_dropOldest_17 rfl rfl (by decide) rfl (by simp [setR, up2, a0, g0, g1, g2, g3]) ?_
  refine V_iload_n (pc := 20) e_X0_dropOldest_20 rfl ?_
  refine V_aload_n (pc := 21) e_X0_dropOldest_21 rfl (Or.inl ⟨_, rfl⟩) ?_
  refine V_getR (pc := 22) (q := 0) (j := 48) fx_0_11 e_X0_dropOldest_22 rfl rfl (by decide) rfl (by simp [setR, up2, a0, g0, g1, g2, g3]) ?_
  refine V_iload_n (pc := 25) e_X0_dropOldest_25 rfl ?_
  refine V_iconst (pc := 26) e_X0_dropOldest_26 ?_
  refine V_iadd (pc := 27) e_X0_dropOldest_27 ?_
  refine V_aald (pc := 28) (k := 4) (n := 4) (r := η 1) e_X0_dropOldest_28 (by decide) rfl (Or.inr rfl) (by omega) (by omega) (by decide) (by simp [setR, up2, a0, g0, g1, g2, g3]) ?_
  refine V_aast (pc := 29) (k := 4) (n := 4) e_X0_dropOldest_29 (by decide) rfl (Or.inr rfl) (kb_lt (i := 0) (by assumption) (by decide)) ((shB (i := 0) (by assumption) (by decide)).trans rfl) (by decide) (by decide) (by decide) ?_
  refine V_iincK (pc := 30) (z := 1) e_X0_dropOldest_30 rfl rfl (by decide) ?_
  refine V_goto (pc := 33) e_X0_dropOldest_33 (by decide) ?_
  refine V_iload_n (pc := 9) e_X0_dropOldest_9 rfl ?_
  refine V_iconst (pc := 10) e_X0_dropOldest_10 ?_
  refine V_iadd (pc := 11) e_X0_dropOldest_11 ?_
  refine V_iconst (pc := 12) e_X0_dropOldest_12 ?_
  refine V_icmp_ge (pc := 13) e_X0_dropOldest_13 (by decide) (by decide) (by decide) (fun h => absurd h (by decide)) (fun _ => ?_)
  refine V_aload_n (pc := 16) e_X0_dropOldest_16 rfl (Or.inl ⟨_, rfl⟩) ?_
  refine V_getR (pc := 17) (q := 0) (j := 48) fx_0_11 e_X0_dropOldest_17 rfl rfl (by decide) rfl (by simp [setR, up2, a0, g0, g1, g2, g3]) ?_
  refine V_iload_n (pc := 20) e_X0_dropOldest_20 rfl ?_
  refine V_aload_n (pc := 21) e_X0_dropOldest_21 rfl (Or.inl ⟨_, rfl⟩) ?_
  refine V_getR (pc := 22) (q := 0) (j := 48) fx_0_11 e_X0_dropOldest_22 rfl rfl (by decide) rfl (by simp [setR, up2, a0, g0, g1, g2, g3]) ?_
  refine V_iload_n (pc := 25) e_X0_dropOldest_25 rfl ?_
  refine V_iconst (pc := 26) e_X0_dropOldest_26 ?_
  refine V_iadd (pc := 27) e_X0_dropOldest_27 ?_
  refine V_aald (pc := 28) (k := 4) (n := 4) (r := η 2) e_X0_dropOldest_28 (by decide) rfl (Or.inr rfl) (by omega) (by omega) (by decide) (by simp [setR, up2, a0, g0, g1, g2, g3]) ?_
  refine V_aast (pc := 29) (k := 4) (n := 4) e_X0_dropOldest_29 (by decide) rfl (Or.inr rfl) (kb_lt (i := 0) (by assumption) (by decide)) ((shB (i := 0) (by assumption) (by decide)).trans rfl) (by decide) (by decide) (by decide) ?_
  refine V_iincK (pc := 30) (z := 2) e_X0_dropOldest_30 rfl rfl (by decide) ?_
  refine V_goto (pc := 33) e_X0_dropOldest_33 (by decide) ?_
  refine V_iload_n (pc := 9) e_X0_dropOldest_9 rfl ?_
  refine V_iconst (pc := 10) e_X0_dropOldest_10 ?_
  refine V_iadd (pc := 11) e_X0_dropOldest_11 ?_
  refine V_iconst (pc := 12) e_X0_dropOldest_12 ?_
  refine V_icmp_ge (pc := 13) e_X0_dropOldest_13 (by decide) (by decide) (by decide) (fun h => absurd h (by decide)) (fun _ => ?_)
  refine V_aload_n (pc := 16) e_X0_dropOldest_16 rfl (Or.inl ⟨_, rfl⟩) ?_
  refine V_getR (pc := 17) (q := 0) (j := 48) fx_0_11 e_X0_dropOldest_17 rfl rfl (by decide) rfl (by simp [setR, up2, a0, g0, g1, g2, g3]) ?_
  refine V_iload_n (pc := 20) e_X0_dropOldest_20 rfl ?_
  refine V_aload_n (pc := 21) e_X0_dropOldest_21 rfl (Or.inl ⟨_, rfl⟩) ?_
  refine V_getR (pc := 22) (q := 0) (j := 48) fx_0_11 e_X0_dropOldest_22 rfl rfl (by decide) rfl (by simp [setR, up2, a0, g0, g1, g2, g3]) ?_
  refine V_iload_n (pc := 25) e_X0_dropOldest_25 rfl ?_
  refine V_iconst (pc := 26) e_X0_dropOldest_26 ?_
  refine V_iadd (pc := 27) e_X0_dropOldest_27 ?_
  refine V_aald (pc := 28) (k := 4) (n := 4) (r := η 3) e_X0_dropOldest_28 (by decide) rfl (Or.inr rfl) (by omega) (by omega) (by decide) (by simp [setR, up2, a0, g0, g1, g2, g3]) ?_
  refine V_aast (pc := 29) (k := 4) (n := 4) e_X0_dropOldest_29 (by decide) rfl (Or.inr rfl) (kb_lt (i := 0) (by assumption) (by decide)) ((shB (i := 0) (by assumption) (by decide)).trans rfl) (by decide) (by decide) (by decide) ?_
  refine V_iincK (pc := 30) (z := 3) e_X0_dropOldest_30 rfl rfl (by decide) ?_
  refine V_goto (pc := 33) e_X0_dropOldest_33 (by decide) ?_
  refine V_iload_n (pc := 9) e_X0_dropOldest_9 rfl ?_
  refine V_iconst (pc := 10) e_X0_dropOldest_10 ?_
  refine V_iadd (pc := 11) e_X0_dropOldest_11 ?_
  refine V_iconst (pc := 12) e_X0_dropOldest_12 ?_
  refine V_icmp_ge (pc := 13) e_X0_dropOldest_13 (by decide) (by decide) (by decide) (fun _ => ?_) (fun h => absurd (by decide) h)
  refine V_aload_n (pc := 36) e_X0_dropOldest_36 rfl (Or.inl ⟨_, rfl⟩) ?_
  refine V_getR (pc := 37) (q := 0) (j := 48) fx_0_11 e_X0_dropOldest_37 rfl rfl (by decide) rfl (by simp [setR, up2, a0, g0, g1, g2, g3]) ?_
  refine V_iconst (pc := 40) e_X0_dropOldest_40 ?_
  refine V_aload_n (pc := 41) e_X0_dropOldest_41 rfl (Or.inl ⟨_, rfl⟩) ?_
  refine V_aast (pc := 42) (k := 4) (n := 4) e_X0_dropOldest_42 (by decide) rfl (Or.inr rfl) (kb_lt (i := 0) (by assumption) (by decide)) ((shB (i := 0) (by assumption) (by decide)).trans rfl) (by decide) (by decide) (by decide) ?_
  refine V_aload_n (pc := 43) e_X0_dropOldest_43 rfl (Or.inl ⟨_, rfl⟩) ?_
  refine V_iconst (pc := 44) e_X0_dropOldest_44 ?_
  refine V_put (pc := 45) (q := 1) fx_0_18 e_X0_dropOldest_45 rfl rfl rfl rfl rfl (by decide) rfl ?_
  refine V_ret (pc := 48) (v := none) ⟨e_X0_dropOldest_48, rfl⟩ ?_
  refine k _ ⟨fun i hi => ⟨up2_ne (by omega), ?_⟩, rfl⟩ ⟨?_, ?_, by decide, fun k => if k = 3 then η 0 else η (k + 1), fun k k0 k4 => ?_, fun i j i0 i4 j0 j4 hij => ?_, fun k k0 k3 => ?_⟩
  · show up2 (up2 (up2 (up2 σ.2.1 48 0 _) 48 1 _) 48 2 _) 48 3 _ i = _
    rw [up2_ne (by omega), up2_ne (by omega), up2_ne (by omega), up2_ne (by omega)]
  · simp [setI, setR, up2, a0]
  · show up2 σ.1 47 1 3 47 1 = 3
    exact up2_e
  · have hk : k = 0 ∨ k = 1 ∨ k = 2 ∨ k = 3 := by omega
    have ob : ∀ b : Nat, HB4 b → HM σ b → HM (setI (setR (setR (setR (setR σ 48 0 (some (η 1))) 48 1 (some (η 2))) 48 2 (some (η 3))) 48 3 (some (η 0))) 47 1 3) b := fun b hb hm => by
      obtain ⟨c, π, m, p⟩ := hm
      unfold HB4 at hb
      exact ⟨c, π, ((((m.setR_o (by omega)).setR_o (by omega)).setR_o (by omega)).setR_o (by omega)).setI_o (by omega), p⟩
    rcases hk with h | h | h | h <;> subst h
    · exact ⟨by simp [setI, setR, up2], m1, ob _ m1 (e1 1 (by decide) (by decide)).2.2⟩
    · exact ⟨by simp [setI, setR, up2], m2, ob _ m2 (e1 2 (by decide) (by decide)).2.2⟩
    · exact ⟨by simp [setI, setR, up2], m3, ob _ m3 (e1 3 (by decide) (by decide)).2.2⟩
    · exact ⟨by simp [setI, setR, up2], m0, ob _ m0 (e1 0 (by decide) (by decide)).2.2⟩
  · have hi : (i = 3 ∧ (if i = 3 then η 0 else η (i + 1)) = η 0) ∨ (¬ i = 3 ∧ (if i = 3 then η 0 else η (i + 1)) = η (i + 1)) := by by_cases x : i = 3 <;> simp [x]
    have hj : (j = 3 ∧ (if j = 3 then η 0 else η (j + 1)) = η 0) ∨ (¬ j = 3 ∧ (if j = 3 then η 0 else η (j + 1)) = η (j + 1)) := by by_cases x : j = 3 <;> simp [x]
    rcases hi with ⟨x, ex⟩ | ⟨x, ex⟩ <;> rcases hj with ⟨y, ey⟩ | ⟨y, ey⟩
    · omega
    · have := e2 0 (j + 1) (by decide) (by decide) (by omega) (by omega) (ex.symm.trans (hij.trans ey))
      omega
    · have := e2 (i + 1) 0 (by omega) (by omega) (by decide) (by decide) (ex.symm.trans (hij.trans ey))
      omega
    · have := e2 (i + 1) (j + 1) (by omega) (by omega) (by omega) (by omega) (ex.symm.trans (hij.trans ey))
      omega
  · have q : (if k = 3 then η 0 else η (k + 1)) = η (k + 1) := if_neg (by omega)
    show HMr _ (if k = 3 then η 0 else η (k + 1)) _
    rw [q]
    obtain ⟨c, π, m, p⟩ := e3 (k + 1) (by omega) (by omega)
    have hb := (e1 (k + 1) (by omega) (by omega)).2.1
    unfold HB4 at hb
    exact ⟨c, π, ((((m.setR_o (by omega)).setR_o (by omega)).setR_o (by omega)).setR_o (by omega)).setI_o (by omega), p⟩
theorem HS.pop {σ : Sto} {s t : Int} {ρ : Int → Int → Int} (h : HS σ s ρ) (ht : 0 ≤ t ∧ t ≤ s) : HS (setI σ 47 1 t) t ρ := by
  obtain ⟨a0, a1, a2, η, e1, e2, e3⟩ := h
  refine ⟨a0, setI_e, by omega, η, fun k k0 k4 => ?_, e2, fun k k0 ks => ?_⟩
  · obtain ⟨g, m, c, π, x, p⟩ := e1 k k0 k4
    have y := m
    unfold HB4 at y
    exact ⟨g, m, c, π, x.setI_o (by omega), p⟩
  · obtain ⟨c, π, x, p⟩ := e3 k k0 (by omega)
    have y := (e1 k k0 (by omega)).2.1
    unfold HB4 at y
    exact ⟨c, π, x.setI_o (by omega), p⟩
theorem L_X0_keep {σ : Sto} {ρ : Int → Int → Int} {s : Int} {c : Nat → Int → Int} {π : Int → Nat} {r : Int → Int} {Q : Option Value → Sto → Prop} (hH : HS σ s ρ) (hs : s < 4) (hm : MS 1 σ c π) (hM : MR c π r) (hR : RR r) (k : ∀ σ' : Sto, HX σ σ' → HS σ' (s + 1) (up1 ρ s r) → Q none σ') : V M_X0_keep 144 12 [(0, .ref 47), (1, .ref 1)] [] 144 σ Q := by
  obtain ⟨a0, a1, a2, η, e1, e2, e3⟩ := hH
  obtain ⟨g, m, c2, π2, x2, p2⟩ := e1 s (by omega) (by omega)
  have hE := m.mb
  have mb := m
  unfold HB4 at mb
  refine V_aload_n (pc := 12) e_X0_keep_12 rfl (Or.inl ⟨_, rfl⟩) ?_
  refine V_getR (pc := 13) (q := 0) (j := 48) fx_0_11 e_X0_keep_13 rfl rfl (by decide) rfl (by first | exact a0 | exact a1 | exact g | (rw [kst_o1 (by omega)]; exact a1)) ?_
  refine V_aload_n (pc := 16) e_X0_keep_16 rfl (Or.inl ⟨_, rfl⟩) ?_
  refine Vh_get (pc := 17) (q := 1) (e := s) (by first | exact a0 | exact a1 | exact g | (rw [kst_o1 (by omega)]; exact a1)) fx_0_18 e_X0_keep_17 rfl rfl (by decide) rfl ?_
  refine V_aald (pc := 20) (k := 4) (n := 4) (r := η s) e_X0_keep_20 (by decide) rfl (Or.inr rfl) (by omega) (by omega) (by decide) (by first | exact a0 | exact a1 | exact g | (rw [kst_o1 (by omega)]; exact a1)) ?_
  refine V_aload_n (pc := 21) e_X0_keep_21 rfl (Or.inl ⟨_, rfl⟩) ?_
  refine V_sq (σ' := kst (η s) (kst 1 σ c π) c2 π2) (by rw [MS.eq hm, MS.eq x2]) ?_
  refine V_cV1 (pc := 22) ca_0_25 e_X0_keep_22 (by decide) (Nat.le_of_ble_eq_true rfl) (kb_lt (i := 0) hE (by decide)) ((shB (i := 0) hE (by decide)).trans rfl) (by decide) (c_X4_copyFrom hE (Or.inl rfl) (by omega) p2 hM hR (fun c3 y => ?_))
  refine V_sq (σ' := kst (η s) σ c3 π2) (by rw [MS.eq hm]) ?_
  refine V_aload_n (pc := 25) e_X0_keep_25 rfl (Or.inl ⟨_, rfl⟩) ?_
  refine V_dup (pc := 26) e_X0_keep_26 rfl ?_
  refine Vh_get (pc := 27) (q := 1) (e := s) (by first | exact a0 | exact a1 | exact g | (rw [kst_o1 (by omega)]; exact a1)) fx_0_18 e_X0_keep_27 rfl rfl (by decide) rfl ?_
  refine V_iconst (pc := 30) e_X0_keep_30 ?_
  refine V_iadd (pc := 31) e_X0_keep_31 ?_
  refine V_put (pc := 32) (q := 1) fx_0_18 e_X0_keep_32 rfl rfl rfl rfl rfl (by decide) rfl ?_
  refine V_ret (pc := 35) (v := none) ⟨e_X0_keep_35, rfl⟩ ?_
  refine k _ ⟨fun i hi => ⟨(up2_ne (by omega)).trans (kst_o1 (by omega)), kst_o2 (c := c3) (by omega)⟩, rfl⟩ ⟨?_, setI_e, by omega, η, fun j j0 j4 => ?_, e2, fun j j0 js => ?_⟩
  · exact (congrFun (kst_o2 (c := c3) (by omega)) 0).trans a0
  · obtain ⟨gj, mj, cj, πj, xj, pj⟩ := e1 j j0 j4
    refine ⟨(congrFun (kst_o2 (c := c3) (by omega)) j).trans gj, mj, ?_⟩
    have mj2 := mj
    unfold HB4 at mj2
    by_cases hjs : j = s
    · subst hjs
      exact ⟨c3, π2, kst_MS.setI_o (by omega), p2⟩
    · have := m.ne mj (fun h => hjs (e2 _ _ j0 j4 (by omega) (by omega) h.symm))
      exact ⟨cj, πj, (xj.kst_o (by omega)).setI_o (by omega), pj⟩
  · have mj := (e1 j j0 (by omega)).2.1
    have mj2 := mj
    unfold HB4 at mj2
    by_cases hjs : j = s
    · subst hjs
      rw [up1_at]
      exact ⟨c3, π2, kst_MS.setI_o (by omega), y⟩
    · have := m.ne mj (fun h => hjs (e2 _ _ j0 (by omega) (by omega) (by omega) h.symm))
      obtain ⟨cj, πj, xj, pj⟩ := e3 j j0 (by omega)
      rw [up1_ne hjs]
      exact ⟨cj, πj, (xj.kst_o (by omega)).setI_o (by omega), pj⟩
theorem c_X0_keep {σ : Sto} {ρ : Int → Int → Int} {s : Int} {c : Nat → Int → Int} {π : Int → Nat} {r : Int → Int} {Q : Option Value → Sto → Prop} (hH : HS σ s ρ) (hm : MS 1 σ c π) (hM : MR c π r) (hR : RR r) (k : ∀ σ' : Sto, HX σ σ' → (s < 4 → HS σ' (s + 1) (up1 ρ s r)) → (s = 4 → HS σ' 4 (up1 (fun k => ρ (k + 1)) 3 r)) → Q none σ') : Con M_X0_keep 144 144 σ [.ref 47, .ref 1] Q := by
  refine V_entry ok_X0_keep (Nat.le_refl _) (Nat.le_of_ble_eq_true rfl) (V_ls [(0, .ref 47), (1, .ref 1)] ⟨rfl, rfl, trivial⟩ ?_)
  have a2 := hH.2.2.1
  refine V_aload_n (pc := 0) e_X0_keep_0 rfl (Or.inl ⟨_, rfl⟩) ?_
  refine Vh_get (pc := 1) (q := 1) (e := s) (by exact hH.2.1) fx_0_18 e_X0_keep_1 rfl rfl (by decide) rfl ?_
  refine V_iconst (pc := 4) e_X0_keep_4 ?_
  refine V_icmp_lt (pc := 5) e_X0_keep_5 (by decide) (by omega) (by decide) (fun h5 => ?_) (fun h5 => ?_)
  · exact L_X0_keep hH (by omega) hm hM hR (fun σ3 x3 y3 => k σ3 x3 (fun _ => y3) (fun h => absurd h (by omega)))
  · refine V_aload_n (pc := 8) e_X0_keep_8 rfl (Or.inl ⟨_, rfl⟩) ?_
    refine V_cV0 (pc := 9) ca_0_22 e_X0_keep_9 (by decide) (Nat.le_of_ble_eq_true rfl) (by decide) rfl (by decide) (c_X0_dropOldest (ρ := ρ) (by rw [← (show s = 4 by omega)]; exact hH) (fun σ2 x2 y2 => ?_))
    exact L_X0_keep y2 (by decide) (x2.ms (by decide) hm) hM hR (fun σ3 x3 y3 => k σ3 (x2.trans x3) (fun h => absurd h (by omega)) (fun _ => y3))
theorem c_X0_restore {σ : Sto} {ρ : Int → Int → Int} {s : Int} {c : Nat → Int → Int} {π : Int → Nat}  {Q : Option Value → Sto → Prop} (hH : HS σ s ρ) (hm : MS 1 σ c π) (hP : PI π) (hR : ∀ k : Int, 0 ≤ k → k < s → RR (ρ k)) (k0 : s = 0 → Q (some (zI 0)) σ) (k1 : 0 < s → ∀ c' : Nat → Int → Int, MR c' π (ρ (s - 1)) → HS (kst 1 (setI σ 47 1 (s - 1)) c' π) (s - 1) ρ → Q (some (zI 1)) (kst 1 (setI σ 47 1 (s - 1)) c' π)) : Con M_X0_restore 144 144 σ [.ref 47, .ref 1] Q := by
  refine V_entry ok_X0_restore (Nat.le_refl _) (Nat.le_of_ble_eq_true rfl) (V_ls [(0, .ref 47), (1, .ref 1)] ⟨rfl, rfl, trivial⟩ ?_)
  have hH2 := hH
  obtain ⟨a0, a1, a2, η, e1, e2, e3⟩ := hH
  refine V_aload_n (pc := 0) e_X0_restore_0 rfl (Or.inl ⟨_, rfl⟩) ?_
  refine Vh_get (pc := 1) (q := 1) (e := s) (by first | exact a0 | exact a1 | exact setI_e | exact g) fx_0_18 e_X0_restore_1 rfl rfl (by decide) rfl ?_
  refine V_iconst (pc := 4) e_X0_restore_4 ?_
  refine V_icmp_lt (pc := 5) e_X0_restore_5 (by decide) (by omega) (by decide) (fun h5 => ?_) (fun h5 => ?_)
  · refine V_iconst (pc := 16) e_X0_restore_16 ?_
    refine V_ret (pc := 17) (v := some (zI _)) ⟨e_X0_restore_17, _, rfl, by decide⟩ ?_
    first | exact k0 (by omega) | (exfalso; omega)
  · refine V_aload_n (pc := 8) e_X0_restore_8 rfl (Or.inl ⟨_, rfl⟩) ?_
    refine Vh_get (pc := 9) (q := 1) (e := s) (by first | exact a0 | exact a1 | exact setI_e | exact g) fx_0_18 e_X0_restore_9 rfl rfl (by decide) rfl ?_
    refine V_iconst (pc := 12) e_X0_restore_12 ?_
    refine V_icmp_le (pc := 13) e_X0_restore_13 (by decide) (by omega) (by decide) (fun h13 => ?_) (fun h13 => ?_)
    · refine V_aload_n (pc := 18) e_X0_restore_18 rfl (Or.inl ⟨_, rfl⟩) ?_
      refine V_dup (pc := 19) e_X0_restore_19 rfl ?_
      refine Vh_get (pc := 20) (q := 1) (e := s) (by first | exact a0 | exact a1 | exact setI_e | exact g) fx_0_18 e_X0_restore_20 rfl rfl (by decide) rfl ?_
      refine V_iconst (pc := 23) e_X0_restore_23 ?_
      refine V_isub (pc := 24) e_X0_restore_24 ?_
      refine V_put (pc := 25) (q := 1) fx_0_18 e_X0_restore_25 rfl rfl rfl rfl rfl (by decide) rfl ?_
      obtain ⟨g, m, _⟩ := e1 (s - 1) (by omega) (by omega)
      obtain ⟨c2, π2, x2, p2⟩ := e3 (s - 1) (by omega) (by omega)
      have mb := m
      unfold HB4 at mb
      have n2 : MS (η (s - 1)) (setI σ 47 1 (s - 1)) c2 π2 := x2.setI_o (by omega)
      have n1 : MS 1 (setI σ 47 1 (s - 1)) c π := hm.setI_o (by omega)
      refine V_aload_n (pc := 28) e_X0_restore_28 rfl (Or.inl ⟨_, rfl⟩) ?_
      refine V_aload_n (pc := 29) e_X0_restore_29 rfl (Or.inl ⟨_, rfl⟩) ?_
      refine V_getR (pc := 30) (q := 0) (j := 48) fx_0_11 e_X0_restore_30 rfl rfl (by decide) rfl (by first | exact a0 | exact a1 | exact setI_e | exact g) ?_
      refine V_aload_n (pc := 33) e_X0_restore_33 rfl (Or.inl ⟨_, rfl⟩) ?_
      refine Vh_get (pc := 34) (q := 1) (e := (s - 1)) (by first | exact a0 | exact a1 | exact setI_e | exact g) fx_0_18 e_X0_restore_34 rfl rfl (by decide) rfl ?_
      refine V_aald (pc := 37) (k := 4) (n := 4) (r := η (s - 1)) e_X0_restore_37 (by decide) rfl (Or.inr rfl) (by omega) (by omega) (by decide) (by first | exact a0 | exact a1 | exact setI_e | exact g) ?_
      refine V_sq (σ' := kst 1 (kst (η (s - 1)) (setI σ 47 1 (s - 1)) c2 π2) c π) (by rw [MS.eq n2, MS.eq n1]) ?_
      refine V_cV1 (pc := 38) ca_0_25 e_X0_restore_38 (by decide) (Nat.le_of_ble_eq_true rfl) (by decide) rfl (by decide) (c_X4_copyFrom (Or.inl rfl) m.mb (by omega) hP p2 (hR _ (by omega) (by omega)) (fun c3 y => ?_))
      refine V_sq (σ' := kst 1 (setI σ 47 1 (s - 1)) c3 π) (by rw [MS.eq n2]) ?_
      refine V_iconst (pc := 41) e_X0_restore_41 ?_
      refine V_ret (pc := 42) (v := some (zI _)) ⟨e_X0_restore_42, _, rfl, by decide⟩ ?_
      exact k1 (by omega) c3 y ((hH2.pop (by omega)).kst (by decide))
    · refine V_iconst (pc := 16) e_X0_restore_16 ?_
      refine V_ret (pc := 17) (v := some (zI _)) ⟨e_X0_restore_17, _, rfl, by decide⟩ ?_
      first | exact k0 (by omega) | (exfalso; omega)
