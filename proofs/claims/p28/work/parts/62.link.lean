/-! class and model side by side: what holds between calls -/
def rows (past : Int → Int) : Int → Int → Int := fun k j => past (185 * k + j)
def RFS (x rf : Int) : Prop := (x = 0 ∧ rf = -4) ∨ (x = rf ∧ 1 ≤ rf ∧ rf ≤ 4)
def FS (S : Sto) (sv : Int) (ρ : Int → Int → Int) (len : Int) (text : Int → Int) (rf : Int) (scr : Nat × (Nat → Int32)) : Prop :=
  HZ S ∧ HS S sv ρ ∧ (∃ (c2 : Nat → Int → Int) (π2 : Int → Nat), MS 24 S c2 π2 ∧ PI π2) ∧ (S.1 141 1 = len ∧ S.1 142 = text) ∧ RFS (S.1 0 5) rf ∧ S.2.2 = scr
theorem HZ.ext {S S' : Sto} (h : HZ S) (e0 : S'.2.1 0 = S.2.1 0) (e1 : S'.2.1 141 = S.2.1 141) : HZ S' := by
  unfold HZ at h ⊢
  rw [e0, e1]
  exact h
/-- the cells that it speaks of -/
theorem FS.ext {S S' : Sto} {sv : Int} {ρ : Int → Int → Int} {len : Int} {text : Int → Int} {rf : Int} {scr : Nat × (Nat → Int32)} (h : FS S sv ρ len text rf scr) (e : ∀ i : Nat, i < 144 → ¬ (1 ≤ i ∧ i < 24) → ¬ i = 143 → ¬ i = 141 → S'.1 i = S.1 i) (e41 : S'.1 141 1 = S.1 141 1) (e2 : ∀ i : Nat, i < 144 → ¬ (1 ≤ i ∧ i < 24) → S'.2.1 i = S.2.1 i) (e3 : S'.2.2 = S.2.2) : FS S' sv ρ len text rf scr := by
  obtain ⟨a, b, ⟨c2, π2, m, p⟩, ⟨d1, d2⟩, f, g⟩ := h
  refine ⟨a.ext (e2 0 (by decide) (by decide)) (e2 141 (by decide) (by decide)), b.ext (fun i i0 i1 => ⟨e i (by omega) (by omega) (by omega) (by omega), e2 i (by omega) (by omega)⟩), ⟨c2, π2, m.ext (fun i hi => e _ (by omega) (by omega) (by omega) (by omega)) (fun i hi => e2 _ (by omega) (by omega)), p⟩, ⟨e41.trans d1, (e 142 (by decide) (by decide) (by decide) (by decide)).trans d2⟩, by rw [e 0 (by decide) (by decide) (by decide) (by decide)]; exact f, e3.trans g⟩
theorem HS.re {S : Sto} {sv : Int} {ρ ρ' : Int → Int → Int} (h : HS S sv ρ) (e : ∀ k : Int, 0 ≤ k → k < sv → RE (ρ k) (ρ' k) ∧ RI (ρ' k)) : HS S sv ρ' := by
  obtain ⟨a, b, d, η, h1, h2, h3⟩ := h
  refine ⟨a, b, d, η, h1, h2, fun k k0 k1 => ?_⟩
  obtain ⟨c, π, m, q⟩ := h3 k k0 k1
  obtain ⟨e1, e2⟩ := e k k0 k1
  have z := (e2.re e1.symm).rr
  exact ⟨c, π, m, q.re e1 z.2.1 z.2.2.1⟩
theorem FSr {S : Sto} {sv : Int} {ρ ρ' : Int → Int → Int} {len : Int} {text : Int → Int} {rf : Int} {scr : Nat × (Nat → Int32)} (h : FS S sv ρ len text rf scr) (e : ∀ k : Int, 0 ≤ k → k < sv → RE (ρ k) (ρ' k) ∧ RI (ρ' k)) : FS S sv ρ' len text rf scr := ⟨h.1, h.2.1.re e, h.2.2⟩
theorem FSk {S : Sto} {sv : Int} {ρ : Int → Int → Int} {len : Int} {text : Int → Int} {rf : Int} {scr : Nat × (Nat → Int32)} {c : Nat → Int → Int} {π : Int → Nat} (h : FS S sv ρ len text rf scr) : FS (kst 1 S c π) sv ρ len text rf scr :=
  h.ext (fun i _ a _ _ => kst_o1 (by omega)) (congrFun (kst_o1 (b := 1) (by decide)) 1) (fun i _ a => kst_o2 (by omega)) rfl
theorem FSd {S : Sto} {sv : Int} {ρ : Int → Int → Int} {len : Int} {text : Int → Int} {rf : Int} {scr : Nat × (Nat → Int32)} {d : Int → Int} (h : FS S sv ρ len text rf scr) : FS (dst S d) sv ρ len text rf scr :=
  h.ext (fun i _ _ a _ => dst_o a) (congrFun (dst_o (by decide)) 1) (fun i _ _ => rfl) rfl
/-- the rows that the history holds behind a keep -/
def kpR (ρ : Int → Int → Int) (sv : Int) (r : Int → Int) : Int → Int → Int := if sv = 4 then up1 (fun k => ρ (k + 1)) 3 r else up1 ρ sv r
theorem FSp {S σ2 : Sto} {sv : Int} {ρ : Int → Int → Int} {len : Int} {text : Int → Int} {rf : Int} {scr : Nat × (Nat → Int32)} {c : Nat → Int → Int} {π : Int → Nat} {r : Int → Int} (h : FS S sv ρ len text rf scr) (k : KP S σ2 c π sv ρ r) : FS σ2 (recS sv) (kpR ρ sv r) len text rf scr := by
  obtain ⟨x, y, z⟩ := k
  have hs := h.2.1.2.2.1
  obtain ⟨a, b, ⟨c2, π2, m, p⟩, ⟨d1, d2⟩, f, g⟩ := FSk (c := c) (π := π) h
  have e := x.1
  refine ⟨a.ext (e 0 (by decide)).2 (e 141 (by decide)).2, ?_, ⟨c2, π2, m.ext (fun i hi => (e _ (by omega)).1) (fun i hi => (e _ (by omega)).2), p⟩, ⟨by rw [(e 141 (by decide)).1]; exact d1, by rw [(e 142 (by decide)).1]; exact d2⟩, by rw [(e 0 (by decide)).1]; exact f, x.2.trans g⟩
  unfold recS recN kpR
  by_cases q : sv = 4
  · rw [if_pos q, if_pos q]
    exact z q
  · rw [if_neg q, if_neg q]
    exact y (by omega)
theorem rows_rec {r past : Int → Int} {sv : Int} (hs : 0 ≤ sv ∧ sv ≤ 4) {k : Int} (h0 : 0 ≤ k) (h1 : k < recS sv) : RE (kpR (rows past) sv r k) (rows (recP r past sv) k) ∧ ((k = recN sv ∧ RE r (rows (recP r past sv) k)) ∨ ∃ k' : Int, 0 ≤ k' ∧ k' < sv ∧ RE (rows past k') (rows (recP r past sv) k)) := by
  unfold recS at h1
  unfold kpR recP rows cpw recA
  by_cases q : sv = 4
  · have en : recN sv = 3 := if_pos q
    rw [en] at h1
    rw [if_pos q, if_pos q, en]
    by_cases g : k = 3
    · subst g
      refine ⟨fun j j0 j1 => ?_, Or.inl ⟨rfl, fun j j0 j1 => ?_⟩⟩
      · show (if _ then r _ else _) = up1 _ 3 r 3 j
        rw [up1_at, if_pos (by omega)]
        congr 1
        omega
      · show (if _ then r _ else _) = r j
        rw [if_pos (by omega)]
        congr 1
        omega
    · have e : ∀ j : Int, 0 ≤ j → j < 185 → (if 185 * 3 ≤ 185 * k + j ∧ 185 * k + j < 185 * 3 + ((185 : Nat) : Int) then r (185 * k + j - 185 * 3) else shp past 555 (185 * k + j)) = past (185 * (k + 1) + j) := fun j j0 j1 => by
        rw [if_neg (by omega)]
        unfold shp
        rw [if_pos (by omega)]
        congr 1
        omega
      refine ⟨fun j j0 j1 => ?_, Or.inr ⟨k + 1, by omega, by omega, fun j j0 j1 => e j j0 j1⟩⟩
      rw [up1_ne g]
      exact e j j0 j1
  · have en : recN sv = sv := if_neg q
    rw [en] at h1
    rw [if_neg q, if_neg q, en]
    by_cases g : k = sv
    · subst g
      refine ⟨fun j j0 j1 => ?_, Or.inl ⟨rfl, fun j j0 j1 => ?_⟩⟩
      · rw [up1_at]
        show (if _ then r _ else _) = r j
        rw [if_pos (by omega)]
        congr 1
        omega
      · show (if _ then r _ else _) = r j
        rw [if_pos (by omega)]
        congr 1
        omega
    · have e : ∀ j : Int, 0 ≤ j → j < 185 → (if 185 * sv ≤ 185 * k + j ∧ 185 * k + j < 185 * sv + ((185 : Nat) : Int) then r (185 * k + j - 185 * sv) else past (185 * k + j)) = past (185 * k + j) := fun j j0 j1 => if_neg (by omega)
      refine ⟨fun j j0 j1 => ?_, Or.inr ⟨k, h0, by omega, fun j j0 j1 => e j j0 j1⟩⟩
      rw [up1_ne g]
      exact e j j0 j1
