/-! the model's texts, jobs of them -/
theorem dgv_rg {tx : Int → Int} {s : Int} : ∀ n : Nat, (∀ i : Int, 0 ≤ i → i < (n : Int) → 48 ≤ tx (s + i) ∧ tx (s + i) ≤ 57) → n ≤ 3 → 0 ≤ dgv tx s n ∧ dgv tx s n ≤ 999 ∧ (n ≤ 2 → dgv tx s n ≤ 99) ∧ (n ≤ 1 → dgv tx s n ≤ 9) ∧ (n = 0 → dgv tx s n = 0)
  | 0, _, _ => by unfold dgv; omega
  | n + 1, h, hn => by
    have a := dgv_rg n (fun i x y => h i x (by omega)) (by omega)
    have b := h (n : Int) (by omega) (by omega)
    unfold dgv
    omega
theorem dgc_dig {tx : Int → Int} {ln s : Int} : ∀ i : Int, 0 ≤ i → i < dgc tx ln s → dig tx ln (s + i) := by
  intro i h0 h1
  unfold dgc at h1
  split at h1
  · next a =>
    split at h1
    · next b =>
      split at h1
      · next c =>
        rcases (show i = 0 ∨ i = 1 ∨ i = 2 by omega) with rfl | rfl | rfl
        · rw [Int.add_zero]; exact a
        · exact b
        · exact c
      · rcases (show i = 0 ∨ i = 1 by omega) with rfl | rfl
        · rw [Int.add_zero]; exact a
        · exact b
    · rcases (show i = 0 by omega) with rfl
      rw [Int.add_zero]; exact a
  · omega
/-- a number of digits: its value -/
def dgN (tx : Int → Int) (ln s : Int) : Int := dgv tx s (dgc tx ln s).toNat
theorem dgN_rg {tx : Int → Int} {ln s : Int} : 0 ≤ dgN tx ln s ∧ dgN tx ln s ≤ 999 := by
  have r := dgc_rg tx ln s
  have h := dgv_rg (tx := tx) (s := s) (dgc tx ln s).toNat (fun i a b => (dgc_dig (ln := ln) i a (by omega)).2) (by omega)
  exact ⟨h.1, h.2.1⟩
theorem wm_len {tx : Int → Int} {ln s w : Int} (hw : 0 ≤ w ∧ w < 9) (h : wm tx ln s w) : 1 ≤ wle w ∧ wle w ≤ 7 ∧ s + wle w ≤ ln := by
  have a := (lt_in w 0 hw.1 hw.2 (by decide) (by decide)).2.2
  have b := (h (wle w - 1) (by omega) (by omega)).1
  omega
theorem wle_4 : wle 4 = 6 := by decide +kernel
theorem wle_3 : wle 3 = 1 := by decide +kernel
/-- the sizes: A5, A4, A3 or letter -/
def szO (tx : Int → Int) (ln s : Int) : Prop := wm tx ln s 4 ∨ (¬ wm tx ln s 4 ∧ wm tx ln s 3 ∧ s + 1 < ln ∧ 51 ≤ tx (s + 1) ∧ tx (s + 1) ≤ 53)
noncomputable def szV (tx : Int → Int) (ln s : Int) : Int := by classical exact if wm tx ln s 4 then 3 else 53 - tx (s + 1)
noncomputable def szE (tx : Int → Int) (ln s : Int) : Int := by classical exact if wm tx ln s 4 then s + wle 4 else s + wle 3 + 1
/-- the kind at s; none below 0 -/
noncomputable def knd (tx : Int → Int) (ln s : Int) : Int := by classical exact if wm tx ln s 5 then 0 else if wm tx ln s 6 then 1 else if wm tx ln s 7 then 2 else if wm tx ln s 8 then 3 else -1
theorem knd_at {tx : Int → Int} {ln s i : Int} (h0 : 0 ≤ i) (h1 : i < 4) (h : wm tx ln s (5 + i)) (hn : ∀ j : Int, 0 ≤ j → j < i → ¬ wm tx ln s (5 + j)) : knd tx ln s = i := by
  have a0 : 0 < i → ¬ wm tx ln s 5 := fun z => hn 0 (by decide) z
  have a1 : 1 < i → ¬ wm tx ln s 6 := fun z => hn 1 (by decide) z
  have a2 : 2 < i → ¬ wm tx ln s 7 := fun z => hn 2 (by decide) z
  unfold knd
  rcases (show i = 0 ∨ i = 1 ∨ i = 2 ∨ i = 3 by omega) with rfl | rfl | rfl | rfl
  · exact if_pos h
  · rw [if_neg (a0 (by decide))]; exact if_pos h
  · rw [if_neg (a0 (by decide)), if_neg (a1 (by decide))]; exact if_pos h
  · rw [if_neg (a0 (by decide)), if_neg (a1 (by decide)), if_neg (a2 (by decide))]; exact if_pos h
theorem knd_no {tx : Int → Int} {ln s : Int} (hn : ∀ j : Int, 0 ≤ j → j < 4 → ¬ wm tx ln s (5 + j)) : knd tx ln s = -1 := by
  have a0 : ¬ wm tx ln s 5 := hn 0 (by decide) (by decide)
  have a1 : ¬ wm tx ln s 6 := hn 1 (by decide) (by decide)
  have a2 : ¬ wm tx ln s 7 := hn 2 (by decide) (by decide)
  have a3 : ¬ wm tx ln s 8 := hn 3 (by decide) (by decide)
  unfold knd
  rw [if_neg a0, if_neg a1, if_neg a2, if_neg a3]
theorem knd_sp {tx : Int → Int} {ln s : Int} (h : 0 ≤ knd tx ln s) : knd tx ln s < 4 ∧ wm tx ln s (5 + knd tx ln s) := by
  unfold knd at h ⊢
  split
  · next a => exact ⟨by decide, a⟩
  · next a =>
    rw [if_neg a] at h
    split
    · next b => exact ⟨by decide, b⟩
    · next b =>
      rw [if_neg b] at h
      split
      · next c => exact ⟨by decide, c⟩
      · next c =>
        rw [if_neg c] at h
        split
        · next d => exact ⟨by decide, d⟩
        · next d => rw [if_neg d] at h; exact absurd h (by decide)
/-- the end of a job: blank, size, blank, kind, semicolon -/
def eO (tx : Int → Int) (ln s : Int) : Prop := (s < ln ∧ tx s = 32) ∧ szO tx ln (s + 1) ∧ (szE tx ln (s + 1) < ln ∧ tx (szE tx ln (s + 1)) = 32) ∧ 0 ≤ knd tx ln (szE tx ln (s + 1) + 1) ∧ (szE tx ln (s + 1) + 1 + wle (5 + knd tx ln (szE tx ln (s + 1) + 1)) < ln ∧ tx (szE tx ln (s + 1) + 1 + wle (5 + knd tx ln (szE tx ln (s + 1) + 1))) = 59)
noncomputable def eS (tx : Int → Int) (ln s : Int) : Int := szV tx ln (s + 1)
noncomputable def eK (tx : Int → Int) (ln s : Int) : Int := knd tx ln (szE tx ln (s + 1) + 1)
noncomputable def eE (tx : Int → Int) (ln s : Int) : Int := szE tx ln (s + 1) + 1 + wle (5 + knd tx ln (szE tx ln (s + 1) + 1)) + 1
theorem szE_rg {tx : Int → Int} {ln s : Int} (h : szO tx ln s) : s < szE tx ln s ∧ szE tx ln s ≤ ln := by
  unfold szE
  rcases h with h | ⟨h, h3, h4, h5⟩
  · rw [if_pos h]
    have a := wm_len (by decide) h
    omega
  · rw [if_neg h]
    have := wle_3
    omega
/-- the options of a job: how it is, and where they end; none below 0 -/
def opO (tx : Int → Int) (ln s w : Int) : Prop := (s < ln ∧ tx s = 32) ∧ wm tx ln (s + 1) w
noncomputable def o1E (tx : Int → Int) (ln s w : Int) : Int := by classical exact if opO tx ln s w then s + 1 + wle w else s
noncomputable def o1V (tx : Int → Int) (ln s w v : Int) : Int := by classical exact if opO tx ln s w then v else 0
/-- staple1, staple2: the form is kept -/
def o3O (tx : Int → Int) (ln s : Int) : Prop := opO tx ln s 2 → (s + 1 + wle 2 < ln ∧ (tx (s + 1 + wle 2) = 49 ∨ tx (s + 1 + wle 2) = 50))
noncomputable def o3E (tx : Int → Int) (ln s : Int) : Int := by classical exact if opO tx ln s 2 then s + 1 + wle 2 + 1 else s
noncomputable def o3V (tx : Int → Int) (ln s : Int) : Int := by classical exact if opO tx ln s 2 then (if tx (s + 1 + wle 2) = 49 then 4 else 8) else 0
theorem o1E_rg {tx : Int → Int} {ln s w : Int} (hw : 0 ≤ w ∧ w < 9) (h0 : s ≤ ln) : s ≤ o1E tx ln s w ∧ o1E tx ln s w ≤ ln := by
  unfold o1E
  split
  · next h => have := wm_len hw h.2; omega
  · omega
theorem o3E_rg {tx : Int → Int} {ln s : Int} (h0 : s ≤ ln) (h : o3O tx ln s) : s ≤ o3E tx ln s ∧ o3E tx ln s ≤ ln := by
  unfold o3E
  split
  · next z => have a := h z; have b := wm_len (by decide) z.2; omega
  · omega
