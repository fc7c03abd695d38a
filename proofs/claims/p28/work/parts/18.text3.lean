/-! the model's texts: jobs, faults, entering -/
/-- a number and its letter -/
def nuO (tx : Int → Int) (ln s c : Int) : Prop := 0 < dgc tx ln s ∧ s + dgc tx ln s < ln ∧ tx (s + dgc tx ln s) = c
def t1E (tx : Int → Int) (ln s : Int) : Int := s + dgc tx ln s + 1
def tjU (tx : Int → Int) (ln s : Int) : Int := t1E tx ln (t1E tx ln s + 1)
noncomputable def tjW (tx : Int → Int) (ln u : Int) : Int := o1E tx ln (o1E tx ln u 0) 1
noncomputable def tjX (tx : Int → Int) (ln u : Int) : Int := o3E tx ln (tjW tx ln u)
def reO (tx : Int → Int) (ln u : Int) : Prop := o3O tx ln (tjW tx ln u) ∧ eO tx ln (tjX tx ln u)
/-- a job of the form stands at s -/
def tjO (tx : Int → Int) (ln s : Int) : Prop := nuO tx ln s 112 ∧ (t1E tx ln s < ln ∧ tx (t1E tx ln s) = 32) ∧ nuO tx ln (t1E tx ln s + 1) 99 ∧ reO tx ln (tjU tx ln s)
def tjP (tx : Int → Int) (ln s : Int) : Int := dgN tx ln s
def tjC (tx : Int → Int) (ln s : Int) : Int := dgN tx ln (t1E tx ln s + 1)
noncomputable def tjS (tx : Int → Int) (ln s : Int) : Int := eS tx ln (tjX tx ln (tjU tx ln s))
noncomputable def tjK (tx : Int → Int) (ln s : Int) : Int := eK tx ln (tjX tx ln (tjU tx ln s))
noncomputable def tjH (tx : Int → Int) (ln s : Int) : Int := o1V tx ln (tjU tx ln s) 0 1 + o1V tx ln (o1E tx ln (tjU tx ln s) 0) 1 2 + o3V tx ln (tjW tx ln (tjU tx ln s))
noncomputable def tjE (tx : Int → Int) (ln s : Int) : Int := eE tx ln (tjX tx ln (tjU tx ln s))
theorem tj_rg {tx : Int → Int} {ln s : Int} (h0 : 0 ≤ s) (h : tjO tx ln s) : (0 ≤ tjP tx ln s ∧ tjP tx ln s ≤ 999) ∧ (0 ≤ tjC tx ln s ∧ tjC tx ln s ≤ 999) ∧ (0 ≤ tjS tx ln s ∧ tjS tx ln s ≤ 3) ∧ (0 ≤ tjK tx ln s ∧ tjK tx ln s ≤ 3) ∧ (0 ≤ tjH tx ln s ∧ tjH tx ln s ≤ 11) ∧ (s < tjE tx ln s ∧ tjE tx ln s ≤ ln) := by
  obtain ⟨a, b, c, d⟩ := h
  have r1 := dgc_rg tx ln s
  have r2 := dgc_rg tx ln (t1E tx ln s + 1)
  have e1 : t1E tx ln s = s + dgc tx ln s + 1 := rfl
  have e2 : tjU tx ln s = t1E tx ln s + 1 + dgc tx ln (t1E tx ln s + 1) + 1 := rfl
  have c2 := c.2.1
  have u1 : tjU tx ln s ≤ ln := by omega
  have p1 := o1E_rg (tx := tx) (ln := ln) (w := 0) (by decide) u1
  have p2 := o1E_rg (tx := tx) (ln := ln) (w := 1) (by decide) p1.2
  have p3 := o3E_rg (tx := tx) (ln := ln) p2.2 d.1
  obtain ⟨f1, f2, f3, f4, f5⟩ := d.2
  have z := szE_rg f2
  have k := knd_sp f4
  have kl := wm_len (by omega) k.2
  have x1 : tjX tx ln (tjU tx ln s) = o3E tx ln (o1E tx ln (o1E tx ln (tjU tx ln s) 0) 1) := rfl
  refine ⟨dgN_rg, dgN_rg, ?_, ⟨f4, by unfold tjK eK; omega⟩, ?_, ?_⟩
  · unfold tjS eS szV
    rcases f2 with y | ⟨y, y2, y3, y4⟩
    · rw [if_pos y]; omega
    · rw [if_neg y]; omega
  · unfold tjH o1V o3V
    (repeat' split) <;> omega
  · unfold tjE eE
    omega
/-- why the job at s is not possible, m ahead of it; 0: it is -/
noncomputable def whyJ (tx : Int → Int) (ln : Int) (r : Int → Int) (s m : Int) : Int := by
  classical exact if ¬ tjO tx ln s then 1 else if ¬ ((1 ≤ tjP tx ln s ∧ tjP tx ln s ≤ 200) ∧ 1 ≤ tjC tx ln s ∧ tjC tx ln s ≤ 50) then 2 else if 0 < wny r (tjP tx ln s) (tjK tx ln s) (tjH tx ln s) then 3 else if 10 ≤ r 0 + m then 4 else 0
/-- (why, where, how many) of the text from s on -/
noncomputable def hfF (tx : Int → Int) (ln : Int) (r : Int → Int) : Nat → Int → Int → Int × Int × Int
  | 0, s, m => (0, s, m)
  | n + 1, s, m => if s < ln then (if whyJ tx ln r s m = 0 then hfF tx ln r n (tjE tx ln s) (m + 1) else (whyJ tx ln r s m, s, m)) else (0, s, m)
theorem whyJ_rg (tx : Int → Int) (ln : Int) (r : Int → Int) (s m : Int) : 0 ≤ whyJ tx ln r s m ∧ whyJ tx ln r s m ≤ 4 := by
  unfold whyJ
  (repeat' split) <;> omega
theorem whyJ_0 {tx : Int → Int} {ln : Int} {r : Int → Int} {s m : Int} (h : whyJ tx ln r s m = 0) : tjO tx ln s ∧ ((1 ≤ tjP tx ln s ∧ tjP tx ln s ≤ 200) ∧ 1 ≤ tjC tx ln s ∧ tjC tx ln s ≤ 50) ∧ ¬ 0 < wny r (tjP tx ln s) (tjK tx ln s) (tjH tx ln s) ∧ r 0 + m < 10 := by
  unfold whyJ at h
  split at h
  · omega
  · next a =>
    split at h
    · omega
    · next b =>
      split at h
      · omega
      · next c =>
        split at h
        · omega
        · next d => exact ⟨Classical.not_not.mp a, by omega, c, by omega⟩
theorem hfF_s {tx : Int → Int} {ln : Int} {r : Int → Int} {n : Nat} {s m : Int} (h : s < ln) (h2 : whyJ tx ln r s m = 0) : hfF tx ln r (n + 1) s m = hfF tx ln r n (tjE tx ln s) (m + 1) := by
  show (if _ then _ else _) = _
  rw [if_pos h, if_pos h2]
theorem hfF_f {tx : Int → Int} {ln : Int} {r : Int → Int} {n : Nat} {s m : Int} (h : s < ln) (h2 : ¬ whyJ tx ln r s m = 0) : hfF tx ln r (n + 1) s m = (whyJ tx ln r s m, s, m) := by
  show (if _ then _ else _) = _
  rw [if_pos h, if_neg h2]
theorem hfF_e {tx : Int → Int} {ln : Int} {r : Int → Int} {n : Nat} {s m : Int} (h : ¬ s < ln) : hfF tx ln r n s m = (0, s, m) := by
  cases n with
  | zero => rfl
  | succ n =>
    show (if _ then _ else _) = _
    rw [if_neg h]
/-- the rows behind the jobs of a text, and that they are of the form -/
noncomputable def entF (tx : Int → Int) (ln : Int) : Nat → (Int → Int) → Int → (Int → Int)
  | 0, r, _ => r
  | n + 1, r, s => entF tx ln n (comesF r (tjP tx ln s) (tjC tx ln s) (tjS tx ln s) (tjK tx ln s) (tjH tx ln s)) (tjE tx ln s)
def chn (tx : Int → Int) (ln : Int) : Nat → Int → Prop
  | 0, _ => True
  | n + 1, s => tjO tx ln s ∧ chn tx ln n (tjE tx ln s)
theorem comesF_0 {r : Int → Int} {pg cp sz kd hw : Int} (h0 : 0 ≤ r 0) : comesF r pg cp sz kd hw 0 = r 0 + 1 := by
  unfold comesF inc
  rw [up1_ne (by decide), up1_at]
  (repeat rw [up1_ne (by omega)])
theorem hfF_ok {tx : Int → Int} {ln : Int} {r : Int → Int} : ∀ (n : Nat) (s m : Int), 0 ≤ s → s ≤ ln → 0 ≤ m → r 0 + m ≤ 10 → (hfF tx ln r n s m).1 = 0 → m ≤ (hfF tx ln r n s m).2.2 ∧ r 0 + (hfF tx ln r n s m).2.2 ≤ 10 ∧ chn tx ln ((hfF tx ln r n s m).2.2 - m).toNat s := by
  intro n
  induction n with
  | zero =>
    intro s m h0 h1 h2 h3 h
    refine ⟨Int.le_refl _, h3, ?_⟩
    show chn tx ln (m - m).toNat s
    rw [show (m - m).toNat = 0 by omega]
    trivial
  | succ n ih =>
    intro s m h0 h1 h2 h3 h
    by_cases y : s < ln
    · by_cases z : whyJ tx ln r s m = 0
      · have w := whyJ_0 z
        have t := tj_rg h0 w.1
        rw [hfF_s y z] at h ⊢
        obtain ⟨a, b, c⟩ := ih (tjE tx ln s) (m + 1) (by omega) (by omega) (by omega) (by omega) h
        refine ⟨by omega, b, ?_⟩
        rw [show ((hfF tx ln r n (tjE tx ln s) (m + 1)).2.2 - m).toNat = ((hfF tx ln r n (tjE tx ln s) (m + 1)).2.2 - (m + 1)).toNat + 1 by omega]
        exact ⟨w.1, c⟩
      · rw [hfF_f y z] at h
        exact absurd h z
    · rw [hfF_e y] at h ⊢
      refine ⟨Int.le_refl _, h3, ?_⟩
      show chn tx ln (m - m).toNat s
      rw [show (m - m).toNat = 0 by omega]
      trivial
