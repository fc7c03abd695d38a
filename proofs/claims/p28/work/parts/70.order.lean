/-! the order of the queue -/
theorem jnum {r : Int → Int} (h : RI r) {p q : Int} (hp : 0 ≤ p ∧ p < r 0) (hq : 0 ≤ q ∧ q < r 0) : (jf r p 0 = jf r q 0 → p = q) ∧ (p < q → jf r p 0 < jf r q 0) := by
  have so := h.2.2.2.2.1
  refine ⟨fun e => ?_, fun e => so p q hp.1 e hq.2⟩
  rcases Int.lt_trichotomy p q with y | y | y
  · have := so p q hp.1 y hq.2
    omega
  · exact y
  · have := so q p hq.1 y hp.2
    omega
theorem jheld {r : Int → Int} (h : RI r) {p : Int} (hp : 0 ≤ p ∧ p < r 0) : (0 ≤ jf r p 7 ∧ jf r p 7 ≤ 1) ∧ (0 ≤ jf r p 6 ∧ jf r p 6 ≤ 9) := by
  have j := (h.2.2.2.2.2.1 p hp.1 hp.2).1
  unfold JB at j
  omega
theorem ahd_tot {r : Int → Int} (h : RI r) {p q : Int} (hp : 0 ≤ p ∧ p < r 0) (hq : 0 ≤ q ∧ q < r 0) (hn : ¬ p = q) : ahd r p q ∨ ahd r q p := by
  have a := jheld h hp
  have b := jheld h hq
  unfold ahd
  omega
theorem ahd_asy {r : Int → Int} (h : RI r) {p q : Int} (hp : 0 ≤ p ∧ p < r 0) (hq : 0 ≤ q ∧ q < r 0) (hn : ¬ p = q) (x : ahd r p q) : ¬ ahd r q p := by
  have a := jheld h hp
  have b := jheld h hq
  have c := (jnum h hp hq).1
  have d := (jnum h hp hq).2
  have e := (jnum h hq hp).2
  unfold ahd at x ⊢
  omega
theorem ahd_trs {r : Int → Int} (h : RI r) {p q s : Int} (hp : 0 ≤ p ∧ p < r 0) (hq : 0 ≤ q ∧ q < r 0) (hs : 0 ≤ s ∧ s < r 0) (n1 : ¬ p = q) (n2 : ¬ q = s) (x : ahd r p q) (y : ahd r q s) : ahd r p s := by
  have a := jheld h hp
  have b := jheld h hq
  have c := jheld h hs
  have d := (jnum h hq hs).1
  have f := (jnum h hp hq).1
  unfold ahd at x y ⊢
  omega
theorem ahN_mono {r : Int → Int} (h : RI r) {p q : Int} (hp : 0 ≤ p ∧ p < r 0) (hq : 0 ≤ q ∧ q < r 0) (nq : ¬ p = q) (x : ahd r p q) : ∀ n : Nat, (n : Int) ≤ r 0 → ahN r p n + (if p < (n : Int) then 1 else 0) ≤ ahN r q n
  | 0, _ => by unfold ahN; rw [if_neg (by omega)]; omega
  | n + 1, hn => by
    have i := ahN_mono h hp hq nq x n (by omega)
    unfold ahN
    by_cases u : (n : Int) = p
    · rw [if_neg (show ¬ (¬ (n : Int) = p ∧ ahd r (n : Int) p) from fun z => z.1 u), if_pos (show ¬ (n : Int) = q ∧ ahd r (n : Int) q from ⟨by omega, by rw [u]; exact x⟩)]
      split at i <;> split <;> omega
    · by_cases v : ahd r (n : Int) p
      · have w : ahd r (n : Int) q := ahd_trs h (by omega) hp hq u nq v x
        have w2 : ¬ (n : Int) = q := fun e => by rw [e] at v; exact ahd_asy h hp hq nq x v
        rw [if_pos (show ¬ (n : Int) = p ∧ ahd r (n : Int) p from ⟨u, v⟩), if_pos (show ¬ (n : Int) = q ∧ ahd r (n : Int) q from ⟨w2, w⟩)]
        split at i <;> split <;> omega
      · rw [if_neg (show ¬ (¬ (n : Int) = p ∧ ahd r (n : Int) p) from fun z => v z.2)]
        split at i <;> (repeat' split) <;> omega
theorem ahN_lt {r : Int → Int} {p : Int} (hp : 0 ≤ p) : ∀ n : Nat, ahN r p n + (if p < (n : Int) then 1 else 0) ≤ (n : Int)
  | 0 => by unfold ahN; rw [if_neg (by omega)]; omega
  | n + 1 => by
    have i := ahN_lt (r := r) hp n
    unfold ahN
    by_cases u : (n : Int) = p
    · rw [if_neg (fun z => z.1 u)]
      split at i <;> split <;> omega
    · split at i <;> (repeat' split) <;> omega
/-- the rank of a job -/
def rkF (r : Int → Int) (p : Int) : Int := ahN r p (r 0).toNat
theorem rk_rg {r : Int → Int} {p : Int} (hp : 0 ≤ p ∧ p < r 0) : 0 ≤ rkF r p ∧ rkF r p < r 0 := by
  have a := ahN_rg r p (r 0).toNat
  have b := ahN_lt (r := r) hp.1 (r 0).toNat
  rw [if_pos (by omega)] at b
  unfold rkF
  omega
theorem rk_mono {r : Int → Int} (h : RI r) {p q : Int} (hp : 0 ≤ p ∧ p < r 0) (hq : 0 ≤ q ∧ q < r 0) (nq : ¬ p = q) (x : ahd r p q) : rkF r p < rkF r q := by
  have a := ahN_mono h hp hq nq x (r 0).toNat (by omega)
  rw [if_pos (by omega)] at a
  unfold rkF
  omega
theorem rk_inj {r : Int → Int} (h : RI r) {p q : Int} (hp : 0 ≤ p ∧ p < r 0) (hq : 0 ≤ q ∧ q < r 0) (e : rkF r p = rkF r q) : p = q := by
  apply Classical.byContradiction
  intro hn
  rcases ahd_tot h hp hq hn with x | x
  · have := rk_mono h hp hq hn x
    omega
  · have := rk_mono h hq hp (fun z => hn z.symm) x
    omega
theorem rk_ahd {r : Int → Int} (h : RI r) {p q : Int} (hp : 0 ≤ p ∧ p < r 0) (hq : 0 ≤ q ∧ q < r 0) (e : rkF r p < rkF r q) : ahd r p q := by
  have hn : ¬ p = q := fun z => by rw [z] at e; omega
  rcases ahd_tot h hp hq hn with x | x
  · exact x
  · have := rk_mono h hq hp (fun z => hn z.symm) x
    omega
theorem rk_sur {r : Int → Int} (h : RI r) {t : Int} (ht : 0 ≤ t ∧ t < r 0) : ∃ k : Int, (0 ≤ k ∧ k < r 0) ∧ rkF r k = t := by
  apply Classical.byContradiction
  intro hn
  have ne : ∀ k : Nat, (k : Int) < r 0 → ¬ rkF r (k : Int) = t := fun k hk e => hn ⟨(k : Int), ⟨by omega, hk⟩, e⟩
  have z := pigeon ((r 0).toNat - 1) (r 0).toNat (fun k => (if t < rkF r (k : Int) then rkF r (k : Int) - 1 else rkF r (k : Int)).toNat) (fun k hk => by
    have a := rk_rg (r := r) (p := (k : Int)) (by omega)
    have b := ne k (by omega)
    show (if t < rkF r (k : Int) then rkF r (k : Int) - 1 else rkF r (k : Int)).toNat < _
    split <;> omega) (fun i k hik hk e => by
    have a := rk_rg (r := r) (p := (k : Int)) (by omega)
    have b := ne k (by omega)
    have c := rk_rg (r := r) (p := (i : Int)) (by omega)
    have d := ne i (by omega)
    have f : ¬ rkF r (i : Int) = rkF r (k : Int) := fun q => by have := rk_inj h (p := (i : Int)) (q := (k : Int)) (by omega) (by omega) q; omega
    have e' : (if t < rkF r (i : Int) then rkF r (i : Int) - 1 else rkF r (i : Int)).toNat = (if t < rkF r (k : Int) then rkF r (k : Int) - 1 else rkF r (k : Int)).toNat := e
    split at e' <;> split at e' <;> omega)
  omega
/-- the job at a place -/
theorem qu_k {r : Int → Int} (h : RI r) {k : Int} (hk : 0 ≤ k ∧ k < r 0) : ∀ m s : Nat, (s : Int) + (m : Int) = r 0 → (s : Int) ≤ k → quF r (rkF r k) m s = jf r k 0
  | 0, s, e, hs => by omega
  | m + 1, s, e, hs => by
    unfold quF
    by_cases z : (s : Int) = k
    · rw [z, if_pos (show ahN r k (r 0).toNat = rkF r k from rfl)]
    · have w : ¬ ahN r (s : Int) (r 0).toNat = rkF r k := fun q => z (rk_inj h (by omega) hk q)
      rw [if_neg w]
      exact qu_k h hk m (s + 1) (by omega) (by omega)
theorem qu_none {r : Int → Int} {t : Int} (ht : r 0 ≤ t ∨ t < 0) : ∀ m s : Nat, (s : Int) + (m : Int) ≤ r 0 → quF r t m s = -4
  | 0, s, e => rfl
  | m + 1, s, e => by
    unfold quF
    have a := rk_rg (r := r) (p := (s : Int)) (by omega)
    unfold rkF at a
    rw [if_neg (by omega)]
    exact qu_none ht m (s + 1) (by omega)
/-- the job at place t: where it lies -/
noncomputable def quP (r : Int → Int) (t : Int) : Int := plc r (quF r t (r 0).toNat 0)
theorem qu_at {r : Int → Int} (h : RI r) {t : Int} (ht : 0 ≤ t ∧ t < r 0) : (0 ≤ quP r t ∧ quP r t < r 0) ∧ rkF r (quP r t) = t ∧ quF r t (r 0).toNat 0 = jf r (quP r t) 0 := by
  obtain ⟨k, hk, e⟩ := rk_sur h ht
  have q := qu_k h hk (r 0).toNat 0 (by omega) (by omega)
  rw [e] at q
  unfold quP
  rw [q, plc_self h.2.2.2.2.1 hk]
  exact ⟨hk, e, rfl⟩
theorem qu_rg {r : Int → Int} (h : RI r) (t : Int) : quF r t (r 0).toNat 0 = -4 ∨ (0 ≤ quF r t (r 0).toNat 0 ∧ quF r t (r 0).toNat 0 < r 1 ∧ 0 ≤ plc r (quF r t (r 0).toNat 0)) := by
  have n := h.1
  unfold NI at n
  by_cases ht : 0 ≤ t ∧ t < r 0
  · have a := qu_at h ht
    have j := h.jn _ a.1.1 a.1.2
    have l := (h.2.2.2.2.2.1 _ a.1.1 a.1.2).2.2.2.2
    have b := a.1.1
    unfold quP at b
    right
    rw [a.2.2] at b ⊢
    exact ⟨j, l, b⟩
  · exact Or.inl (qu_none (by omega) _ _ (by omega))
/-- the staying job that is not held is the first one -/
theorem rk_stay {r : Int → Int} (h : RI r) {k : Int} (hk : 0 ≤ k ∧ k < r 0) (hs : jf r k 0 = r 7) (hh : jf r k 7 = 0) : rkF r k = 0 := by
  have z : ∀ n : Nat, (n : Int) ≤ r 0 → ahN r k n = 0 := fun n => by
    induction n with
    | zero => exact fun _ => rfl
    | succ n ih =>
      intro hn
      unfold ahN
      rw [ih (by omega), if_neg]
      · rfl
      · rintro ⟨a, b⟩
        have c := jheld h (p := (n : Int)) (by omega)
        have d := (jnum h (p := (n : Int)) (q := k) (by omega) hk).1
        unfold ahd at b
        omega
  exact z _ (by omega)
/-- held ones, counted by their places -/
noncomputable def hqS (r : Int → Int) : Nat → Int
  | 0 => 0
  | n + 1 => hqS r n + jf r (quP r (n : Int)) 7
def in1 (r : Int → Int) (t : Int) : Nat → Int
  | 0 => 0
  | n + 1 => in1 r t n + (if rkF r (n : Int) = t then jf r (n : Int) 7 else 0)
theorem in1_at {r : Int → Int} (h : RI r) {k : Int} (hk : 0 ≤ k ∧ k < r 0) : ∀ n : Nat, (n : Int) ≤ r 0 → in1 r (rkF r k) n = if k < (n : Int) then jf r k 7 else 0
  | 0, _ => by unfold in1; rw [if_neg (by omega)]
  | n + 1, hn => by
    unfold in1
    rw [in1_at h hk n (by omega)]
    by_cases z : (n : Int) = k
    · rw [z, if_neg (by omega), if_pos rfl, if_pos (by omega)]
      omega
    · rw [if_neg (fun q => z (rk_inj h (by omega) hk q))]
      split <;> split <;> omega
def in2 (r : Int → Int) (n : Nat) : Nat → Int
  | 0 => 0
  | m + 1 => in2 r n m + in1 r (m : Int) n
theorem in2_s (r : Int → Int) (n : Nat) : ∀ m : Nat, in2 r (n + 1) m = in2 r n m + (if 0 ≤ rkF r (n : Int) ∧ rkF r (n : Int) < (m : Int) then jf r (n : Int) 7 else 0)
  | 0 => by unfold in2; rw [if_neg (by omega)]; rfl
  | m + 1 => by
    have i := in2_s r n m
    show in2 r (n + 1) m + (in1 r (m : Int) n + (if rkF r (n : Int) = (m : Int) then jf r (n : Int) 7 else 0)) = in2 r n m + in1 r (m : Int) n + _
    rw [i]
    (repeat' split) <;> omega
theorem in2_hd {r : Int → Int} : ∀ n : Nat, (n : Int) ≤ r 0 → in2 r n (r 0).toNat = hdN r n
  | 0, _ => by
    have z : ∀ m : Nat, in2 r 0 m = 0 := fun m => by
      induction m with
      | zero => rfl
      | succ m ih =>
        unfold in2
        rw [ih]
        rfl
    rw [z]
    rfl
  | n + 1, hn => by
    have a := rk_rg (r := r) (p := (n : Int)) (by omega)
    rw [in2_s, in2_hd n (by omega), if_pos (by omega)]
    rfl
theorem hqS_in {r : Int → Int} (h : RI r) : ∀ m : Nat, (m : Int) ≤ r 0 → hqS r m = in2 r (r 0).toNat m
  | 0, _ => rfl
  | m + 1, hm => by
    have a := qu_at h (t := (m : Int)) (by omega)
    have b := in1_at h a.1 (r 0).toNat (by omega)
    rw [if_pos (by omega), a.2.1] at b
    show hqS r m + _ = in2 r _ m + _
    rw [hqS_in h m (by omega), b]
theorem hqS_hd {r : Int → Int} (h : RI r) : hqS r (r 0).toNat = hdN r (r 0).toNat := by
  have n := h.1
  unfold NI at n
  rw [hqS_in h _ (by omega), in2_hd _ (by omega)]
theorem hqS_rg {r : Int → Int} (h : RI r) : ∀ m : Nat, (m : Int) ≤ r 0 → 0 ≤ hqS r m ∧ hqS r m ≤ (m : Int)
  | 0, _ => ⟨Int.le_refl _, Int.le_refl _⟩
  | m + 1, hm => by
    have a := qu_at h (t := (m : Int)) (by omega)
    have b := jheld h a.1
    have i := hqS_rg h m (by omega)
    show 0 ≤ hqS r m + _ ∧ hqS r m + _ ≤ _
    omega
/-- two jobs, one behind the other -/
theorem qu_two {r : Int → Int} (h : RI r) (e : EI r) {t : Int} (ht : 1 ≤ t ∧ t < r 0) : (jf r (quP r t) 7 - jf r (quP r (t - 1)) 7 = 1) ∨ (jf r (quP r t) 7 - jf r (quP r (t - 1)) 7 = 0 ∧ (0 < jf r (quP r (t - 1)) 6 - jf r (quP r t) 6 ∨ (jf r (quP r (t - 1)) 6 - jf r (quP r t) 6 = 0 ∧ jf r (quP r (t - 1)) 0 < jf r (quP r t) 0) ∨ (t = 1 ∧ jf r (quP r (t - 1)) 7 = 0))) := by
  have a := qu_at h (t := t) (by omega)
  have b := qu_at h (t := t - 1) (by omega)
  have x := rk_ahd h b.1 a.1 (by omega)
  have ja := jheld h a.1
  have jb := jheld h b.1
  have nl := (jnum h b.1 a.1).2
  have st := rk_stay h b.1
  have ej := (e.2.2 _ b.1.1 b.1.2).1
  unfold ahd at x
  omega
/-- what fills what lacks -/
theorem lk_tr {r r' : Int → Int} {s q : Int} (e : ∀ k, (k < 25 ∨ 37 ≤ k) → r' k = r k) : ∀ n : Nat, lkN r' s q n = lkN r s q n + shA r s q 4 - shA r' s q 4
  | 0 => by
    show - shA r' s q 4 = - shA r s q 4 + shA r s q 4 - shA r' s q 4
    omega
  | n + 1 => by
    have g : ∀ w, 0 ≤ w → w < 10 → jf r' (n : Int) w = jf r (n : Int) w := fun w a b => e _ (by omega)
    have al := (sst_ext g).2
    unfold lkN
    rw [lk_tr e n, g 3 (by decide) (by decide), g 4 (by decide) (by decide), g 8 (by decide) (by decide), g 0 (by decide) (by decide), e 5 (by decide), e 6 (by decide), al]
    omega
theorem lk_fill {r : Int → Int} {s q m : Int} (n : Nat) : lkN (up1 (up1 (up1 (up1 r (25 + 3 * 3) s) (25 + 3 * 3 + 1) q) (25 + 3 * 3 + 2) 0) (25 + 3 * 3 + 2) m) s q n = lkN r s q n - m + (if r 34 = s ∧ r 35 = q then r 36 else 0) := by
  rw [lk_tr (r := r) (fun k hk => by rw [up1_ne (by omega), up1_ne (by omega), up1_ne (by omega), up1_ne (by omega)])]
  have z : ∀ k, (k < 34 ∨ 36 < k) → up1 (up1 (up1 (up1 r (25 + 3 * 3) s) (25 + 3 * 3 + 1) q) (25 + 3 * 3 + 2) 0) (25 + 3 * 3 + 2) m k = r k := fun k hk => by rw [up1_ne (by omega), up1_ne (by omega), up1_ne (by omega), up1_ne (by omega)]
  have z4 : up1 (up1 (up1 (up1 r (25 + 3 * 3) s) (25 + 3 * 3 + 1) q) (25 + 3 * 3 + 2) 0) (25 + 3 * 3 + 2) m 34 = s := by rw [up1_ne (by decide), up1_ne (by decide), up1_ne (by decide)]; exact up1_at
  have z5 : up1 (up1 (up1 (up1 r (25 + 3 * 3) s) (25 + 3 * 3 + 1) q) (25 + 3 * 3 + 2) 0) (25 + 3 * 3 + 2) m 35 = q := by rw [up1_ne (by decide), up1_ne (by decide)]; exact up1_at
  have z6 : up1 (up1 (up1 (up1 r (25 + 3 * 3) s) (25 + 3 * 3 + 1) q) (25 + 3 * 3 + 2) 0) (25 + 3 * 3 + 2) m 36 = m := up1_at
  generalize up1 (up1 (up1 (up1 r (25 + 3 * 3) s) (25 + 3 * 3 + 1) q) (25 + 3 * 3 + 2) 0) (25 + 3 * 3 + 2) m = v at z z4 z5 z6
  have s3 : shA v s q 3 = shA r s q 3 := by
    have g : ∀ n : Nat, n ≤ 3 → shA v s q n = shA r s q n := fun n => by
      induction n with
      | zero => exact fun _ => rfl
      | succ n ih =>
        intro hn
        unfold shA
        rw [ih (by omega), z _ (by omega), z _ (by omega), z _ (by omega)]
    exact g 3 (by decide)
  have a1 : shA v s q 4 = shA v s q 3 + (if v 34 = s ∧ v 35 = q then v 36 else 0) := rfl
  have a2 : shA r s q 4 = shA r s q 3 + (if r 34 = s ∧ r 35 = q then r 36 else 0) := rfl
  rw [a1, a2, s3, z4, z5, z6, if_pos (show s = s ∧ q = q from ⟨rfl, rfl⟩)]
  omega
