/-! the model's changes -/
def cpr (f g : Int → Int) (a : Int) (n : Nat) : Int → Int := fun k => if 0 ≤ k ∧ k < (n : Int) then f (a + k) else g k
def cpw (f g : Int → Int) (a : Int) (n : Nat) : Int → Int := fun k => if a ≤ k ∧ k < a + (n : Int) then f (k - a) else g k
theorem cpr_0 (f g : Int → Int) (a : Int) : cpr f g a 0 = g := by
  funext k
  exact if_neg (by omega)
theorem cpw_0 (f g : Int → Int) (a : Int) : cpw f g a 0 = g := by
  funext k
  exact if_neg (by omega)
theorem cpr_s (f g : Int → Int) (a : Int) (n : Nat) : up1 (cpr f g a n) (n : Int) (f (a + (n : Int))) = cpr f g a (n + 1) := by
  funext k
  unfold up1 cpr
  by_cases h : k = (n : Int)
  · rw [if_pos h, if_pos (by omega), h]
  · rw [if_neg h]
    by_cases h2 : 0 ≤ k ∧ k < (n : Int)
    · rw [if_pos h2, if_pos (by omega)]
    · rw [if_neg h2, if_neg (by omega)]
theorem cpw_s (f g : Int → Int) (a : Int) (n : Nat) : up1 (cpw f g a n) (a + (n : Int)) (f (n : Int)) = cpw f g a (n + 1) := by
  funext k
  unfold up1 cpw
  by_cases h : k = a + (n : Int)
  · rw [if_pos h, if_pos (by omega), h, show a + (n : Int) - a = (n : Int) by omega]
  · rw [if_neg h]
    by_cases h2 : a ≤ k ∧ k < a + (n : Int)
    · rw [if_pos h2, if_pos (by omega)]
    · rw [if_neg h2, if_neg (by omega)]
/-- the past, one row on -/
def shp (f : Int → Int) (n : Nat) : Int → Int := fun k => if 0 ≤ k ∧ k < (n : Int) then f (k + 185) else f k
theorem shp_s (f : Int → Int) (n : Nat) : up1 (shp f n) (n : Int) (shp f n ((n : Int) + 185)) = shp f (n + 1) := by
  have e : shp f n ((n : Int) + 185) = f ((n : Int) + 185) := if_neg (by omega)
  rw [e]
  funext k
  unfold up1 shp
  by_cases h : k = (n : Int)
  · rw [if_pos h, if_pos (by omega), h]
  · rw [if_neg h]
    by_cases h2 : 0 ≤ k ∧ k < (n : Int)
    · rw [if_pos h2, if_pos (by omega)]
    · rw [if_neg h2, if_neg (by omega)]
/-- the jobs behind a place, one row on -/
def sh10 (r : Int → Int) (lo n : Int) : Int → Int := fun k => if lo ≤ k ∧ k < n then r (k + 10) else r k
theorem sh10_0 (r : Int → Int) (lo : Int) : sh10 r lo lo = r := by
  funext k
  exact if_neg (by omega)
theorem sh10_s (r : Int → Int) (lo n : Int) (h0 : lo ≤ n) : up1 (sh10 r lo n) n (sh10 r lo n (n + 10)) = sh10 r lo (n + 1) := by
  have e : sh10 r lo n (n + 10) = r (n + 10) := if_neg (by omega)
  rw [e]
  funext k
  unfold up1 sh10
  by_cases h : k = n
  · rw [if_pos h, if_pos (by omega), h]
  · rw [if_neg h]
    by_cases h2 : lo ≤ k ∧ k < n
    · rw [if_pos h2, if_pos (by omega)]
    · rw [if_neg h2, if_neg (by omega)]
def inc (r : Int → Int) (k : Int) : Int → Int := up1 r k (r k + 1)
def adn (r : Int → Int) (k v : Int) : Int → Int := up1 r k (r k + v)
def sbn (r : Int → Int) (k v : Int) : Int → Int := up1 r k (r k - v)
/-- the past and how many states it holds, behind a record -/
def recA (past : Int → Int) (sv : Int) : Int → Int := if sv = 4 then shp past 555 else past
def recN (sv : Int) : Int := if sv = 4 then 3 else sv
def recP (now past : Int → Int) (sv : Int) : Int → Int := cpw now (recA past sv) (185 * recN sv) 185
def recS (sv : Int) : Int := recN sv + 1
def comesF (r : Int → Int) (pg cp sz kd hw : Int) : Int → Int :=
  inc (inc (up1 (up1 (up1 (up1 (up1 (up1 (up1 (up1 (up1 (up1 r (85 + 10 * r 0 + 0) (r 1)) (85 + 10 * r 0 + 1) pg) (85 + 10 * r 0 + 2) cp) (85 + 10 * r 0 + 3) sz) (85 + 10 * r 0 + 4) kd) (85 + 10 * r 0 + 5) hw) (85 + 10 * r 0 + 6) 0) (85 + 10 * r 0 + (6 + 1)) 0) (85 + 10 * r 0 + (6 + 1 + 1)) 0) (85 + 10 * r 0 + (6 + 1 + 1 + 1)) 0) 0) 1
def goesF (r : Int → Int) (p : Int) : Int → Int := sh10 (sbn r 0 1) (85 + 10 * p) (85 + 10 * (r 0 - 1))
def endsF (r : Int → Int) : Int → Int := up1 (up1 (up1 r 4 0) 5 0) 6 (-4)
def stayF (r : Int → Int) (j : Int) : Int → Int := up1 r 7 (if r 7 = j then -4 else r 7)
def givF (r : Int → Int) (j : Int) : Int → Int := stayF (if r 6 = j then endsF (adn r 18 (if r 5 = 1 then 1 else 0)) else r) j
abbrev donF (r : Int → Int) (p : Int) : Prop := jf r p 8 = als r p ∧ (jf r p 5 / 4 = 0 ∨ jf r p 9 = jf r p 2)
def leavF (r : Int → Int) (p : Int) : Int → Int := if donF r p then inc (goesF (stayF r (jf r p 0)) p) 21 else r
def useF (r : Int → Int) (p : Int) : Int := if jf r p 5 / 4 < r 3 then jf r p 5 / 4 else r 3
def stapF0 (r : Int → Int) (p : Int) : Int → Int := inc (adn (sbn r 3 (useF r p)) 20 (useF r p)) (85 + 10 * p + 9)
def stapF (r : Int → Int) (p : Int) : Int → Int := leavF (stapF0 r p) p
