/-! the class between two calls of it -/
theorem setI_ne1 {σ : Sto} {i j : Nat} {k x : Int} (h : ¬ j = i) : (setI σ i k x).1 j = σ.1 j := up2_ne h
theorem Con_s {M : MI} {N N1 : Nat} {S S' : Sto} {av : List Value} {Q : Option Value → Sto → Prop} (e : S' = S) (h : Con M N N1 S' av Q) : Con M N N1 S av Q := by
  rw [← e]
  exact h
theorem FS24 {S : Sto} {sv : Int} {ρ : Int → Int → Int} {len : Int} {text : Int → Int} {rf : Int} {scr : Nat × (Nat → Int32)} {c : Nat → Int → Int} {π : Int → Nat} (h : FS S sv ρ len text rf scr) (hp : PI π) : FS (kst 24 S c π) sv ρ len text rf scr := by
  obtain ⟨a, b, -, ⟨d1, d2⟩, f, g⟩ := h
  exact ⟨a.ext (kst_o2 (by decide)) (kst_o2 (by decide)), b.kst (by decide), ⟨c, π, kst_MS, hp⟩, ⟨by rw [kst_o1 (b := 24) (by decide)]; exact d1, by rw [kst_o1 (b := 24) (by decide)]; exact d2⟩, by rw [kst_o1 (b := 24) (by decide)]; exact f, g⟩
theorem FSrf {S : Sto} {sv : Int} {ρ : Int → Int → Int} {len : Int} {text : Int → Int} {rf x : Int} {scr : Nat × (Nat → Int32)} (h : FS S sv ρ len text rf scr) (h0 : 0 < x) (h1 : x ≤ 4) : FS (setI S 0 5 x) sv ρ len text x scr := by
  obtain ⟨a, b, ⟨c2, π2, m, p⟩, ⟨d1, d2⟩, f, g⟩ := h
  exact ⟨a, b.ext (fun i i0 i1 => ⟨up2_ne (by omega), rfl⟩), ⟨c2, π2, m.setI_o (by decide), p⟩, ⟨by rw [setI_ne1 (by decide)]; exact d1, by rw [setI_ne1 (by decide)]; exact d2⟩, Or.inr ⟨setI_e, by omega, h1⟩, g⟩
theorem FSu {S : Sto} {sv : Int} {ρ : Int → Int → Int} {len : Int} {text : Int → Int} {rf : Int} {scr : Nat × (Nat → Int32)} (h : FS S sv ρ len text rf scr) (hs : HS (setI S 47 1 (sv - 1)) (sv - 1) ρ) : FS (setI S 47 1 (sv - 1)) (sv - 1) ρ len text rf scr := by
  obtain ⟨a, b, ⟨c2, π2, m, p⟩, ⟨d1, d2⟩, f, g⟩ := h
  exact ⟨a, hs, ⟨c2, π2, m.setI_o (by decide), p⟩, ⟨by rw [setI_ne1 (by decide)]; exact d1, by rw [setI_ne1 (by decide)]; exact d2⟩, by rw [setI_ne1 (by decide)]; exact f, g⟩
/-- the object: a row, its history -/
def CL (B : Int) (scr : Nat × (Nat → Int32)) (S : Sto) (r : Int → Int) (sv : Int) (ρ : Int → Int → Int) (rf : Int) : Prop := ∃ (c : Nat → Int → Int) (π : Int → Nat) (text : Int → Int), MS 1 S c π ∧ FS S sv ρ 0 text rf scr ∧ MR c π r ∧ GI B r ∧ ∀ k : Int, 0 ≤ k → k < sv → GI B (ρ k)
theorem CL.sv {B : Int} {scr : Nat × (Nat → Int32)} {S : Sto} {r : Int → Int} {sv : Int} {ρ : Int → Int → Int} {rf : Int} (h : CL B scr S r sv ρ rf) : 0 ≤ sv ∧ sv ≤ 4 := by
  obtain ⟨c, π, text, h1, h3, h4, h5, h6⟩ := h
  exact h3.2.1.2.2.1
theorem CL.gi {B : Int} {scr : Nat × (Nat → Int32)} {S : Sto} {r : Int → Int} {sv : Int} {ρ : Int → Int → Int} {rf : Int} (h : CL B scr S r sv ρ rf) : GI B r := by
  obtain ⟨c, π, text, h1, h3, h4, h5, h6⟩ := h
  exact h5
theorem CL.sc {B : Int} {scr : Nat × (Nat → Int32)} {S : Sto} {r : Int → Int} {sv : Int} {ρ : Int → Int → Int} {rf : Int} (h : CL B scr S r sv ρ rf) : S.2.2 = scr := by
  obtain ⟨c, π, text, h1, h3, h4, h5, h6⟩ := h
  exact h3.2.2.2.2.2
theorem CL.up {B B' : Int} {scr : Nat × (Nat → Int32)} {S : Sto} {r : Int → Int} {sv : Int} {ρ : Int → Int → Int} {rf : Int} (h : CL B scr S r sv ρ rf) (hb : B ≤ B') : CL B' scr S r sv ρ rf := by
  obtain ⟨c, π, text, h1, h3, h4, h5, h6⟩ := h
  exact ⟨c, π, text, h1, h3, h4, h5.up hb, fun k a b => (h6 k a b).up hb⟩
theorem CL_kp {B B' : Int} {scr : Nat × (Nat → Int32)} {S σ2 : Sto} {r r' : Int → Int} {sv : Int} {ρ : Int → Int → Int} {rf : Int} {text : Int → Int} {c c' : Nat → Int → Int} {π π' : Int → Nat} (h3 : FS S sv ρ 0 text rf scr) (kp : KP S σ2 c π sv ρ r) (m : MR c' π' r') (h5 : GI B r) (h6 : ∀ k : Int, 0 ≤ k → k < sv → GI B (ρ k)) (h5' : GI B' r') (hb : B ≤ B') : CL B' scr (kst 1 σ2 c' π') r' (recS sv) (kpR ρ sv r) rf := by
  have hsv := h3.2.1.2.2.1
  refine ⟨c', π', text, kst_MS, FSk (FSp h3 kp), m, h5', fun k a b => ?_⟩
  unfold recS recN at b
  unfold kpR
  by_cases q : sv = 4
  · rw [if_pos q] at b ⊢
    by_cases z : k = 3
    · rw [z, up1_at]
      exact h5.up hb
    · rw [up1_ne z]
      exact (h6 (k + 1) (by omega) (by omega)).up hb
  · rw [if_neg q] at b ⊢
    by_cases z : k = sv
    · rw [z, up1_at]
      exact h5.up hb
    · rw [up1_ne z]
      exact (h6 k a (by omega)).up hb
/-- the state that undo brings back -/
theorem kpR_top {ρ : Int → Int → Int} {sv : Int} {r : Int → Int} : kpR ρ sv r (recS sv - 1) = r := by
  unfold kpR recS recN
  by_cases q : sv = 4
  · rw [if_pos q, if_pos q, show (3 : Int) + 1 - 1 = 3 by decide, up1_at]
  · rw [if_neg q, if_neg q, show sv + 1 - 1 = sv by omega, up1_at]
section LONGS
variable {M : MI} {N N1 pc : Nat} {ls : List (Nat × Value)} {st : List Value} {Q : Option Value → Sto → Prop} {σ : Sto}
theorem V_lmul {x y : Int64} (hd : decode (miB M) pc = .ok (.lmul, 1)) (k : V M N1 (pc + 1) ls (.long (x * y) :: st) N σ Q) : V M N1 pc ls (.long y :: .long x :: st) N σ Q := V_lift (fun C _ _ _ _ k => lv_lmul C.1 C.2.1 hd k) k
theorem V_ladd {x y : Int64} (hd : decode (miB M) pc = .ok (.ladd, 1)) (k : V M N1 (pc + 1) ls (.long (x + y) :: st) N σ Q) : V M N1 pc ls (.long y :: .long x :: st) N σ Q := V_lift (fun C _ _ _ _ k => lv_ladd C.1 C.2.1 hd k) k
theorem V_i2l {x : Int} (hd : decode (miB M) pc = .ok (.i2l, 1)) (k : V M N1 (pc + 1) ls (.long (Int32.ofInt x).toInt64 :: st) N σ Q) : V M N1 pc ls (zI x :: st) N σ Q := V_lift (fun C _ _ _ _ k => lv_i2l C.1 C.2.1 hd rfl k) k
theorem zI_any {x : Int32} : Value.int x = zI x.toInt := (congrArg Value.int (zi_of x)).symm
theorem V_ixor {x y : Int} (hd : decode (miB M) pc = .ok (.ixor, 1)) (k : ∀ z : Int, -2147483648 ≤ z ∧ z < 2147483648 → V M N1 (pc + 1) ls (zI z :: st) N σ Q) : V M N1 pc ls (zI y :: zI x :: st) N σ Q :=
  V_lift (st' := Value.int (Int32.ofInt x ^^^ Int32.ofInt y) :: st) (fun C _ _ _ _ k => lv_ixor C.1 C.2.1 hd k) (by rw [zI_any]; exact k _ (zi_rg _))
theorem V_iushr {x y : Int} (hd : decode (miB M) pc = .ok (.iushr, 1)) (k : ∀ z : Int, -2147483648 ≤ z ∧ z < 2147483648 → V M N1 (pc + 1) ls (zI z :: st) N σ Q) : V M N1 pc ls (zI y :: zI x :: st) N σ Q :=
  V_lift (st' := Value.int ((Int32.ofInt x).toUInt32 >>> ((Int32.ofInt y).toUInt32 &&& Int32.toUInt32 31)).toInt32 :: st) (fun C _ _ _ _ k => lv_iushr C.1 C.2.1 hd rfl k) (by rw [zI_any]; exact k _ (zi_rg _))
theorem V_ishr {x y : Int} (hd : decode (miB M) pc = .ok (.ishr, 1)) (k : ∀ z : Int, -2147483648 ≤ z ∧ z < 2147483648 → V M N1 (pc + 1) ls (zI z :: st) N σ Q) : V M N1 pc ls (zI y :: zI x :: st) N σ Q :=
  V_lift (st' := Value.int (Int32.ofInt x >>> (Int32.ofInt y &&& 31)) :: st) (fun C _ _ _ _ k => lv_ishr C.1 C.2.1 hd k) (by rw [zI_any]; exact k _ (zi_rg _))
theorem lcmp_same (x : Int64) : (lg_cmp x x).toInt = 0 := by
  unfold lg_cmp
  simp
/-- two prints that are the same -/
theorem V_lsame {x : Int64} (hd : decode (miB M) pc = .ok (.lcmp, 1)) (k : V M N1 (pc + 1) ls (zI 0 :: st) N σ Q) : V M N1 pc ls (.long x :: .long x :: st) N σ Q := V_lcmp hd (by rw [lcmp_same]; exact k)
end LONGS
section CALLS28
variable {B : Int} {scr : Nat × (Nat → Int32)} {S : Sto} {r : Int → Int} {sv : Int} {ρ : Int → Int → Int} {rf : Int} {Q : Option Value → Sto → Prop}
theorem q_count (h : CL B scr S r sv ρ rf) {w x : Int} (r_w : -2147483648 ≤ w ∧ w < 2147483648) (hx : cntF r sv 0 w = x) (k : ∀ S', CL B scr S' r sv ρ rf → Q (some (zI x)) S') : Con M_X7_count 144 144 S [.ref 0, zI w] Q := by
  have h0 := h
  obtain ⟨c, π, text, h1, h3, h4, h5, h6⟩ := h
  refine Con_s h1.eq (c_X7_count h3.1 h4 h5.1 r_w ?_)
  rw [h3.2.1.2.1, h3.2.2.2.1.1, hx, h1.eq]
  exact k S h0
theorem q_account (h : CL B scr S r sv ρ rf) {w : Int} (r_w : -2147483648 ≤ w ∧ w < 2147483648) (k1 : ¬ (0 ≤ w ∧ w ≤ 8) → ∀ S', CL B scr S' r sv ρ rf → Q (some (zI (-1))) S') (k2 : 0 ≤ w ∧ w ≤ 8 → ∀ S', CL B scr S' r sv ρ rf → Q (some (zI (r (16 + w)))) S') : Con M_X7_account 144 144 S [.ref 0, zI w] Q := by
  have h0 := h
  obtain ⟨c, π, text, h1, h3, h4, h5, h6⟩ := h
  refine Con_s h1.eq (c_X7_account h3.1 h4 h5.1 r_w (fun g => ?_) (fun g => ?_)) <;> rw [h1.eq]
  · exact k1 g S h0
  · exact k2 g S h0
theorem q_tray (h : CL B scr S r sv ρ rf) {t w : Int} (r_t : -2147483648 ≤ t ∧ t < 2147483648) (r_w : -2147483648 ≤ w ∧ w < 2147483648) (k1 : ¬ ((0 ≤ t ∧ t ≤ 3) ∧ 0 ≤ w ∧ w ≤ 3) → ∀ S', CL B scr S' r sv ρ rf → Q (some (zI (-1))) S') (k2 : (0 ≤ t ∧ t ≤ 3) ∧ 0 ≤ w ∧ w ≤ 3 → ∀ S', CL B scr S' r sv ρ rf → Q (some (zI (if w < 3 then r (25 + 3 * t + w) else shA r (r (25 + 3 * t)) (r (25 + 3 * t + 1)) 4))) S') : Con M_X7_tray 144 144 S [.ref 0, zI t, zI w] Q := by
  have h0 := h
  obtain ⟨c, π, text, h1, h3, h4, h5, h6⟩ := h
  refine Con_s h1.eq (c_X7_tray h3.1 h4 h5.1 r_t r_w (fun g => ?_) (fun g => ?_)) <;> rw [h1.eq]
  · exact k1 g S h0
  · exact k2 g S h0
theorem q_queued (h : CL B scr S r sv ρ rf) {q : Int} (r_q : -2147483648 ≤ q ∧ q < 2147483648) (k1 : q < 0 → ∀ S', CL B scr S' r sv ρ rf → Q (some (zI (-1))) S') (k2 : 0 ≤ q → ∀ S', CL B scr S' r sv ρ rf → Q (some (zI (quF r q (r 0).toNat 0))) S') : Con M_X7_queued 144 144 S [.ref 0, zI q] Q := by
  have h0 := h
  obtain ⟨c, π, text, h1, h3, h4, h5, h6⟩ := h
  refine Con_s h1.eq (c_X7_queued h3.1 h4 h5.1 r_q (fun g => ?_) (fun g => ?_)) <;> rw [h1.eq]
  · exact k1 g S h0
  · exact k2 g S h0
theorem q_jobInfo (h : CL B scr S r sv ρ rf) {j w : Int} (r_j : -2147483648 ≤ j ∧ j < 2147483648) (r_w : -2147483648 ≤ w ∧ w < 2147483648) (k1 : ¬ (0 ≤ j ∧ 0 ≤ w ∧ w ≤ 12) → ∀ S', CL B scr S' r sv ρ rf → Q (some (zI (-1))) S') (k2 : 0 ≤ j ∧ 0 ≤ w ∧ w ≤ 12 → plc r j < 0 → ∀ S', CL B scr S' r sv ρ rf → Q (some (zI (-4))) S') (k3 : 0 ≤ j ∧ 0 ≤ w ∧ w ≤ 12 → 0 ≤ plc r j → ∀ S', CL B scr S' r sv ρ rf → Q (some (zI (telF r (plc r j) w))) S') : Con M_X7_jobInfo 144 144 S [.ref 0, zI j, zI w] Q := by
  have h0 := h
  obtain ⟨c, π, text, h1, h3, h4, h5, h6⟩ := h
  refine Con_s h1.eq (c_X7_jobInfo h3.1 h4 h5.1 r_j r_w (fun g => ?_) (fun g g2 => ?_) (fun g g2 => ?_)) <;> rw [h1.eq]
  · exact k1 g S h0
  · exact k2 g g2 S h0
  · exact k3 g g2 S h0
theorem q_paper (h : CL B scr S r sv ρ rf) {j w : Int} (r_j : -2147483648 ≤ j ∧ j < 2147483648) (r_w : -2147483648 ≤ w ∧ w < 2147483648) (k1 : ¬ (0 ≤ j ∧ 0 ≤ w ∧ w ≤ 2) → ∀ S', CL B scr S' r sv ρ rf → Q (some (zI (-1))) S') (k2 : 0 ≤ j ∧ 0 ≤ w ∧ w ≤ 2 → r 9 ≤ j → ∀ S', CL B scr S' r sv ρ rf → Q (some (zI (-4))) S') (k3 : 0 ≤ j ∧ 0 ≤ w ∧ w ≤ 2 → j < r 9 → ∀ S', CL B scr S' r sv ρ rf → Q (some (zI (r (37 + 3 * j + w)))) S') : Con M_X7_paper 144 144 S [.ref 0, zI j, zI w] Q := by
  have h0 := h
  obtain ⟨c, π, text, h1, h3, h4, h5, h6⟩ := h
  refine Con_s h1.eq (c_X7_paper h3.1 h4 h5.1 r_j r_w (fun g => ?_) (fun g g2 => ?_) (fun g g2 => ?_)) <;> rw [h1.eq]
  · exact k1 g S h0
  · exact k2 g g2 S h0
  · exact k3 g g2 S h0
theorem q_lacking (h : CL B scr S r sv ρ rf) {s q : Int} (r_s : -2147483648 ≤ s ∧ s < 2147483648) (r_q : -2147483648 ≤ q ∧ q < 2147483648) (k1 : ¬ ((0 ≤ s ∧ s ≤ 3) ∧ 0 ≤ q ∧ q ≤ 3) → ∀ S', CL B scr S' r sv ρ rf → Q (some (zI (-1))) S') (k2 : (0 ≤ s ∧ s ≤ 3) ∧ 0 ≤ q ∧ q ≤ 3 → ∀ S', CL B scr S' r sv ρ rf → Q (some (zI (if lkN r s q (r 0).toNat < 0 then 0 else lkN r s q (r 0).toNat))) S') : Con M_X7_lacking 144 144 S [.ref 0, zI s, zI q] Q := by
  have h0 := h
  obtain ⟨c, π, text, h1, h3, h4, h5, h6⟩ := h
  refine Con_s h1.eq (c_X7_lacking h3.1 h4 h5.1 r_s r_q (fun g => ?_) (fun g => ?_)) <;> rw [h1.eq]
  · exact k1 g S h0
  · exact k2 g S h0
theorem q_refusal (h : CL B scr S r sv ρ rf) (k : ∀ S', CL B scr S' r sv ρ rf → Q (some (zI rf)) S') : Con M_X7_refusal 144 144 S [.ref 0] Q := by
  have h0 := h
  obtain ⟨c, π, text, h1, h3, h4, h5, h6⟩ := h
  have f := h3.2.2.2.2.1
  unfold RFS at f
  refine Con_s h1.eq (c_X7_refusal h3.1 h4 h5.1 ?_ (by omega))
  have e : (if S.1 0 5 = 0 then -4 else S.1 0 5) = rf := by split <;> omega
  rw [h1.eq, e]
  exact k S h0
theorem q_stop (h : CL B scr S r sv ρ rf) (k : ∀ S', CL B scr S' r sv ρ rf → Q (some (zI (bgF r).1)) S') : Con M_X7_stop 144 144 S [.ref 0] Q := by
  obtain ⟨c, π, text, h1, h3, h4, h5, h6⟩ := h
  obtain ⟨c2, π2, m2, p2⟩ := h3.2.2.1
  refine Con_s h1.eq (c_X7_stop h3.1 h4 h5.1 m2 p2 (fun c' π' pp => ?_))
  rw [← bgF_c (RI_c501 h5.1)]
  exact k _ ⟨c, π, text, kst_MS.kst_o (by decide), FS24 (FSk h3) pp, h4, h5, h6⟩
theorem q_ticksTo (h : CL B scr S r sv ρ rf) (hB : B ≤ 1000000) {j : Int} (r_j : -2147483648 ≤ j ∧ j < 2147483648) (k1 : j < 0 → ∀ S', CL B scr S' r sv ρ rf → Q (some (zI (-1))) S') (k2 : 0 ≤ j → plc r j < 0 → ∀ S', CL B scr S' r sv ρ rf → Q (some (zI (-4))) S') (k3 : 0 ≤ j → 0 ≤ plc r j → ∀ S', CL B scr S' r sv ρ rf → Q (some (zI (ansF 20000 r j 0))) S') : Con M_X7_ticksTo 144 144 S [.ref 0, zI j] Q := by
  have h0 := h
  obtain ⟨c, π, text, h1, h3, h4, h5, h6⟩ := h
  obtain ⟨c2, π2, m2, p2⟩ := h3.2.2.1
  have b := h5.2.2.2
  refine Con_s h1.eq (c_X7_ticksTo h3.1 h4 h5.1 m2 p2 (fun a => RI_ct 20000 r j 0 h5.1 (by omega) (by omega) (by omega)) r_j (fun g => ?_) (fun g g2 => ?_) (fun g g2 c' π' pp => ?_))
  · rw [h1.eq]; exact k1 g S h0
  · rw [h1.eq]; exact k2 g g2 S h0
  · exact k3 g g2 _ ⟨c, π, text, kst_MS.kst_o (by decide), FS24 (FSk h3) pp, h4, h5, h6⟩
theorem q_type (h : CL B scr S r sv ρ rf) {v : Int} (r_v : -2147483648 ≤ v ∧ v < 2147483648) (hv : ¬ (32 ≤ v ∧ v ≤ 126)) (k : ∀ S', CL B scr S' r sv ρ rf → Q (some (zI (-1))) S') : Con M_X7_type 144 144 S [.ref 0, zI v] Q := by
  have h0 := h
  obtain ⟨c, π, text, h1, h3, h4, h5, h6⟩ := h
  refine Con_s h1.eq (c_X7_type h3.1 r_v (by rw [h3.2.2.2.1.1]; decide) (fun g => ?_) (fun g _ => absurd g hv) (fun g _ => absurd g hv))
  rw [h1.eq]
  exact k S h0
theorem q_fault (h : CL B scr S r sv ρ rf) (k : ∀ S', CL B scr S' r sv ρ rf → Q (some (zI (-1))) S') : Con M_X7_fault 144 144 S [.ref 0, zI (-1)] Q := by
  refine V_entry ok_X7_fault (Nat.le_refl _) (Nat.le_of_ble_eq_true rfl) (V_ls [(0, .ref 0), (1, zI (-1))] ⟨rfl, rfl, trivial⟩ ?_)
  refine V_iload_n (pc := 0) e_X7_fault_0 rfl ?_
  refine V_iconst (pc := 1) e_X7_fault_1 ?_
  refine V_iconst (pc := 2) e_X7_fault_2 ?_
  refine V_cS3 (pc := 3) ca_7_44 e_X7_fault_3 (by decide) (Nat.le_of_ble_eq_true rfl) (c_X7_isWithin (by decide) (by decide) (by decide) (fun g => absurd g (by decide)) (fun _ => ?_))
  refine V_if_ne (pc := 6) e_X7_fault_6 (by decide) (by decide) (fun h => absurd rfl h) (fun _ => ?_)
  refine V_iconst (pc := 9) e_X7_fault_9 ?_
  refine V_ret (pc := 10) (v := some (zI _)) ⟨e_X7_fault_10, _, rfl, rfl⟩ ?_
  exact k S h
theorem q_fill (h : CL B scr S r sv ρ rf) {t s : Int} (r_t : -2147483648 ≤ t ∧ t < 2147483648) (r_s : -2147483648 ≤ s ∧ s < 2147483648) (k1 : ¬ ((0 ≤ t ∧ t ≤ 3) ∧ 1 ≤ s ∧ s ≤ 500) → ∀ S', CL B scr S' r sv ρ rf → Q (some (zI (-1))) S') (k2 : (0 ≤ t ∧ t ≤ 3) ∧ 1 ≤ s ∧ s ≤ 500 → 500 < r (25 + 3 * t + 2) + s → ∀ S', CL B scr S' r sv ρ rf → Q (some (zI (-3))) S') (k3 : (0 ≤ t ∧ t ≤ 3) ∧ 1 ≤ s ∧ s ≤ 500 → ¬ 500 < r (25 + 3 * t + 2) + s → ∀ S', CL B scr S' (up1 r (25 + 3 * t + 2) (r (25 + 3 * t + 2) + s)) (recS sv) (kpR ρ sv r) rf → Q (some (zI (r (25 + 3 * t + 2) + s))) S') : Con M_X7_fill 144 144 S [.ref 0, zI t, zI s] Q := by
  have h0 := h
  obtain ⟨c, π, text, h1, h3, h4, h5, h6⟩ := h
  refine Con_s h1.eq (c_X7_fill h3.1 h4 h5.1 h3.2.1 r_t r_s (fun g => ?_) (fun g g2 => ?_) (fun g g2 σ2 c' kp m => ?_))
  · rw [h1.eq]; exact k1 g S h0
  · rw [h1.eq]; exact k2 g g2 S h0
  · exact k3 g g2 _ (CL_kp h3 kp m h5 h6 (GI_fill h5 g.1 g.2.1 (by omega)) (Int.le_refl _))
theorem q_load (h : CL B scr S r sv ρ rf) {t s q : Int} (r_t : -2147483648 ≤ t ∧ t < 2147483648) (r_s : -2147483648 ≤ s ∧ s < 2147483648) (r_q : -2147483648 ≤ q ∧ q < 2147483648) (k1 : ¬ ((0 ≤ t ∧ t ≤ 3) ∧ (0 ≤ s ∧ s ≤ 3) ∧ 0 ≤ q ∧ q ≤ 3) → ∀ S', CL B scr S' r sv ρ rf → Q (some (zI (-1))) S') (k2 : (0 ≤ t ∧ t ≤ 3) ∧ (0 ≤ s ∧ s ≤ 3) ∧ 0 ≤ q ∧ q ≤ 3 → ∀ S', CL B scr S' (up1 (up1 (up1 r (25 + 3 * t) s) (25 + 3 * t + 1) q) (25 + 3 * t + 2) 0) (recS sv) (kpR ρ sv r) rf → Q (some (zI (r (25 + 3 * t + 2)))) S') : Con M_X7_load 144 144 S [.ref 0, zI t, zI s, zI q] Q := by
  have h0 := h
  obtain ⟨c, π, text, h1, h3, h4, h5, h6⟩ := h
  refine Con_s h1.eq (c_X7_load h3.1 h4 h5.1 h3.2.1 r_t r_s r_q (fun g => ?_) (fun g σ2 c' kp m => ?_))
  · rw [h1.eq]; exact k1 g S h0
  · exact k2 g _ (CL_kp h3 kp m h5 h6 (GI_load h5 g.1 g.2.1 g.2.2) (Int.le_refl _))
theorem q_staples (h : CL B scr S r sv ρ rf) {v : Int} (r_v : -2147483648 ≤ v ∧ v < 2147483648) (k1 : ¬ (0 ≤ v ∧ v ≤ 5000) → ∀ S', CL B scr S' r sv ρ rf → Q (some (zI (-1))) S') (k2 : 0 ≤ v ∧ v ≤ 5000 → ∀ S', CL B scr S' (up1 r 3 v) (recS sv) (kpR ρ sv r) rf → Q (some (zI (r 3))) S') : Con M_X7_staples 144 144 S [.ref 0, zI v] Q := by
  have h0 := h
  obtain ⟨c, π, text, h1, h3, h4, h5, h6⟩ := h
  refine Con_s h1.eq (c_X7_staples h3.1 h4 h5.1 h3.2.1 r_v (fun g => ?_) (fun g σ2 c' kp m => ?_))
  · rw [h1.eq]; exact k1 g S h0
  · exact k2 g _ (CL_kp h3 kp m h5 h6 (GI_staples h5 g) (Int.le_refl _))
theorem q_emptyBin (h : CL B scr S r sv ρ rf) (k : ∀ S', CL B scr S' (up1 r 2 0) (recS sv) (kpR ρ sv r) rf → Q (some (zI (r 2))) S') : Con M_X7_emptyBin 144 144 S [.ref 0] Q := by
  obtain ⟨c, π, text, h1, h3, h4, h5, h6⟩ := h
  refine Con_s h1.eq (c_X7_emptyBin h3.1 h4 h5.1 h3.2.1 (fun σ2 c' kp m => ?_))
  exact k _ (CL_kp h3 kp m h5 h6 (GI_bin h5) (Int.le_refl _))
theorem q_set (h : CL B scr S r sv ρ rf) {w v : Int} (r_w : -2147483648 ≤ w ∧ w < 2147483648) (r_v : -2147483648 ≤ v ∧ v < 2147483648) (k1 : ¬ ((w = 0 ∧ 1 ≤ v ∧ v ≤ 20) ∨ ((w = 1 ∨ w = 2) ∧ 0 ≤ v ∧ v ≤ 20) ∨ (w = 3 ∧ 2 ≤ v ∧ v ≤ 100) ∨ (w = 4 ∧ 0 ≤ v ∧ v ≤ 500) ∨ (w = 5 ∧ 1 ≤ v ∧ v ≤ 1000)) → ∀ S', CL B scr S' r sv ρ rf → Q (some (zI (-1))) S') (k2 : ((w = 0 ∧ 1 ≤ v ∧ v ≤ 20) ∨ ((w = 1 ∨ w = 2) ∧ 0 ≤ v ∧ v ≤ 20) ∨ (w = 3 ∧ 2 ≤ v ∧ v ≤ 100) ∨ (w = 4 ∧ 0 ≤ v ∧ v ≤ 500) ∨ (w = 5 ∧ 1 ≤ v ∧ v ≤ 1000)) → ∀ S', CL B scr S' (up1 r (10 + w) v) (recS sv) (kpR ρ sv r) rf → Q (some (zI (r (10 + w)))) S') : Con M_X7_set 144 144 S [.ref 0, zI w, zI v] Q := by
  have h0 := h
  obtain ⟨c, π, text, h1, h3, h4, h5, h6⟩ := h
  refine Con_s h1.eq (c_X7_set h3.1 h4 h5.1 h3.2.1 r_w r_v (fun g => ?_) (fun g σ2 c' kp m => ?_))
  · rw [h1.eq]; exact k1 g S h0
  · exact k2 g _ (CL_kp h3 kp m h5 h6 (GI_set h5 g) (Int.le_refl _))
theorem q_priority (h : CL B scr S r sv ρ rf) {j w : Int} (r_j : -2147483648 ≤ j ∧ j < 2147483648) (r_w : -2147483648 ≤ w ∧ w < 2147483648) (k1 : ¬ (0 ≤ j ∧ 0 ≤ w ∧ w ≤ 9) → ∀ S', CL B scr S' r sv ρ rf → Q (some (zI (-1))) S') (k2 : 0 ≤ j ∧ 0 ≤ w ∧ w ≤ 9 → plc r j < 0 → ∀ S', CL B scr S' r sv ρ rf → Q (some (zI (-4))) S') (k3 : 0 ≤ j ∧ 0 ≤ w ∧ w ≤ 9 → 0 ≤ plc r j → ∀ S', CL B scr S' (up1 r (85 + 10 * plc r j + 6) w) (recS sv) (kpR ρ sv r) rf → Q (some (zI (r (85 + 10 * plc r j + 6)))) S') : Con M_X7_priority 144 144 S [.ref 0, zI j, zI w] Q := by
  have h0 := h
  obtain ⟨c, π, text, h1, h3, h4, h5, h6⟩ := h
  refine Con_s h1.eq (c_X7_priority h3.1 h4 h5.1 h3.2.1 r_j r_w (fun g => ?_) (fun g g2 => ?_) (fun g g2 σ2 c' kp m => ?_))
  · rw [h1.eq]; exact k1 g S h0
  · rw [h1.eq]; exact k2 g g2 S h0
  · exact k3 g g2 _ (CL_kp h3 kp m h5 h6 (GI_pri h5 ⟨g2, plc_lt g2⟩ g.2) (Int.le_refl _))
theorem q_hold (h : CL B scr S r sv ρ rf) {j w : Int} (r_j : -2147483648 ≤ j ∧ j < 2147483648) (r_w : -2147483648 ≤ w ∧ w < 2147483648) (k1 : ¬ (0 ≤ j ∧ 0 ≤ w ∧ w ≤ 1) → ∀ S', CL B scr S' r sv ρ rf → Q (some (zI (-1))) S') (k2 : 0 ≤ j ∧ 0 ≤ w ∧ w ≤ 1 → plc r j < 0 → ∀ S', CL B scr S' r sv ρ rf → Q (some (zI (-4))) S') (k3 : 0 ≤ j ∧ 0 ≤ w ∧ w ≤ 1 → 0 ≤ plc r j → ∀ (r' : Int → Int) (S' : Sto), CL B scr S' r' (recS sv) (kpR ρ sv r) rf → Q (some (zI (r (85 + 10 * plc r j + 7)))) S') : Con M_X7_hold 144 144 S [.ref 0, zI j, zI w] Q := by
  have h0 := h
  obtain ⟨c, π, text, h1, h3, h4, h5, h6⟩ := h
  refine Con_s h1.eq (c_X7_hold h3.1 h4 h5.1 h3.2.1 r_j r_w (fun g => ?_) (fun g g2 => ?_) (fun g g2 g3 σ2 c' kp m => ?_) (fun g g2 g3 σ2 c' kp m => ?_))
  · rw [h1.eq]; exact k1 g S h0
  · rw [h1.eq]; exact k2 g g2 S h0
  · exact k3 g g2 _ _ (CL_kp h3 kp m h5 h6 (GI_hold1 h5 g.1 g2) (Int.le_refl _))
  · exact k3 g g2 _ _ (CL_kp h3 kp m h5 h6 (GI_hold0 h5 ⟨g2, plc_lt g2⟩) (Int.le_refl _))
theorem q_cancel (h : CL B scr S r sv ρ rf) {j : Int} (r_j : -2147483648 ≤ j ∧ j < 2147483648) (k1 : j < 0 → ∀ S', CL B scr S' r sv ρ rf → Q (some (zI (-1))) S') (k2 : 0 ≤ j → plc r j < 0 → ∀ S', CL B scr S' r sv ρ rf → Q (some (zI (-4))) S') (k3 : 0 ≤ j → 0 ≤ plc r j → ∀ (r' : Int → Int) (S' : Sto), CL B scr S' r' (recS sv) (kpR ρ sv r) rf → Q (some (zI (jf r (plc r j) 8))) S') : Con M_X7_cancel 144 144 S [.ref 0, zI j] Q := by
  have h0 := h
  obtain ⟨c, π, text, h1, h3, h4, h5, h6⟩ := h
  refine Con_s h1.eq (c_X7_cancel h3.1 h4 h5.1 h3.2.1 r_j (fun g => ?_) (fun g g2 => ?_) (fun g g2 σ2 c' π' kp m => ?_))
  · rw [h1.eq]; exact k1 g S h0
  · rw [h1.eq]; exact k2 g g2 S h0
  · exact k3 g g2 _ _ (CL_kp h3 kp m h5 h6 (GI_can h5 g g2) (Int.le_refl _))
theorem q_run (h : CL B scr S r sv ρ rf) (hB : B ≤ 900000) {m : Int} (r_m : -2147483648 ≤ m ∧ m < 2147483648) (k1 : ¬ (1 ≤ m ∧ m ≤ 5000) → ∀ S', CL B scr S' r sv ρ rf → Q (some (zI (-1))) S') (k3 : 1 ≤ m ∧ m ≤ 5000 → ∀ S', CL (B + m) scr S' (runF 5000 r m) (recS sv) (kpR ρ sv r) rf → Q (some (zI (runF 5000 r m 17 - r 17))) S') : Con M_X7_run 144 144 S [.ref 0, zI m] Q := by
  have h0 := h
  obtain ⟨c, π, text, h1, h3, h4, h5, h6⟩ := h
  have b := h5.2.2.2
  refine Con_s h1.eq (c_X7_run h3.1 h4 h5.1 h3.2.1 (fun a b => RI_cr 5000 r m h5.1 (by omega) (by omega) (by omega) (by omega)) r_m (fun g => ?_) (fun g g2 => ?_) (fun g g2 σ2 c' π' kp mm => ?_))
  · rw [h1.eq]; exact k1 g S h0
  · exfalso
    omega
  · exact k3 g _ (CL_kp h3 kp mm h5 h6 (run_G h5 (by omega) (by omega)).1 (by omega))
theorem q_undo (h : CL B scr S r sv ρ rf) (k1 : sv = 0 → ∀ S', CL B scr S' r sv ρ rf → Q (some (zI (-2))) S') (k2 : 0 < sv → ∀ S', CL B scr S' (ρ (sv - 1)) (sv - 1) ρ rf → Q (some (zI (sv - 1))) S') : Con M_X7_undo 144 144 S [.ref 0] Q := by
  have h0 := h
  obtain ⟨c, π, text, h1, h3, h4, h5, h6⟩ := h
  refine Con_s h1.eq (c_X7_undo h3.1 h4 h5.1 h3.2.1 (fun k a b => (h6 k a b).1.rr) (fun g => ?_) (fun g c' m hs => ?_))
  · rw [h1.eq]; exact k1 g S h0
  · exact k2 g _ ⟨c', π, text, kst_MS, FSk (FSu h3 hs), m, h6 (sv - 1) (by omega) (by omega), fun k a b => h6 k a (by omega)⟩
theorem q_job (h : CL B scr S r sv ρ rf) (hB : B ≤ 900000) {pg cp s q hw : Int} (r_pg : -2147483648 ≤ pg ∧ pg < 2147483648) (r_cp : -2147483648 ≤ cp ∧ cp < 2147483648) (r_s : -2147483648 ≤ s ∧ s < 2147483648) (r_q : -2147483648 ≤ q ∧ q < 2147483648) (r_hw : -2147483648 ≤ hw ∧ hw < 2147483648) (k1 : ¬ (((1 ≤ pg ∧ pg ≤ 200) ∧ 1 ≤ cp ∧ cp ≤ 50) ∧ ((0 ≤ s ∧ s ≤ 3) ∧ 0 ≤ q ∧ q ≤ 3) ∧ 0 ≤ hw ∧ hw ≤ 11) → ∀ S', CL B scr S' r sv ρ rf → Q (some (zI (-1))) S') (k2 : ((1 ≤ pg ∧ pg ≤ 200) ∧ 1 ≤ cp ∧ cp ≤ 50) ∧ ((0 ≤ s ∧ s ≤ 3) ∧ 0 ≤ q ∧ q ≤ 3) ∧ 0 ≤ hw ∧ hw ≤ 11 → 0 < wny r pg q hw → ∀ S', CL B scr S' r sv ρ (wny r pg q hw) → Q (some (zI (-2))) S') (k3 : ((1 ≤ pg ∧ pg ≤ 200) ∧ 1 ≤ cp ∧ cp ≤ 50) ∧ ((0 ≤ s ∧ s ≤ 3) ∧ 0 ≤ q ∧ q ≤ 3) ∧ 0 ≤ hw ∧ hw ≤ 11 → wny r pg q hw = 0 → r 0 = 10 → ∀ S', CL B scr S' r sv ρ rf → Q (some (zI (-3))) S') (k4 : ((1 ≤ pg ∧ pg ≤ 200) ∧ 1 ≤ cp ∧ cp ≤ 50) ∧ ((0 ≤ s ∧ s ≤ 3) ∧ 0 ≤ q ∧ q ≤ 3) ∧ 0 ≤ hw ∧ hw ≤ 11 → wny r pg q hw = 0 → r 0 < 10 → ∀ S', CL (B + 1) scr S' (comesF r pg cp s q hw) (recS sv) (kpR ρ sv r) rf → Q (some (zI (r 1))) S') : Con M_X7_job 144 144 S [.ref 0, zI pg, zI cp, zI s, zI q, zI hw] Q := by
  obtain ⟨c, π, text, h1, h3, h4, h5, h6⟩ := h
  refine Con_s h1.eq (c_X7_job h3.1 h4 h5.1 h3.2.1 r_pg r_cp r_s r_q r_hw (fun g d => ?_) (fun g g2 d => ?_) (fun g g2 g3 d => ?_) (fun g g2 g3 d σ2 c' kp m => ?_))
  · exact k1 g _ ⟨c, π, text, kst_MS, FSk (FSd h3), h4, h5, h6⟩
  · exact k2 g g2 _ ⟨c, π, text, kst_MS, FSk (FSrf (FSd h3) (by omega) (by unfold wny; (repeat' split) <;> omega)), h4, h5, h6⟩
  · exact k3 g g2 g3 _ ⟨c, π, text, kst_MS, FSk (FSd h3), h4, h5, h6⟩
  · exact k4 g g2 g3 _ (CL_kp (FSd h3) kp m h5 h6 (GI_job h5 (by omega) (by omega) g.1.1 g.1.2 g.2.1.1 g.2.1.2 g.2.2 g2) (by omega))
end CALLS28
