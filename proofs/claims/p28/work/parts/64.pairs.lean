/-! call by call: the class and the model answer alike, and the link holds again -/
theorem Con_s {M : MI} {N N1 : Nat} {S S' : Sto} {av : List Value} {Q : Option Value → Sto → Prop} (e : S' = S) (h : Con M N N1 S' av Q) : Con M N N1 S av Q := by
  rw [← e]
  exact h
def PQ (M8 : MI) (scr : Nat × (Nat → Int32)) (n : Int) (args : List Value) : Option Value → Sto → Prop := fun v S1 => ∃ x : Int, v = some (zI x) ∧ S1.2.2 = scr ∧ Con M8 150 150 S1 (.ref 144 :: args) (fun v' S2 => v' = some (zI x) ∧ LI scr S2 (n + 1))
theorem kp_m {S σ2 : Sto} {c c' : Nat → Int → Int} {π π' : Int → Nat} {sv : Int} {ρ : Int → Int → Int} {r now : Int → Int} {P : PT} {T : TT} (h2 : mst S now P T = S) (k : KP S σ2 c π sv ρ r) : mst (kst 1 σ2 c' π') now P T = kst 1 σ2 c' π' :=
  mst_keep h2 (fun i hi => by rw [kst_o1 (b := 1) (by omega), (k.1.1 i (Or.inr (by omega))).1, kst_o1 (b := 1) (by omega)]) (by rw [kst_o2 (b := 1) (by decide), (k.1.1 144 (Or.inr (by decide))).2, kst_o2 (b := 1) (by decide)])
theorem k_m {S : Sto} {b : Nat} (hb : b + 23 ≤ 144) {c : Nat → Int → Int} {π : Int → Nat} {now : Int → Int} {P : PT} {T : TT} (h2 : mst S now P T = S) : mst (kst b S c π) now P T = kst b S c π :=
  mst_keep h2 (fun i hi => kst_o1 (by omega)) (kst_o2 (by omega))
theorem d_m {S : Sto} {d : Int → Int} {now : Int → Int} {P : PT} {T : TT} (h2 : mst S now P T = S) : mst (dst S d) now P T = dst S d := mst_keep h2 (fun i hi => dst_o (by omega)) rfl
theorem x_m {S : Sto} {t d : Int → Int} {now : Int → Int} {P : PT} {T : TT} (h2 : mst S now P T = S) : mst (xst S t d) now P T = xst S t d := mst_keep h2 (fun i hi => xst_o (by omega) (by omega)) rfl
theorem i_m {S : Sto} {i : Nat} (hi : i < 144) {q x : Int} {now : Int → Int} {P : PT} {T : TT} (h2 : mst S now P T = S) : mst (setI S i q x) now P T = setI S i q x := mst_keep h2 (fun j hj => up2_ne (by omega)) rfl
theorem LI_B {scr : Nat × (Nat → Int32)} {S σ2 : Sto} {n : Int} {c c' : Nat → Int → Int} {π π' : Int → Nat} {r r' past aside : Int → Int} {sv rf : Int} {text read : Int → Int} {len spot fat fwy many : Int} (h3 : FS S sv (rows past) len text rf scr) (kp : KP S σ2 c π sv (rows past) r) (m : MR c' π' r') (h5 : RI r) (h5' : RI r') (h6 : ∀ k : Int, 0 ≤ k → k < sv → RI (rows past k) ∧ rows past k 1 ≤ 10 * n ∧ rows past k 24 ≤ 1000000) (h7 : 0 ≤ len ∧ len ≤ 100) (h8 : ∀ k : Int, 0 ≤ k → k < len → 32 ≤ text k ∧ text k ≤ 126) (h9 : r 1 ≤ 10 * n ∧ r 24 ≤ 1000000) (b' : r' 1 ≤ 10 * (n + 1) ∧ r' 24 ≤ 1000000) : LI scr (mst (kst 1 σ2 c' π') r' (recP r past sv, aside, recS sv, rf) (text, read, len, spot, fat, fwy, many)) (n + 1) := by
  have hsv := h3.2.1.2.2.1
  refine LI_mk kst_MS (FSk (FSp h3 kp)) m h5' (fun k a b => ?_) h7 h8 b'
  obtain ⟨e1, e2⟩ := rows_rec (r := r) (past := past) hsv a b
  refine ⟨e1, ?_⟩
  rcases e2 with ⟨-, e⟩ | ⟨k', k0, k1, e⟩
  · exact ⟨h5.re e, by rw [e 1 (by decide) (by decide)]; omega, by rw [e 24 (by decide) (by decide)]; omega⟩
  · have z := h6 k' k0 k1
    exact ⟨z.1.re e, by rw [e 1 (by decide) (by decide)]; omega, by rw [e 24 (by decide) (by decide)]; omega⟩
theorem RE_cpr2 {now aside X : Int → Int} : RE now (cpr (cpr now aside 0 185) X 0 185) := fun k a d => by
  unfold cpr
  rw [if_pos (by omega), if_pos (by omega)]
  congr 1
  omega
theorem RE_cpr1 {past now : Int → Int} {k : Int} : RE (rows past k) (cpr past now (185 * k) 185) := fun j a d => by
  unfold cpr rows
  rw [if_pos (by omega)]
theorem FS24 {S : Sto} {sv : Int} {ρ : Int → Int → Int} {len : Int} {text : Int → Int} {rf : Int} {scr : Nat × (Nat → Int32)} {c : Nat → Int → Int} {π : Int → Nat} (h : FS S sv ρ len text rf scr) (hp : PI π) : FS (kst 24 S c π) sv ρ len text rf scr := by
  obtain ⟨a, b, -, ⟨d1, d2⟩, f, g⟩ := h
  exact ⟨a.ext (kst_o2 (by decide)) (kst_o2 (by decide)), b.kst (by decide), ⟨c, π, kst_MS, hp⟩, ⟨by rw [kst_o1 (b := 24) (by decide)]; exact d1, by rw [kst_o1 (b := 24) (by decide)]; exact d2⟩, by rw [kst_o1 (b := 24) (by decide)]; exact f, g⟩
theorem FSrf {S : Sto} {sv : Int} {ρ : Int → Int → Int} {len : Int} {text : Int → Int} {rf x : Int} {scr : Nat × (Nat → Int32)} (h : FS S sv ρ len text rf scr) (h0 : 0 < x) (h1 : x ≤ 4) : FS (setI S 0 5 x) sv ρ len text x scr := by
  obtain ⟨a, b, ⟨c2, π2, m, p⟩, ⟨d1, d2⟩, f, g⟩ := h
  exact ⟨a, b.ext (fun i i0 i1 => ⟨up2_ne (by omega), rfl⟩), ⟨c2, π2, m.setI_o (by decide), p⟩, ⟨by rw [setI_ne1 (by decide)]; exact d1, by rw [setI_ne1 (by decide)]; exact d2⟩, Or.inr ⟨setI_e, by omega, h1⟩, g⟩
theorem p_fill {scr : Nat × (Nat → Int32)} {S : Sto} {n : Int} (hn : 0 ≤ n ∧ n ≤ 600) (h : LI scr S n) {t s : Int} (r_t : -2147483648 ≤ t ∧ t < 2147483648) (r_s : -2147483648 ≤ s ∧ s < 2147483648) : Con M_X7_fill 150 150 S [.ref 0, zI t, zI s] (PQ M_X8_fill scr n [zI t, zI s]) := by
  obtain ⟨c, π, r, past, aside, sv, rf, text, read, len, spot, fat, fwy, many, h1, h2, h3, h4, h5, h6, h7, h8, h9⟩ := h
  have hsv := h3.2.1.2.2.1
  have hR := h5.rr
  have ni := h5.1
  unfold NI at ni
  have hS : ∀ (aside' read' : Int → Int) (spot' fat' fwy' many' : Int), LI scr (mst S r (past, aside', sv, rf) (text, read', len, spot', fat', fwy', many')) (n + 1) := fun _ _ _ _ _ _ => LI_mk h1 h3 h4 h5 (fun k a b => ⟨RE.rfl', (h6 k a b).1, by have := (h6 k a b).2; omega, (h6 k a b).2.2⟩) h7 h8 ⟨by omega, by omega⟩
  have he := h1.eq
  refine Con_s he ?_
  refine c_X7_fill h3.1 h4 h5 h3.2.1 r_t r_s (fun g1 => ?_) (fun g1 g2 => ?_) (fun g1 g2 σ2 c' kp m => ?_)
  · refine ⟨_, rfl, h3.2.2.2.2.2, ?_⟩
    refine Con_s (h2.trans he.symm) ?_
    refine c_X8_fill hsv hR.1 r_t r_s ?_ ?_ ?_
    · exact fun _ => ⟨rfl, hS _ _ _ _ _ _⟩
    · intros; exfalso; omega
    · intros; exfalso; omega
  · refine ⟨_, rfl, h3.2.2.2.2.2, ?_⟩
    refine Con_s (h2.trans he.symm) ?_
    refine c_X8_fill hsv hR.1 r_t r_s ?_ ?_ ?_
    · intros; exfalso; omega
    · exact fun _ _ => ⟨rfl, hS _ _ _ _ _ _⟩
    · intros; exfalso; omega
  · refine ⟨_, rfl, (FSp h3 kp).2.2.2.2.2, ?_⟩
    refine Con_s (kp_m h2 kp) ?_
    refine c_X8_fill hsv hR.1 r_t r_s ?_ ?_ ?_
    · intros; exfalso; omega
    · intros; exfalso; omega
    · exact fun _ _ => ⟨rfl, LI_B h3 kp m h5 (RI_tray h5 (by omega) (Or.inr (by have := h5.2.2.1 t (by omega) (by omega); omega))) h6 h7 h8 h9 ⟨by simp (disch := omega) only [up1_ne]; omega, by simp (disch := omega) only [up1_ne]; omega⟩⟩
theorem p_load {scr : Nat × (Nat → Int32)} {S : Sto} {n : Int} (hn : 0 ≤ n ∧ n ≤ 600) (h : LI scr S n) {t s q : Int} (r_t : -2147483648 ≤ t ∧ t < 2147483648) (r_s : -2147483648 ≤ s ∧ s < 2147483648) (r_q : -2147483648 ≤ q ∧ q < 2147483648) : Con M_X7_load 150 150 S [.ref 0, zI t, zI s, zI q] (PQ M_X8_load scr n [zI t, zI s, zI q]) := by
  obtain ⟨c, π, r, past, aside, sv, rf, text, read, len, spot, fat, fwy, many, h1, h2, h3, h4, h5, h6, h7, h8, h9⟩ := h
  have hsv := h3.2.1.2.2.1
  have hR := h5.rr
  have ni := h5.1
  unfold NI at ni
  have hS : ∀ (aside' read' : Int → Int) (spot' fat' fwy' many' : Int), LI scr (mst S r (past, aside', sv, rf) (text, read', len, spot', fat', fwy', many')) (n + 1) := fun _ _ _ _ _ _ => LI_mk h1 h3 h4 h5 (fun k a b => ⟨RE.rfl', (h6 k a b).1, by have := (h6 k a b).2; omega, (h6 k a b).2.2⟩) h7 h8 ⟨by omega, by omega⟩
  have he := h1.eq
  refine Con_s he ?_
  refine c_X7_load h3.1 h4 h5 h3.2.1 r_t r_s r_q (fun g1 => ?_) (fun g1 σ2 c' kp m => ?_)
  · refine ⟨_, rfl, h3.2.2.2.2.2, ?_⟩
    refine Con_s (h2.trans he.symm) ?_
    refine c_X8_load hsv r_t r_s r_q ?_ ?_
    · exact fun _ => ⟨rfl, hS _ _ _ _ _ _⟩
    · intros; exfalso; omega
  · refine ⟨_, rfl, (FSp h3 kp).2.2.2.2.2, ?_⟩
    refine Con_s (kp_m h2 kp) ?_
    refine c_X8_load hsv r_t r_s r_q ?_ ?_
    · intros; exfalso; omega
    · exact fun _ => ⟨rfl, LI_B h3 kp m h5 (RI_tray (RI_tray (RI_tray h5 (by omega) (Or.inl (by omega))) (by omega) (Or.inl (by omega))) (by omega) (Or.inr (by omega))) h6 h7 h8 h9 ⟨by simp (disch := omega) only [up1_ne]; omega, by simp (disch := omega) only [up1_ne]; omega⟩⟩
theorem p_tray {scr : Nat × (Nat → Int32)} {S : Sto} {n : Int} (hn : 0 ≤ n ∧ n ≤ 600) (h : LI scr S n) {t w : Int} (r_t : -2147483648 ≤ t ∧ t < 2147483648) (r_w : -2147483648 ≤ w ∧ w < 2147483648) : Con M_X7_tray 150 150 S [.ref 0, zI t, zI w] (PQ M_X8_tray scr n [zI t, zI w]) := by
  obtain ⟨c, π, r, past, aside, sv, rf, text, read, len, spot, fat, fwy, many, h1, h2, h3, h4, h5, h6, h7, h8, h9⟩ := h
  have hsv := h3.2.1.2.2.1
  have hR := h5.rr
  have ni := h5.1
  unfold NI at ni
  have hS : ∀ (aside' read' : Int → Int) (spot' fat' fwy' many' : Int), LI scr (mst S r (past, aside', sv, rf) (text, read', len, spot', fat', fwy', many')) (n + 1) := fun _ _ _ _ _ _ => LI_mk h1 h3 h4 h5 (fun k a b => ⟨RE.rfl', (h6 k a b).1, by have := (h6 k a b).2; omega, (h6 k a b).2.2⟩) h7 h8 ⟨by omega, by omega⟩
  have he := h1.eq
  refine Con_s he ?_
  refine c_X7_tray h3.1 h4 h5 r_t r_w (fun g1 => ?_) (fun g1 => ?_)
  · refine ⟨_, rfl, h3.2.2.2.2.2, ?_⟩
    refine Con_s (h2.trans he.symm) ?_
    refine c_X8_tray hR r_t r_w ?_ ?_
    · exact fun _ => ⟨rfl, hS _ _ _ _ _ _⟩
    · intros; exfalso; omega
  · refine ⟨_, rfl, h3.2.2.2.2.2, ?_⟩
    refine Con_s (h2.trans he.symm) ?_
    refine c_X8_tray hR r_t r_w ?_ ?_
    · intros; exfalso; omega
    · exact fun _ => ⟨rfl, hS _ _ _ _ _ _⟩
theorem p_staples {scr : Nat × (Nat → Int32)} {S : Sto} {n : Int} (hn : 0 ≤ n ∧ n ≤ 600) (h : LI scr S n) {v : Int} (r_v : -2147483648 ≤ v ∧ v < 2147483648) : Con M_X7_staples 150 150 S [.ref 0, zI v] (PQ M_X8_staples scr n [zI v]) := by
  obtain ⟨c, π, r, past, aside, sv, rf, text, read, len, spot, fat, fwy, many, h1, h2, h3, h4, h5, h6, h7, h8, h9⟩ := h
  have hsv := h3.2.1.2.2.1
  have hR := h5.rr
  have ni := h5.1
  unfold NI at ni
  have hS : ∀ (aside' read' : Int → Int) (spot' fat' fwy' many' : Int), LI scr (mst S r (past, aside', sv, rf) (text, read', len, spot', fat', fwy', many')) (n + 1) := fun _ _ _ _ _ _ => LI_mk h1 h3 h4 h5 (fun k a b => ⟨RE.rfl', (h6 k a b).1, by have := (h6 k a b).2; omega, (h6 k a b).2.2⟩) h7 h8 ⟨by omega, by omega⟩
  have he := h1.eq
  refine Con_s he ?_
  refine c_X7_staples h3.1 h4 h5 h3.2.1 r_v (fun g1 => ?_) (fun g1 σ2 c' kp m => ?_)
  · refine ⟨_, rfl, h3.2.2.2.2.2, ?_⟩
    refine Con_s (h2.trans he.symm) ?_
    refine c_X8_staples hsv r_v ?_ ?_
    · exact fun _ => ⟨rfl, hS _ _ _ _ _ _⟩
    · intros; exfalso; omega
  · refine ⟨_, rfl, (FSp h3 kp).2.2.2.2.2, ?_⟩
    refine Con_s (kp_m h2 kp) ?_
    refine c_X8_staples hsv r_v ?_ ?_
    · intros; exfalso; omega
    · exact fun _ => ⟨rfl, LI_B h3 kp m h5 (RI_num h5 (Or.inr (Or.inl ⟨rfl, by omega, by omega⟩))) h6 h7 h8 h9 ⟨by simp (disch := omega) only [up1_ne]; omega, by simp (disch := omega) only [up1_ne]; omega⟩⟩
theorem p_emptyBin {scr : Nat × (Nat → Int32)} {S : Sto} {n : Int} (hn : 0 ≤ n ∧ n ≤ 600) (h : LI scr S n) : Con M_X7_emptyBin 150 150 S [.ref 0] (PQ M_X8_emptyBin scr n []) := by
  obtain ⟨c, π, r, past, aside, sv, rf, text, read, len, spot, fat, fwy, many, h1, h2, h3, h4, h5, h6, h7, h8, h9⟩ := h
  have hsv := h3.2.1.2.2.1
  have hR := h5.rr
  have ni := h5.1
  unfold NI at ni
  have hS : ∀ (aside' read' : Int → Int) (spot' fat' fwy' many' : Int), LI scr (mst S r (past, aside', sv, rf) (text, read', len, spot', fat', fwy', many')) (n + 1) := fun _ _ _ _ _ _ => LI_mk h1 h3 h4 h5 (fun k a b => ⟨RE.rfl', (h6 k a b).1, by have := (h6 k a b).2; omega, (h6 k a b).2.2⟩) h7 h8 ⟨by omega, by omega⟩
  have he := h1.eq
  refine Con_s he ?_
  refine c_X7_emptyBin h3.1 h4 h5 h3.2.1 (fun σ2 c' kp m => ?_)
  refine ⟨_, rfl, (FSp h3 kp).2.2.2.2.2, ?_⟩
  refine Con_s (kp_m h2 kp) ?_
  refine c_X8_emptyBin hsv ?_
  exact ⟨rfl, LI_B h3 kp m h5 (RI_num h5 (Or.inl ⟨rfl, by omega, by omega⟩)) h6 h7 h8 h9 ⟨by simp (disch := omega) only [up1_ne]; omega, by simp (disch := omega) only [up1_ne]; omega⟩⟩
theorem p_set {scr : Nat × (Nat → Int32)} {S : Sto} {n : Int} (hn : 0 ≤ n ∧ n ≤ 600) (h : LI scr S n) {w v : Int} (r_w : -2147483648 ≤ w ∧ w < 2147483648) (r_v : -2147483648 ≤ v ∧ v < 2147483648) : Con M_X7_set 150 150 S [.ref 0, zI w, zI v] (PQ M_X8_set scr n [zI w, zI v]) := by
  obtain ⟨c, π, r, past, aside, sv, rf, text, read, len, spot, fat, fwy, many, h1, h2, h3, h4, h5, h6, h7, h8, h9⟩ := h
  have hsv := h3.2.1.2.2.1
  have hR := h5.rr
  have ni := h5.1
  unfold NI at ni
  have hS : ∀ (aside' read' : Int → Int) (spot' fat' fwy' many' : Int), LI scr (mst S r (past, aside', sv, rf) (text, read', len, spot', fat', fwy', many')) (n + 1) := fun _ _ _ _ _ _ => LI_mk h1 h3 h4 h5 (fun k a b => ⟨RE.rfl', (h6 k a b).1, by have := (h6 k a b).2; omega, (h6 k a b).2.2⟩) h7 h8 ⟨by omega, by omega⟩
  have he := h1.eq
  refine Con_s he ?_
  refine c_X7_set h3.1 h4 h5 h3.2.1 r_w r_v (fun g1 => ?_) (fun g1 σ2 c' kp m => ?_)
  · refine ⟨_, rfl, h3.2.2.2.2.2, ?_⟩
    refine Con_s (h2.trans he.symm) ?_
    refine c_X8_set hsv r_w r_v ?_ ?_
    · exact fun _ => ⟨rfl, hS _ _ _ _ _ _⟩
    · intros; exfalso; omega
  · refine ⟨_, rfl, (FSp h3 kp).2.2.2.2.2, ?_⟩
    refine Con_s (kp_m h2 kp) ?_
    refine c_X8_set hsv r_w r_v ?_ ?_
    · intros; exfalso; omega
    · have z : RI (up1 r (10 + w) v) := by
        rcases g1 with ⟨rfl, a⟩ | ⟨rfl | rfl, a⟩ | ⟨rfl, a⟩ | ⟨rfl, a⟩ | ⟨rfl, a⟩
        · exact RI_num h5 (Or.inr (Or.inr (Or.inr (Or.inl ⟨rfl, a⟩))))
        · exact RI_num h5 (Or.inr (Or.inr (Or.inr (Or.inr (Or.inl ⟨rfl, a⟩)))))
        · exact RI_num h5 (Or.inr (Or.inr (Or.inr (Or.inr (Or.inr (Or.inl ⟨rfl, a⟩))))))
        · exact RI_num h5 (Or.inr (Or.inr (Or.inr (Or.inr (Or.inr (Or.inr (Or.inl ⟨rfl, a⟩)))))))
        · exact RI_num h5 (Or.inr (Or.inr (Or.inr (Or.inr (Or.inr (Or.inr (Or.inr (Or.inl ⟨rfl, a⟩))))))))
        · exact RI_num h5 (Or.inr (Or.inr (Or.inr (Or.inr (Or.inr (Or.inr (Or.inr (Or.inr (Or.inl ⟨rfl, a⟩)))))))))
      exact fun _ => ⟨rfl, LI_B h3 kp m h5 z h6 h7 h8 h9 ⟨by rw [up1_ne (by omega)]; omega, by rw [up1_ne (by omega)]; omega⟩⟩
theorem p_job {scr : Nat × (Nat → Int32)} {S : Sto} {n : Int} (hn : 0 ≤ n ∧ n ≤ 600) (h : LI scr S n) {pg cp s q hw : Int} (r_pg : -2147483648 ≤ pg ∧ pg < 2147483648) (r_cp : -2147483648 ≤ cp ∧ cp < 2147483648) (r_s : -2147483648 ≤ s ∧ s < 2147483648) (r_q : -2147483648 ≤ q ∧ q < 2147483648) (r_hw : -2147483648 ≤ hw ∧ hw < 2147483648) : Con M_X7_job 150 150 S [.ref 0, zI pg, zI cp, zI s, zI q, zI hw] (PQ M_X8_job scr n [zI pg, zI cp, zI s, zI q, zI hw]) := by
  obtain ⟨c, π, r, past, aside, sv, rf, text, read, len, spot, fat, fwy, many, h1, h2, h3, h4, h5, h6, h7, h8, h9⟩ := h
  have hsv := h3.2.1.2.2.1
  have hR := h5.rr
  have ni := h5.1
  unfold NI at ni
  have hS : ∀ (aside' read' : Int → Int) (spot' fat' fwy' many' : Int), LI scr (mst S r (past, aside', sv, rf) (text, read', len, spot', fat', fwy', many')) (n + 1) := fun _ _ _ _ _ _ => LI_mk h1 h3 h4 h5 (fun k a b => ⟨RE.rfl', (h6 k a b).1, by have := (h6 k a b).2; omega, (h6 k a b).2.2⟩) h7 h8 ⟨by omega, by omega⟩
  have he := h1.eq
  refine Con_s he ?_
  refine c_X7_job h3.1 h4 h5 h3.2.1 r_pg r_cp r_s r_q r_hw (fun g1 d => ?_) (fun g1 g2 d => ?_) (fun g1 g2 g3 d => ?_) (fun g1 g2 g3 d σ2 c' kp m => ?_)
  · refine ⟨_, rfl, h3.2.2.2.2.2, ?_⟩
    refine Con_s (k_m (by decide) (d_m h2)) ?_
    refine c_X8_job hsv hR (by omega) r_pg r_cp r_s r_q r_hw ?_ ?_ ?_ ?_
    · exact fun _ => ⟨rfl, LI_mk kst_MS (FSk (FSd h3)) h4 h5 (fun k a b => ⟨RE.rfl', (h6 k a b).1, by have := (h6 k a b).2; omega, (h6 k a b).2.2⟩) h7 h8 ⟨by omega, by omega⟩⟩
    · intros; exfalso; omega
    · intros; exfalso; omega
    · intros; exfalso; omega
  · refine ⟨_, rfl, h3.2.2.2.2.2, ?_⟩
    refine Con_s (k_m (by decide) (i_m (by decide) (d_m h2))) ?_
    refine c_X8_job hsv hR (by omega) r_pg r_cp r_s r_q r_hw ?_ ?_ ?_ ?_
    · intros; exfalso; omega
    · exact fun _ _ => ⟨rfl, LI_mk kst_MS (FSk (FSrf (FSd h3) (by omega) (by unfold wny; (repeat' split) <;> omega))) h4 h5 (fun k a b => ⟨RE.rfl', (h6 k a b).1, by have := (h6 k a b).2; omega, (h6 k a b).2.2⟩) h7 h8 ⟨by omega, by omega⟩⟩
    · intros; exfalso; omega
    · intros; exfalso; omega
  · refine ⟨_, rfl, h3.2.2.2.2.2, ?_⟩
    refine Con_s (k_m (by decide) (d_m h2)) ?_
    refine c_X8_job hsv hR (by omega) r_pg r_cp r_s r_q r_hw ?_ ?_ ?_ ?_
    · intros; exfalso; omega
    · intros; exfalso; omega
    · exact fun _ _ _ => ⟨rfl, LI_mk kst_MS (FSk (FSd h3)) h4 h5 (fun k a b => ⟨RE.rfl', (h6 k a b).1, by have := (h6 k a b).2; omega, (h6 k a b).2.2⟩) h7 h8 ⟨by omega, by omega⟩⟩
    · intros; exfalso; omega
  · refine ⟨_, rfl, (FSp (FSd h3) kp).2.2.2.2.2, ?_⟩
    refine Con_s (kp_m (d_m h2) kp) ?_
    refine c_X8_job hsv hR (by omega) r_pg r_cp r_s r_q r_hw ?_ ?_ ?_ ?_
    · intros; exfalso; omega
    · intros; exfalso; omega
    · intros; exfalso; omega
    · exact fun _ _ _ => ⟨by rw [comesF_1 (by omega)]; congr 2; omega, LI_B (FSd h3) kp m h5 (RI_comes h5 (by omega) (by omega) (by omega) (by omega) (by omega) (by omega) (by omega) (by omega)) h6 h7 h8 h9 ⟨by rw [comesF_1 (by omega)]; omega, by rw [comesF_lo (by omega) (by omega) (by decide) (by decide)]; omega⟩⟩
theorem p_refusal {scr : Nat × (Nat → Int32)} {S : Sto} {n : Int} (hn : 0 ≤ n ∧ n ≤ 600) (h : LI scr S n) : Con M_X7_refusal 150 150 S [.ref 0] (PQ M_X8_refusal scr n []) := by
  obtain ⟨c, π, r, past, aside, sv, rf, text, read, len, spot, fat, fwy, many, h1, h2, h3, h4, h5, h6, h7, h8, h9⟩ := h
  have hsv := h3.2.1.2.2.1
  have hR := h5.rr
  have ni := h5.1
  unfold NI at ni
  have hS : ∀ (aside' read' : Int → Int) (spot' fat' fwy' many' : Int), LI scr (mst S r (past, aside', sv, rf) (text, read', len, spot', fat', fwy', many')) (n + 1) := fun _ _ _ _ _ _ => LI_mk h1 h3 h4 h5 (fun k a b => ⟨RE.rfl', (h6 k a b).1, by have := (h6 k a b).2; omega, (h6 k a b).2.2⟩) h7 h8 ⟨by omega, by omega⟩
  have he := h1.eq
  refine Con_s he ?_
  have hf := h3.2.2.2.2.1
  unfold RFS at hf
  refine c_X7_refusal h3.1 h4 h5 ?_ (by omega)
  refine ⟨_, rfl, h3.2.2.2.2.2, ?_⟩
  refine Con_s (h2.trans he.symm) ?_
  refine c_X8_refusal ⟨?_, hS _ _ _ _ _ _⟩
  congr 2
  split <;> omega
theorem p_hold {scr : Nat × (Nat → Int32)} {S : Sto} {n : Int} (hn : 0 ≤ n ∧ n ≤ 600) (h : LI scr S n) {j w : Int} (r_j : -2147483648 ≤ j ∧ j < 2147483648) (r_w : -2147483648 ≤ w ∧ w < 2147483648) : Con M_X7_hold 150 150 S [.ref 0, zI j, zI w] (PQ M_X8_hold scr n [zI j, zI w]) := by
  obtain ⟨c, π, r, past, aside, sv, rf, text, read, len, spot, fat, fwy, many, h1, h2, h3, h4, h5, h6, h7, h8, h9⟩ := h
  have hsv := h3.2.1.2.2.1
  have hR := h5.rr
  have ni := h5.1
  unfold NI at ni
  have hS : ∀ (aside' read' : Int → Int) (spot' fat' fwy' many' : Int), LI scr (mst S r (past, aside', sv, rf) (text, read', len, spot', fat', fwy', many')) (n + 1) := fun _ _ _ _ _ _ => LI_mk h1 h3 h4 h5 (fun k a b => ⟨RE.rfl', (h6 k a b).1, by have := (h6 k a b).2; omega, (h6 k a b).2.2⟩) h7 h8 ⟨by omega, by omega⟩
  have he := h1.eq
  refine Con_s he ?_
  have pl := fun q : 0 ≤ plc r j => plc_lt q
  refine c_X7_hold h3.1 h4 h5 h3.2.1 r_j r_w (fun g1 => ?_) (fun g1 g2 => ?_) (fun g1 g2 g3 σ2 c' kp m => ?_) (fun g1 g2 g3 σ2 c' kp m => ?_)
  · refine ⟨_, rfl, h3.2.2.2.2.2, ?_⟩
    refine Con_s (h2.trans he.symm) ?_
    refine c_X8_hold hsv hR r_j r_w ?_ ?_ ?_ ?_
    · exact fun _ => ⟨rfl, hS _ _ _ _ _ _⟩
    · intros; exfalso; omega
    · intros; exfalso; omega
    · intros; exfalso; omega
  · refine ⟨_, rfl, h3.2.2.2.2.2, ?_⟩
    refine Con_s (h2.trans he.symm) ?_
    refine c_X8_hold hsv hR r_j r_w ?_ ?_ ?_ ?_
    · intros; exfalso; omega
    · exact fun _ _ => ⟨rfl, hS _ _ _ _ _ _⟩
    · intros; exfalso; omega
    · intros; exfalso; omega
  · refine ⟨_, rfl, (FSp h3 kp).2.2.2.2.2, ?_⟩
    refine Con_s (kp_m h2 kp) ?_
    refine c_X8_hold hsv hR r_j r_w ?_ ?_ ?_ ?_
    · intros; exfalso; omega
    · intros; exfalso; omega
    · exact fun _ _ _ => ⟨rfl, LI_B h3 kp m h5 (RI_giv (RI_pri h5 ⟨g2, pl g2⟩ (Or.inr (by omega)))) h6 h7 h8 h9 ⟨by rw [givF_lo (by decide) (by decide) (by decide) (by decide) (by decide), up1_ne (by omega)]; omega, by rw [givF_lo (by decide) (by decide) (by decide) (by decide) (by decide), up1_ne (by omega)]; omega⟩⟩
    · intros; exfalso; omega
  · refine ⟨_, rfl, (FSp h3 kp).2.2.2.2.2, ?_⟩
    refine Con_s (kp_m h2 kp) ?_
    refine c_X8_hold hsv hR r_j r_w ?_ ?_ ?_ ?_
    · intros; exfalso; omega
    · intros; exfalso; omega
    · intros; exfalso; omega
    · exact fun _ _ _ => ⟨rfl, LI_B h3 kp m h5 (RI_pri h5 ⟨g2, pl g2⟩ (Or.inr (by omega))) h6 h7 h8 h9 ⟨by simp (disch := omega) only [up1_ne]; omega, by simp (disch := omega) only [up1_ne]; omega⟩⟩
theorem p_cancel {scr : Nat × (Nat → Int32)} {S : Sto} {n : Int} (hn : 0 ≤ n ∧ n ≤ 600) (h : LI scr S n) {j : Int} (r_j : -2147483648 ≤ j ∧ j < 2147483648) : Con M_X7_cancel 150 150 S [.ref 0, zI j] (PQ M_X8_cancel scr n [zI j]) := by
  obtain ⟨c, π, r, past, aside, sv, rf, text, read, len, spot, fat, fwy, many, h1, h2, h3, h4, h5, h6, h7, h8, h9⟩ := h
  have hsv := h3.2.1.2.2.1
  have hR := h5.rr
  have ni := h5.1
  unfold NI at ni
  have hS : ∀ (aside' read' : Int → Int) (spot' fat' fwy' many' : Int), LI scr (mst S r (past, aside', sv, rf) (text, read', len, spot', fat', fwy', many')) (n + 1) := fun _ _ _ _ _ _ => LI_mk h1 h3 h4 h5 (fun k a b => ⟨RE.rfl', (h6 k a b).1, by have := (h6 k a b).2; omega, (h6 k a b).2.2⟩) h7 h8 ⟨by omega, by omega⟩
  have he := h1.eq
  refine Con_s he ?_
  refine c_X7_cancel h3.1 h4 h5 h3.2.1 r_j (fun g1 => ?_) (fun g1 g2 => ?_) (fun g1 g2 σ2 c' π' kp m => ?_)
  · refine ⟨_, rfl, h3.2.2.2.2.2, ?_⟩
    refine Con_s (h2.trans he.symm) ?_
    refine c_X8_cancel hsv hR r_j ?_ ?_ ?_
    · exact fun _ => ⟨rfl, hS _ _ _ _ _ _⟩
    · intros; exfalso; omega
    · intros; exfalso; omega
  · refine ⟨_, rfl, h3.2.2.2.2.2, ?_⟩
    refine Con_s (h2.trans he.symm) ?_
    refine c_X8_cancel hsv hR r_j ?_ ?_ ?_
    · intros; exfalso; omega
    · exact fun _ _ => ⟨rfl, hS _ _ _ _ _ _⟩
    · intros; exfalso; omega
  · refine ⟨_, rfl, (FSp h3 kp).2.2.2.2.2, ?_⟩
    refine Con_s (kp_m h2 kp) ?_
    refine c_X8_cancel hsv hR r_j ?_ ?_ ?_
    · intros; exfalso; omega
    · intros; exfalso; omega
    · have z := RI_can (j := j) h5 g2
      exact fun _ _ => ⟨rfl, LI_B h3 kp m h5 z.1 h6 h7 h8 h9 ⟨by rw [z.2.1]; omega, by rw [z.2.2]; omega⟩⟩
theorem p_priority {scr : Nat × (Nat → Int32)} {S : Sto} {n : Int} (hn : 0 ≤ n ∧ n ≤ 600) (h : LI scr S n) {j w : Int} (r_j : -2147483648 ≤ j ∧ j < 2147483648) (r_w : -2147483648 ≤ w ∧ w < 2147483648) : Con M_X7_priority 150 150 S [.ref 0, zI j, zI w] (PQ M_X8_priority scr n [zI j, zI w]) := by
  obtain ⟨c, π, r, past, aside, sv, rf, text, read, len, spot, fat, fwy, many, h1, h2, h3, h4, h5, h6, h7, h8, h9⟩ := h
  have hsv := h3.2.1.2.2.1
  have hR := h5.rr
  have ni := h5.1
  unfold NI at ni
  have hS : ∀ (aside' read' : Int → Int) (spot' fat' fwy' many' : Int), LI scr (mst S r (past, aside', sv, rf) (text, read', len, spot', fat', fwy', many')) (n + 1) := fun _ _ _ _ _ _ => LI_mk h1 h3 h4 h5 (fun k a b => ⟨RE.rfl', (h6 k a b).1, by have := (h6 k a b).2; omega, (h6 k a b).2.2⟩) h7 h8 ⟨by omega, by omega⟩
  have he := h1.eq
  refine Con_s he ?_
  have pl := fun q : 0 ≤ plc r j => plc_lt q
  refine c_X7_priority h3.1 h4 h5 h3.2.1 r_j r_w (fun g1 => ?_) (fun g1 g2 => ?_) (fun g1 g2 σ2 c' kp m => ?_)
  · refine ⟨_, rfl, h3.2.2.2.2.2, ?_⟩
    refine Con_s (h2.trans he.symm) ?_
    refine c_X8_priority hsv hR r_j r_w ?_ ?_ ?_
    · exact fun _ => ⟨rfl, hS _ _ _ _ _ _⟩
    · intros; exfalso; omega
    · intros; exfalso; omega
  · refine ⟨_, rfl, h3.2.2.2.2.2, ?_⟩
    refine Con_s (h2.trans he.symm) ?_
    refine c_X8_priority hsv hR r_j r_w ?_ ?_ ?_
    · intros; exfalso; omega
    · exact fun _ _ => ⟨rfl, hS _ _ _ _ _ _⟩
    · intros; exfalso; omega
  · refine ⟨_, rfl, (FSp h3 kp).2.2.2.2.2, ?_⟩
    refine Con_s (kp_m h2 kp) ?_
    refine c_X8_priority hsv hR r_j r_w ?_ ?_ ?_
    · intros; exfalso; omega
    · intros; exfalso; omega
    · exact fun _ _ => ⟨rfl, LI_B h3 kp m h5 (RI_pri h5 ⟨g2, pl g2⟩ (Or.inl (by omega))) h6 h7 h8 h9 ⟨by simp (disch := omega) only [up1_ne]; omega, by simp (disch := omega) only [up1_ne]; omega⟩⟩
theorem p_jobInfo {scr : Nat × (Nat → Int32)} {S : Sto} {n : Int} (hn : 0 ≤ n ∧ n ≤ 600) (h : LI scr S n) {j w : Int} (r_j : -2147483648 ≤ j ∧ j < 2147483648) (r_w : -2147483648 ≤ w ∧ w < 2147483648) : Con M_X7_jobInfo 150 150 S [.ref 0, zI j, zI w] (PQ M_X8_jobInfo scr n [zI j, zI w]) := by
  obtain ⟨c, π, r, past, aside, sv, rf, text, read, len, spot, fat, fwy, many, h1, h2, h3, h4, h5, h6, h7, h8, h9⟩ := h
  have hsv := h3.2.1.2.2.1
  have hR := h5.rr
  have ni := h5.1
  unfold NI at ni
  have hS : ∀ (aside' read' : Int → Int) (spot' fat' fwy' many' : Int), LI scr (mst S r (past, aside', sv, rf) (text, read', len, spot', fat', fwy', many')) (n + 1) := fun _ _ _ _ _ _ => LI_mk h1 h3 h4 h5 (fun k a b => ⟨RE.rfl', (h6 k a b).1, by have := (h6 k a b).2; omega, (h6 k a b).2.2⟩) h7 h8 ⟨by omega, by omega⟩
  have he := h1.eq
  refine Con_s he ?_
  refine c_X7_jobInfo h3.1 h4 h5 r_j r_w (fun g1 => ?_) (fun g1 g2 => ?_) (fun g1 g2 => ?_)
  · refine ⟨_, rfl, h3.2.2.2.2.2, ?_⟩
    refine Con_s (h2.trans he.symm) ?_
    refine c_X8_jobInfo hR r_j r_w ?_ ?_ ?_
    · exact fun _ => ⟨rfl, hS _ _ _ _ _ _⟩
    · intros; exfalso; omega
    · intros; exfalso; omega
  · refine ⟨_, rfl, h3.2.2.2.2.2, ?_⟩
    refine Con_s (h2.trans he.symm) ?_
    refine c_X8_jobInfo hR r_j r_w ?_ ?_ ?_
    · intros; exfalso; omega
    · exact fun _ _ => ⟨rfl, hS _ _ _ _ _ _⟩
    · intros; exfalso; omega
  · refine ⟨_, rfl, h3.2.2.2.2.2, ?_⟩
    refine Con_s (h2.trans he.symm) ?_
    refine c_X8_jobInfo hR r_j r_w ?_ ?_ ?_
    · intros; exfalso; omega
    · intros; exfalso; omega
    · exact fun _ _ => ⟨rfl, hS _ _ _ _ _ _⟩
theorem p_queued {scr : Nat × (Nat → Int32)} {S : Sto} {n : Int} (hn : 0 ≤ n ∧ n ≤ 600) (h : LI scr S n) {q : Int} (r_q : -2147483648 ≤ q ∧ q < 2147483648) : Con M_X7_queued 150 150 S [.ref 0, zI q] (PQ M_X8_queued scr n [zI q]) := by
  obtain ⟨c, π, r, past, aside, sv, rf, text, read, len, spot, fat, fwy, many, h1, h2, h3, h4, h5, h6, h7, h8, h9⟩ := h
  have hsv := h3.2.1.2.2.1
  have hR := h5.rr
  have ni := h5.1
  unfold NI at ni
  have hS : ∀ (aside' read' : Int → Int) (spot' fat' fwy' many' : Int), LI scr (mst S r (past, aside', sv, rf) (text, read', len, spot', fat', fwy', many')) (n + 1) := fun _ _ _ _ _ _ => LI_mk h1 h3 h4 h5 (fun k a b => ⟨RE.rfl', (h6 k a b).1, by have := (h6 k a b).2; omega, (h6 k a b).2.2⟩) h7 h8 ⟨by omega, by omega⟩
  have he := h1.eq
  refine Con_s he ?_
  refine c_X7_queued h3.1 h4 h5 r_q (fun g1 => ?_) (fun g1 => ?_)
  · refine ⟨_, rfl, h3.2.2.2.2.2, ?_⟩
    refine Con_s (h2.trans he.symm) ?_
    refine c_X8_queued hR r_q ?_ ?_
    · exact fun _ => ⟨rfl, hS _ _ _ _ _ _⟩
    · intros; exfalso; omega
  · refine ⟨_, rfl, h3.2.2.2.2.2, ?_⟩
    refine Con_s (h2.trans he.symm) ?_
    refine c_X8_queued hR r_q ?_ ?_
    · intros; exfalso; omega
    · exact fun _ => ⟨rfl, hS _ _ _ _ _ _⟩
theorem p_run {scr : Nat × (Nat → Int32)} {S : Sto} {n : Int} (hn : 0 ≤ n ∧ n ≤ 600) (h : LI scr S n) {m : Int} (r_m : -2147483648 ≤ m ∧ m < 2147483648) : Con M_X7_run 150 150 S [.ref 0, zI m] (PQ M_X8_run scr n [zI m]) := by
  obtain ⟨c, π, r, past, aside, sv, rf, text, read, len, spot, fat, fwy, many, h1, h2, h3, h4, h5, h6, h7, h8, h9⟩ := h
  have hsv := h3.2.1.2.2.1
  have hR := h5.rr
  have ni := h5.1
  unfold NI at ni
  have hS : ∀ (aside' read' : Int → Int) (spot' fat' fwy' many' : Int), LI scr (mst S r (past, aside', sv, rf) (text, read', len, spot', fat', fwy', many')) (n + 1) := fun _ _ _ _ _ _ => LI_mk h1 h3 h4 h5 (fun k a b => ⟨RE.rfl', (h6 k a b).1, by have := (h6 k a b).2; omega, (h6 k a b).2.2⟩) h7 h8 ⟨by omega, by omega⟩
  have he := h1.eq
  refine Con_s he ?_
  refine c_X7_run h3.1 h4 h5 h3.2.1 (fun a b => RI_cr 5000 r m h5 (by omega) (by omega) (by omega) (by omega)) r_m (fun g1 => ?_) (fun g1 g2 => ?_) (fun g1 g2 σ2 c' π' kp mm => ?_)
  · refine ⟨_, rfl, h3.2.2.2.2.2, ?_⟩
    refine Con_s (h2.trans he.symm) ?_
    refine c_X8_run hsv hR.1 (by omega) (fun a b => RI_r 5000 r m h5 (by omega) (by omega) (by omega) (by omega)) r_m ?_ ?_ ?_
    · exact fun _ => ⟨rfl, hS _ _ _ _ _ _⟩
    · intros; exfalso; omega
    · intros; exfalso; omega
  · refine ⟨_, rfl, h3.2.2.2.2.2, ?_⟩
    refine Con_s (h2.trans he.symm) ?_
    refine c_X8_run hsv hR.1 (by omega) (fun a b => RI_r 5000 r m h5 (by omega) (by omega) (by omega) (by omega)) r_m ?_ ?_ ?_
    · intros; exfalso; omega
    · exact fun _ _ => ⟨rfl, hS _ _ _ _ _ _⟩
    · intros; exfalso; omega
  · refine ⟨_, rfl, (FSp h3 kp).2.2.2.2.2, ?_⟩
    refine Con_s (kp_m h2 kp) ?_
    refine c_X8_run hsv hR.1 (by omega) (fun a b => RI_r 5000 r m h5 (by omega) (by omega) (by omega) (by omega)) r_m ?_ ?_ ?_
    · intros; exfalso; omega
    · intros; exfalso; omega
    · have z := RI_run 5000 r m h5 (by omega) (by omega) (by omega)
      exact fun _ _ => ⟨rfl, LI_B h3 kp mm h5 z.1 h6 h7 h8 h9 ⟨by rw [z.2.2]; omega, by rw [z.2.1]; omega⟩⟩
theorem p_stop {scr : Nat × (Nat → Int32)} {S : Sto} {n : Int} (hn : 0 ≤ n ∧ n ≤ 600) (h : LI scr S n) : Con M_X7_stop 150 150 S [.ref 0] (PQ M_X8_stop scr n []) := by
  obtain ⟨c, π, r, past, aside, sv, rf, text, read, len, spot, fat, fwy, many, h1, h2, h3, h4, h5, h6, h7, h8, h9⟩ := h
  have hsv := h3.2.1.2.2.1
  have hR := h5.rr
  have ni := h5.1
  unfold NI at ni
  have hS : ∀ (aside' read' : Int → Int) (spot' fat' fwy' many' : Int), LI scr (mst S r (past, aside', sv, rf) (text, read', len, spot', fat', fwy', many')) (n + 1) := fun _ _ _ _ _ _ => LI_mk h1 h3 h4 h5 (fun k a b => ⟨RE.rfl', (h6 k a b).1, by have := (h6 k a b).2; omega, (h6 k a b).2.2⟩) h7 h8 ⟨by omega, by omega⟩
  have he := h1.eq
  refine Con_s he ?_
  obtain ⟨c2, π2, m2, p2⟩ := h3.2.2.1
  have wi := h5.2.2.2.2.2.2
  unfold WI at wi
  refine c_X7_stop h3.1 h4 h5 m2 p2 (fun c' π' pp => ?_)
  refine ⟨_, rfl, h3.2.2.2.2.2, ?_⟩
  refine Con_s (k_m (by decide) (k_m (by decide) h2)) ?_
  refine c_X8_stop (by omega) (fun _ => RI_b600 h5) (fun g => ⟨?_, LI_mk (kst_MS.kst_o (by decide)) (FS24 (FSk h3) pp) h4 h5 (fun k a b => ⟨RE.rfl', (h6 k a b).1, by have := (h6 k a b).2; omega, (h6 k a b).2.2⟩) h7 h8 ⟨by omega, by omega⟩⟩) (fun g => ⟨?_, LI_mk (kst_MS.kst_o (by decide)) (FS24 (FSk h3) pp) (h4.re RE_cpr2 (by omega) (by omega)) (h5.re RE_cpr2) (fun k a b => ⟨RE.rfl', (h6 k a b).1, by have := (h6 k a b).2; omega, (h6 k a b).2.2⟩) h7 h8 ⟨by rw [RE_cpr2 1 (by decide) (by decide)]; omega, by rw [RE_cpr2 24 (by decide) (by decide)]; omega⟩⟩)
  · rw [begF_w (by omega)]
  · rw [begF_stab 501 600 r (RI_c501 h5) (by decide)]
theorem p_count {scr : Nat × (Nat → Int32)} {S : Sto} {n : Int} (hn : 0 ≤ n ∧ n ≤ 600) (h : LI scr S n) {w : Int} (r_w : -2147483648 ≤ w ∧ w < 2147483648) : Con M_X7_count 150 150 S [.ref 0, zI w] (PQ M_X8_count scr n [zI w]) := by
  obtain ⟨c, π, r, past, aside, sv, rf, text, read, len, spot, fat, fwy, many, h1, h2, h3, h4, h5, h6, h7, h8, h9⟩ := h
  have hsv := h3.2.1.2.2.1
  have hR := h5.rr
  have ni := h5.1
  unfold NI at ni
  have hS : ∀ (aside' read' : Int → Int) (spot' fat' fwy' many' : Int), LI scr (mst S r (past, aside', sv, rf) (text, read', len, spot', fat', fwy', many')) (n + 1) := fun _ _ _ _ _ _ => LI_mk h1 h3 h4 h5 (fun k a b => ⟨RE.rfl', (h6 k a b).1, by have := (h6 k a b).2; omega, (h6 k a b).2.2⟩) h7 h8 ⟨by omega, by omega⟩
  have he := h1.eq
  refine Con_s he ?_
  refine c_X7_count h3.1 h4 h5 r_w ?_
  refine ⟨_, rfl, h3.2.2.2.2.2, ?_⟩
  refine Con_s (h2.trans he.symm) ?_
  refine c_X8_count hR r_w ⟨?_, hS _ _ _ _ _ _⟩
  rw [h3.2.1.2.1, h3.2.2.2.1.1]
theorem p_account {scr : Nat × (Nat → Int32)} {S : Sto} {n : Int} (hn : 0 ≤ n ∧ n ≤ 600) (h : LI scr S n) {w : Int} (r_w : -2147483648 ≤ w ∧ w < 2147483648) : Con M_X7_account 150 150 S [.ref 0, zI w] (PQ M_X8_account scr n [zI w]) := by
  obtain ⟨c, π, r, past, aside, sv, rf, text, read, len, spot, fat, fwy, many, h1, h2, h3, h4, h5, h6, h7, h8, h9⟩ := h
  have hsv := h3.2.1.2.2.1
  have hR := h5.rr
  have ni := h5.1
  unfold NI at ni
  have hS : ∀ (aside' read' : Int → Int) (spot' fat' fwy' many' : Int), LI scr (mst S r (past, aside', sv, rf) (text, read', len, spot', fat', fwy', many')) (n + 1) := fun _ _ _ _ _ _ => LI_mk h1 h3 h4 h5 (fun k a b => ⟨RE.rfl', (h6 k a b).1, by have := (h6 k a b).2; omega, (h6 k a b).2.2⟩) h7 h8 ⟨by omega, by omega⟩
  have he := h1.eq
  refine Con_s he ?_
  refine c_X7_account h3.1 h4 h5 r_w (fun g1 => ?_) (fun g1 => ?_)
  · refine ⟨_, rfl, h3.2.2.2.2.2, ?_⟩
    refine Con_s (h2.trans he.symm) ?_
    refine c_X8_account r_w ?_ ?_
    · exact fun _ => ⟨rfl, hS _ _ _ _ _ _⟩
    · intros; exfalso; omega
  · refine ⟨_, rfl, h3.2.2.2.2.2, ?_⟩
    refine Con_s (h2.trans he.symm) ?_
    refine c_X8_account r_w ?_ ?_
    · intros; exfalso; omega
    · exact fun _ => ⟨rfl, hS _ _ _ _ _ _⟩
theorem p_paper {scr : Nat × (Nat → Int32)} {S : Sto} {n : Int} (hn : 0 ≤ n ∧ n ≤ 600) (h : LI scr S n) {j w : Int} (r_j : -2147483648 ≤ j ∧ j < 2147483648) (r_w : -2147483648 ≤ w ∧ w < 2147483648) : Con M_X7_paper 150 150 S [.ref 0, zI j, zI w] (PQ M_X8_paper scr n [zI j, zI w]) := by
  obtain ⟨c, π, r, past, aside, sv, rf, text, read, len, spot, fat, fwy, many, h1, h2, h3, h4, h5, h6, h7, h8, h9⟩ := h
  have hsv := h3.2.1.2.2.1
  have hR := h5.rr
  have ni := h5.1
  unfold NI at ni
  have hS : ∀ (aside' read' : Int → Int) (spot' fat' fwy' many' : Int), LI scr (mst S r (past, aside', sv, rf) (text, read', len, spot', fat', fwy', many')) (n + 1) := fun _ _ _ _ _ _ => LI_mk h1 h3 h4 h5 (fun k a b => ⟨RE.rfl', (h6 k a b).1, by have := (h6 k a b).2; omega, (h6 k a b).2.2⟩) h7 h8 ⟨by omega, by omega⟩
  have he := h1.eq
  refine Con_s he ?_
  refine c_X7_paper h3.1 h4 h5 r_j r_w (fun g1 => ?_) (fun g1 g2 => ?_) (fun g1 g2 => ?_)
  · refine ⟨_, rfl, h3.2.2.2.2.2, ?_⟩
    refine Con_s (h2.trans he.symm) ?_
    refine c_X8_paper hR.2.2.1 r_j r_w ?_ ?_ ?_
    · exact fun _ => ⟨rfl, hS _ _ _ _ _ _⟩
    · intros; exfalso; omega
    · intros; exfalso; omega
  · refine ⟨_, rfl, h3.2.2.2.2.2, ?_⟩
    refine Con_s (h2.trans he.symm) ?_
    refine c_X8_paper hR.2.2.1 r_j r_w ?_ ?_ ?_
    · intros; exfalso; omega
    · exact fun _ _ => ⟨rfl, hS _ _ _ _ _ _⟩
    · intros; exfalso; omega
  · refine ⟨_, rfl, h3.2.2.2.2.2, ?_⟩
    refine Con_s (h2.trans he.symm) ?_
    refine c_X8_paper hR.2.2.1 r_j r_w ?_ ?_ ?_
    · intros; exfalso; omega
    · intros; exfalso; omega
    · exact fun _ _ => ⟨rfl, hS _ _ _ _ _ _⟩
theorem p_lacking {scr : Nat × (Nat → Int32)} {S : Sto} {n : Int} (hn : 0 ≤ n ∧ n ≤ 600) (h : LI scr S n) {s q : Int} (r_s : -2147483648 ≤ s ∧ s < 2147483648) (r_q : -2147483648 ≤ q ∧ q < 2147483648) : Con M_X7_lacking 150 150 S [.ref 0, zI s, zI q] (PQ M_X8_lacking scr n [zI s, zI q]) := by
  obtain ⟨c, π, r, past, aside, sv, rf, text, read, len, spot, fat, fwy, many, h1, h2, h3, h4, h5, h6, h7, h8, h9⟩ := h
  have hsv := h3.2.1.2.2.1
  have hR := h5.rr
  have ni := h5.1
  unfold NI at ni
  have hS : ∀ (aside' read' : Int → Int) (spot' fat' fwy' many' : Int), LI scr (mst S r (past, aside', sv, rf) (text, read', len, spot', fat', fwy', many')) (n + 1) := fun _ _ _ _ _ _ => LI_mk h1 h3 h4 h5 (fun k a b => ⟨RE.rfl', (h6 k a b).1, by have := (h6 k a b).2; omega, (h6 k a b).2.2⟩) h7 h8 ⟨by omega, by omega⟩
  have he := h1.eq
  refine Con_s he ?_
  refine c_X7_lacking h3.1 h4 h5 r_s r_q (fun g1 => ?_) (fun g1 => ?_)
  · refine ⟨_, rfl, h3.2.2.2.2.2, ?_⟩
    refine Con_s (h2.trans he.symm) ?_
    refine c_X8_lacking hR r_s r_q ?_ ?_
    · exact fun _ => ⟨rfl, hS _ _ _ _ _ _⟩
    · intros; exfalso; omega
  · refine ⟨_, rfl, h3.2.2.2.2.2, ?_⟩
    refine Con_s (h2.trans he.symm) ?_
    refine c_X8_lacking hR r_s r_q ?_ ?_
    · intros; exfalso; omega
    · exact fun _ => ⟨rfl, hS _ _ _ _ _ _⟩
theorem p_ticksTo {scr : Nat × (Nat → Int32)} {S : Sto} {n : Int} (hn : 0 ≤ n ∧ n ≤ 600) (h : LI scr S n) {j : Int} (r_j : -2147483648 ≤ j ∧ j < 2147483648) : Con M_X7_ticksTo 150 150 S [.ref 0, zI j] (PQ M_X8_ticksTo scr n [zI j]) := by
  obtain ⟨c, π, r, past, aside, sv, rf, text, read, len, spot, fat, fwy, many, h1, h2, h3, h4, h5, h6, h7, h8, h9⟩ := h
  have hsv := h3.2.1.2.2.1
  have hR := h5.rr
  have ni := h5.1
  unfold NI at ni
  have hS : ∀ (aside' read' : Int → Int) (spot' fat' fwy' many' : Int), LI scr (mst S r (past, aside', sv, rf) (text, read', len, spot', fat', fwy', many')) (n + 1) := fun _ _ _ _ _ _ => LI_mk h1 h3 h4 h5 (fun k a b => ⟨RE.rfl', (h6 k a b).1, by have := (h6 k a b).2; omega, (h6 k a b).2.2⟩) h7 h8 ⟨by omega, by omega⟩
  have he := h1.eq
  refine Con_s he ?_
  obtain ⟨c2, π2, m2, p2⟩ := h3.2.2.1
  refine c_X7_ticksTo h3.1 h4 h5 m2 p2 (fun a => RI_ct 20000 r j 0 h5 (by omega) (by omega) (by omega)) r_j (fun g1 => ?_) (fun g1 g2 => ?_) (fun g1 g2 c' π' pp => ?_)
  · refine ⟨_, rfl, h3.2.2.2.2.2, ?_⟩
    refine Con_s (h2.trans he.symm) ?_
    refine c_X8_ticksTo hR (fun a => RI_t 20000 r j 0 h5 (by omega) (by omega) (by omega)) r_j ?_ ?_ ?_
    · exact fun _ => ⟨rfl, hS _ _ _ _ _ _⟩
    · intros; exfalso; omega
    · intros; exfalso; omega
  · refine ⟨_, rfl, h3.2.2.2.2.2, ?_⟩
    refine Con_s (h2.trans he.symm) ?_
    refine c_X8_ticksTo hR (fun a => RI_t 20000 r j 0 h5 (by omega) (by omega) (by omega)) r_j ?_ ?_ ?_
    · intros; exfalso; omega
    · exact fun _ _ => ⟨rfl, hS _ _ _ _ _ _⟩
    · intros; exfalso; omega
  · refine ⟨_, rfl, h3.2.2.2.2.2, ?_⟩
    refine Con_s (k_m (by decide) (k_m (by decide) h2)) ?_
    refine c_X8_ticksTo hR (fun a => RI_t 20000 r j 0 h5 (by omega) (by omega) (by omega)) r_j ?_ ?_ ?_
    · intros; exfalso; omega
    · intros; exfalso; omega
    · exact fun _ _ => ⟨rfl, LI_mk (kst_MS.kst_o (by decide)) (FS24 (FSk h3) pp) (h4.re RE_cpr2 (by omega) (by omega)) (h5.re RE_cpr2) (fun k a b => ⟨RE.rfl', (h6 k a b).1, by have := (h6 k a b).2; omega, (h6 k a b).2.2⟩) h7 h8 ⟨by rw [RE_cpr2 1 (by decide) (by decide)]; omega, by rw [RE_cpr2 24 (by decide) (by decide)]; omega⟩⟩
theorem FSu {S : Sto} {sv : Int} {ρ : Int → Int → Int} {len : Int} {text : Int → Int} {rf : Int} {scr : Nat × (Nat → Int32)} (h : FS S sv ρ len text rf scr) (hs : HS (setI S 47 1 (sv - 1)) (sv - 1) ρ) : FS (setI S 47 1 (sv - 1)) (sv - 1) ρ len text rf scr := by
  obtain ⟨a, b, ⟨c2, π2, m, p⟩, ⟨d1, d2⟩, f, g⟩ := h
  exact ⟨a, hs, ⟨c2, π2, m.setI_o (by decide), p⟩, ⟨by rw [setI_ne1 (by decide)]; exact d1, by rw [setI_ne1 (by decide)]; exact d2⟩, by rw [setI_ne1 (by decide)]; exact f, g⟩
theorem FSt {S : Sto} {sv : Int} {ρ : Int → Int → Int} {len x : Int} {text : Int → Int} {rf : Int} {scr : Nat × (Nat → Int32)} (h : FS S sv ρ len text rf scr) : FS (setI S 141 1 x) sv ρ x text rf scr := by
  obtain ⟨a, b, ⟨c2, π2, m, p⟩, ⟨d1, d2⟩, f, g⟩ := h
  exact ⟨a, b.ext (fun i i0 i1 => ⟨up2_ne (by omega), rfl⟩), ⟨c2, π2, m.setI_o (by decide), p⟩, ⟨setI_e, by rw [setI_ne1 (by decide)]; exact d2⟩, by rw [setI_ne1 (by decide)]; exact f, g⟩
theorem FSy {S : Sto} {sv : Int} {ρ : Int → Int → Int} {len q x : Int} {text : Int → Int} {rf : Int} {scr : Nat × (Nat → Int32)} (h : FS S sv ρ len text rf scr) : FS (setI S 142 q x) sv ρ len (up1 text q x) rf scr := by
  obtain ⟨a, b, ⟨c2, π2, m, p⟩, ⟨d1, d2⟩, f, g⟩ := h
  exact ⟨a, b.ext (fun i i0 i1 => ⟨up2_ne (by omega), rfl⟩), ⟨c2, π2, m.setI_o (by decide), p⟩, ⟨by rw [setI_ne1 (by decide)]; exact d1, by rw [setI_at, d2]⟩, by rw [setI_ne1 (by decide)]; exact f, g⟩
theorem p_undo {scr : Nat × (Nat → Int32)} {S : Sto} {n : Int} (hn : 0 ≤ n ∧ n ≤ 600) (h : LI scr S n) : Con M_X7_undo 150 150 S [.ref 0] (PQ M_X8_undo scr n []) := by
  obtain ⟨c, π, r, past, aside, sv, rf, text, read, len, spot, fat, fwy, many, h1, h2, h3, h4, h5, h6, h7, h8, h9⟩ := h
  have hsv := h3.2.1.2.2.1
  have hR := h5.rr
  have ni := h5.1
  unfold NI at ni
  have hS : ∀ (aside' read' : Int → Int) (spot' fat' fwy' many' : Int), LI scr (mst S r (past, aside', sv, rf) (text, read', len, spot', fat', fwy', many')) (n + 1) := fun _ _ _ _ _ _ => LI_mk h1 h3 h4 h5 (fun k a b => ⟨RE.rfl', (h6 k a b).1, by have := (h6 k a b).2; omega, (h6 k a b).2.2⟩) h7 h8 ⟨by omega, by omega⟩
  have he := h1.eq
  refine Con_s he ?_
  refine c_X7_undo h3.1 h4 h5 h3.2.1 (fun k a b => (h6 k a b).1.rr) (fun g1 => ?_) (fun g1 c' m hs => ?_)
  · refine ⟨_, rfl, h3.2.2.2.2.2, ?_⟩
    refine Con_s (h2.trans he.symm) ?_
    refine c_X8_undo hsv ?_ ?_
    · exact fun _ => ⟨rfl, hS _ _ _ _ _ _⟩
    · intros; exfalso; omega
  · refine ⟨_, rfl, h3.2.2.2.2.2, ?_⟩
    refine Con_s (k_m (by decide) (i_m (by decide) h2)) ?_
    refine c_X8_undo hsv ?_ ?_
    · intros; exfalso; omega
    · have z := h6 (sv - 1) (by omega) (by omega)
      exact fun _ => ⟨rfl, LI_mk kst_MS (FSk (FSu h3 hs)) (m.re RE_cpr1 z.1.rr.2.1 z.1.rr.2.2.1) (z.1.re RE_cpr1) (fun k a b => ⟨RE.rfl', (h6 k a (by omega)).1, by have := (h6 k a (by omega)).2; omega, (h6 k a (by omega)).2.2⟩) h7 h8 ⟨by rw [RE_cpr1 1 (by decide) (by decide)]; omega, by rw [RE_cpr1 24 (by decide) (by decide)]; omega⟩⟩
theorem p_type {scr : Nat × (Nat → Int32)} {S : Sto} {n : Int} (hn : 0 ≤ n ∧ n ≤ 600) (h : LI scr S n) {v : Int} (r_v : -2147483648 ≤ v ∧ v < 2147483648) : Con M_X7_type 150 150 S [.ref 0, zI v] (PQ M_X8_type scr n [zI v]) := by
  obtain ⟨c, π, r, past, aside, sv, rf, text, read, len, spot, fat, fwy, many, h1, h2, h3, h4, h5, h6, h7, h8, h9⟩ := h
  have hsv := h3.2.1.2.2.1
  have hR := h5.rr
  have ni := h5.1
  unfold NI at ni
  have hS : ∀ (aside' read' : Int → Int) (spot' fat' fwy' many' : Int), LI scr (mst S r (past, aside', sv, rf) (text, read', len, spot', fat', fwy', many')) (n + 1) := fun _ _ _ _ _ _ => LI_mk h1 h3 h4 h5 (fun k a b => ⟨RE.rfl', (h6 k a b).1, by have := (h6 k a b).2; omega, (h6 k a b).2.2⟩) h7 h8 ⟨by omega, by omega⟩
  have he := h1.eq
  refine Con_s he ?_
  have eL := h3.2.2.2.1.1
  refine c_X7_type h3.1 r_v (by omega) (fun g1 => ?_) (fun g1 g2 => ?_) (fun g1 g2 => ?_)
  · refine ⟨_, rfl, h3.2.2.2.2.2, ?_⟩
    refine Con_s (h2.trans he.symm) ?_
    refine c_X8_type h7 r_v ?_ ?_ ?_
    · exact fun _ => ⟨rfl, hS _ _ _ _ _ _⟩
    · intros; exfalso; omega
    · intros; exfalso; omega
  · refine ⟨_, rfl, h3.2.2.2.2.2, ?_⟩
    refine Con_s (h2.trans he.symm) ?_
    refine c_X8_type h7 r_v ?_ ?_ ?_
    · intros; exfalso; omega
    · exact fun _ _ => ⟨rfl, hS _ _ _ _ _ _⟩
    · intros; exfalso; omega
  · refine ⟨_, rfl, h3.2.2.2.2.2, ?_⟩
    refine Con_s (k_m (by decide) (i_m (by decide) (i_m (by decide) h2))) ?_
    refine c_X8_type h7 r_v ?_ ?_ ?_
    · intros; exfalso; omega
    · intros; exfalso; omega
    · rw [eL]
      exact fun _ _ => ⟨rfl, LI_mk kst_MS (FSk (FSt (FSy h3))) h4 h5 (fun k a b => ⟨RE.rfl', (h6 k a b).1, by have := (h6 k a b).2; omega, (h6 k a b).2.2⟩) (by omega) (fun k a b => by
        by_cases y : k = len
        · rw [y, up1_at]; omega
        · rw [up1_ne y]; exact h8 k a (by omega)) ⟨by omega, by omega⟩⟩
theorem p_clearText {scr : Nat × (Nat → Int32)} {S : Sto} {n : Int} (hn : 0 ≤ n ∧ n ≤ 600) (h : LI scr S n) : Con M_X7_clearText 150 150 S [.ref 0] (PQ M_X8_clearText scr n []) := by
  obtain ⟨c, π, r, past, aside, sv, rf, text, read, len, spot, fat, fwy, many, h1, h2, h3, h4, h5, h6, h7, h8, h9⟩ := h
  have hsv := h3.2.1.2.2.1
  have hR := h5.rr
  have ni := h5.1
  unfold NI at ni
  have hS : ∀ (aside' read' : Int → Int) (spot' fat' fwy' many' : Int), LI scr (mst S r (past, aside', sv, rf) (text, read', len, spot', fat', fwy', many')) (n + 1) := fun _ _ _ _ _ _ => LI_mk h1 h3 h4 h5 (fun k a b => ⟨RE.rfl', (h6 k a b).1, by have := (h6 k a b).2; omega, (h6 k a b).2.2⟩) h7 h8 ⟨by omega, by omega⟩
  have he := h1.eq
  refine Con_s he ?_
  have eL := h3.2.2.2.1.1
  refine c_X7_clearText h3.1 ?_
  refine ⟨_, rfl, h3.2.2.2.2.2, ?_⟩
  refine Con_s (k_m (by decide) (i_m (by decide) h2)) ?_
  refine c_X8_clearText ⟨by rw [eL], LI_mk kst_MS (FSk (FSt h3)) h4 h5 (fun k a b => ⟨RE.rfl', (h6 k a b).1, by have := (h6 k a b).2; omega, (h6 k a b).2.2⟩) (by decide) (fun k a b => absurd b (by omega)) ⟨by omega, by omega⟩⟩
theorem kx_m {S σ2 : Sto} {c c' : Nat → Int → Int} {π π' : Int → Nat} {sv : Int} {ρ : Int → Int → Int} {r now t d : Int → Int} {P : PT} {T : TT} (h2 : mst S now P T = S) (k : KP S σ2 c π sv ρ r) : mst (kst 1 (xst σ2 t d) c' π') now P T = kst 1 (xst σ2 t d) c' π' := by
  have e := kp_m (c' := c') (π' := π') h2 k
  refine mst_keep e (fun i hi => ?_) ?_
  · rw [kst_o1 (b := 1) (by omega), xst_o (by omega) (by omega), kst_o1 (b := 1) (by omega)]
  · rw [kst_o2 (b := 1) (by decide), kst_o2 (b := 1) (by decide)]
    rfl
theorem LI_Bx {scr : Nat × (Nat → Int32)} {S σ2 : Sto} {n : Int} {c c' : Nat → Int → Int} {π π' : Int → Nat} {r r' past aside t d : Int → Int} {sv rf : Int} {text read : Int → Int} {len spot fat fwy many : Int} (h3 : FS S sv (rows past) len text rf scr) (kp : KP S σ2 c π sv (rows past) r) (m : MR c' π' r') (ht : t 1 = len) (h5 : RI r) (h5' : RI r') (h6 : ∀ k : Int, 0 ≤ k → k < sv → RI (rows past k) ∧ rows past k 1 ≤ 10 * n ∧ rows past k 24 ≤ 1000000) (h7 : 0 ≤ len ∧ len ≤ 100) (h8 : ∀ k : Int, 0 ≤ k → k < len → 32 ≤ text k ∧ text k ≤ 126) (h9 : r 1 ≤ 10 * n ∧ r 24 ≤ 1000000) (b' : r' 1 ≤ 10 * (n + 1) ∧ r' 24 ≤ 1000000) : LI scr (mst (kst 1 (xst σ2 t d) c' π') r' (recP r past sv, aside, recS sv, rf) (text, read, len, spot, fat, fwy, many)) (n + 1) := by
  have hsv := h3.2.1.2.2.1
  refine LI_mk kst_MS (FSk (FSx (FSp h3 kp) ht)) m h5' (fun k a b => ?_) h7 h8 b'
  obtain ⟨e1, e2⟩ := rows_rec (r := r) (past := past) hsv a b
  refine ⟨e1, ?_⟩
  rcases e2 with ⟨-, e⟩ | ⟨k', k0, k1, e⟩
  · exact ⟨h5.re e, by rw [e 1 (by decide) (by decide)]; omega, by rw [e 24 (by decide) (by decide)]; omega⟩
  · have z := h6 k' k0 k1
    exact ⟨z.1.re e, by rw [e 1 (by decide) (by decide)]; omega, by rw [e 24 (by decide) (by decide)]; omega⟩
theorem p_fault {scr : Nat × (Nat → Int32)} {S : Sto} {n : Int} (hn : 0 ≤ n ∧ n ≤ 600) (h : LI scr S n) {w : Int} (r_w : -2147483648 ≤ w ∧ w < 2147483648) : Con M_X7_fault 150 150 S [.ref 0, zI w] (PQ M_X8_fault scr n [zI w]) := by
  obtain ⟨c, π, r, past, aside, sv, rf, text, read, len, spot, fat, fwy, many, h1, h2, h3, h4, h5, h6, h7, h8, h9⟩ := h
  have hsv := h3.2.1.2.2.1
  have hR := h5.rr
  have ni := h5.1
  unfold NI at ni
  have hS : ∀ (aside' read' : Int → Int) (spot' fat' fwy' many' : Int), LI scr (mst S r (past, aside', sv, rf) (text, read', len, spot', fat', fwy', many')) (n + 1) := fun _ _ _ _ _ _ => LI_mk h1 h3 h4 h5 (fun k a b => ⟨RE.rfl', (h6 k a b).1, by have := (h6 k a b).2; omega, (h6 k a b).2.2⟩) h7 h8 ⟨by omega, by omega⟩
  have he := h1.eq
  refine Con_s he ?_
  obtain ⟨eL, eT⟩ := h3.2.2.2.1
  subst eT
  refine c_X7_fault h3.1 h4 h5 r_w eL h7 h8 (fun g1 => ?_) (fun g1 g2 t d ht => ?_) (fun g1 g2 t d ht => ?_)
  · refine ⟨_, rfl, h3.2.2.2.2.2, ?_⟩
    refine Con_s (h2.trans he.symm) ?_
    refine c_X8_fault h7 h8 (by omega) (by omega) r_w ?_ ?_ ?_
    · exact fun _ => ⟨rfl, hS _ _ _ _ _ _⟩
    · intros; exfalso; omega
    · intros; exfalso; omega
  · refine ⟨_, rfl, h3.2.2.2.2.2, ?_⟩
    refine Con_s (k_m (by decide) (x_m h2)) ?_
    refine c_X8_fault h7 h8 (by omega) (by omega) r_w ?_ ?_ ?_
    · intros; exfalso; omega
    · exact fun _ _ _ _ _ _ _ => ⟨rfl, LI_mk kst_MS (FSk (FSx h3 ht)) h4 h5 (fun k a b => ⟨RE.rfl', (h6 k a b).1, by have := (h6 k a b).2; omega, (h6 k a b).2.2⟩) h7 h8 ⟨by omega, by omega⟩⟩
    · intros; exfalso; omega
  · refine ⟨_, rfl, h3.2.2.2.2.2, ?_⟩
    refine Con_s (k_m (by decide) (x_m h2)) ?_
    refine c_X8_fault h7 h8 (by omega) (by omega) r_w ?_ ?_ ?_
    · intros; exfalso; omega
    · intros; exfalso; omega
    · exact fun _ _ _ _ _ _ _ => ⟨rfl, LI_mk kst_MS (FSk (FSx h3 ht)) h4 h5 (fun k a b => ⟨RE.rfl', (h6 k a b).1, by have := (h6 k a b).2; omega, (h6 k a b).2.2⟩) h7 h8 ⟨by omega, by omega⟩⟩
theorem p_enter {scr : Nat × (Nat → Int32)} {S : Sto} {n : Int} (hn : 0 ≤ n ∧ n ≤ 600) (h : LI scr S n) : Con M_X7_enter 150 150 S [.ref 0] (PQ M_X8_enter scr n []) := by
  obtain ⟨c, π, r, past, aside, sv, rf, text, read, len, spot, fat, fwy, many, h1, h2, h3, h4, h5, h6, h7, h8, h9⟩ := h
  have hsv := h3.2.1.2.2.1
  have hR := h5.rr
  have ni := h5.1
  unfold NI at ni
  have hS : ∀ (aside' read' : Int → Int) (spot' fat' fwy' many' : Int), LI scr (mst S r (past, aside', sv, rf) (text, read', len, spot', fat', fwy', many')) (n + 1) := fun _ _ _ _ _ _ => LI_mk h1 h3 h4 h5 (fun k a b => ⟨RE.rfl', (h6 k a b).1, by have := (h6 k a b).2; omega, (h6 k a b).2.2⟩) h7 h8 ⟨by omega, by omega⟩
  have he := h1.eq
  refine Con_s he ?_
  obtain ⟨eL, eT⟩ := h3.2.2.2.1
  subst eT
  refine c_X7_enter h3.1 h4 h5 h3.2.1 eL h7 h8 (fun g1 t d ht => ?_) (fun g1 t1 d1 t d σ2 c' ht1 kp ht m => ?_)
  · refine ⟨_, rfl, h3.2.2.2.2.2, ?_⟩
    refine Con_s (k_m (by decide) (x_m h2)) ?_
    refine c_X8_enter hsv h7 h8 (by omega) (by omega) ?_ ?_
    · exact fun _ _ _ _ _ _ => ⟨rfl, LI_mk kst_MS (FSk (FSx h3 ht)) h4 h5 (fun k a b => ⟨RE.rfl', (h6 k a b).1, by have := (h6 k a b).2; omega, (h6 k a b).2.2⟩) h7 h8 ⟨by omega, by omega⟩⟩
    · intros; exfalso; omega
  · refine ⟨_, rfl, (FSp (FSx h3 ht1) kp).2.2.2.2.2, ?_⟩
    refine Con_s (kx_m (x_m h2) kp) ?_
    refine c_X8_enter hsv h7 h8 (by omega) (by omega) ?_ ?_
    · intros; exfalso; omega
    · have hk := hfF_ok (tx := S.1 142) (ln := len) (r := r) 100 0 0 (by decide) (by omega) (by decide) (by omega) g1
      have z := RI_ent (tx := S.1 142) (ln := len) (r1 := r) 100 (hfF (S.1 142) len r 100 0 0).2.2.toNat r 0 0 (by omega) (by decide) (by decide) h5 rfl (by omega) (by omega) (by omega) g1 (by omega)
      refine fun _ _ _ _ _ _ => ⟨rfl, ?_⟩
      exact LI_Bx (FSx h3 ht1) kp m ht h5 z.1 h6 h7 h8 h9 ⟨by rw [z.2.1]; omega, by rw [z.2.2]; omega⟩
