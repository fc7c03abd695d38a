/-! the law: the sheets -/
theorem GI.fa {B : Int} {r : Int → Int} (h : GI B r) (hB : B ≤ 1000000) : ((0 ≤ r 0 ∧ r 0 ≤ 10) ∧ (0 ≤ r 1 ∧ r 1 ≤ 1000000) ∧ (0 ≤ r 2 ∧ r 2 ≤ r 17) ∧ (0 ≤ r 3 ∧ r 3 ≤ 5000) ∧ (0 ≤ r 9 ∧ r 9 ≤ 16) ∧ (0 ≤ r 16 ∧ r 16 ≤ 1000000) ∧ (0 ≤ r 17 ∧ r 17 ≤ 1000000) ∧ (0 ≤ r 18 ∧ r 18 ≤ 1000000) ∧ (r 17 ≤ r 19 ∧ r 19 ≤ 2 * r 17) ∧ (0 ≤ r 21 ∧ r 21 ≤ 1000000) ∧ (0 ≤ r 23 ∧ r 23 ≤ r 24) ∧ r 24 ≤ B) ∧ ((r 5 = 0 ∧ r 4 = 0 ∧ r 6 = -4) ∨ ((r 5 = 1 ∨ r 5 = 2) ∧ (1 ≤ r 4 ∧ r 4 ≤ 60) ∧ (0 ≤ r 6 ∧ r 6 < r 1))) ∧ ((r 5 = 1 ∧ r 16 = r 17 + r 18 + 1) ∨ (¬ r 5 = 1 ∧ r 16 = r 17 + r 18)) := by
  obtain ⟨hI, hE, h16, h1, h24⟩ := h
  have ni := hI.1
  unfold NI at ni
  have ea := hE.1
  unfold EA at ea
  obtain ⟨⟨e1, e2⟩, e3, e4, e5, e6, e7⟩ := ea
  have c : (r 5 = 1 ∧ r 16 = r 17 + r 18 + 1) ∨ (¬ r 5 = 1 ∧ r 16 = r 17 + r 18) := by
    by_cases z : r 5 = 1
    · exact Or.inl ⟨z, (e1 z).1⟩
    · exact Or.inr ⟨z, e2 z⟩
  have wi := hI.2.2.2.2.2.2
  unfold WI at wi
  have l6 : 0 ≤ plc r (r 6) → r 6 < r 1 := fun z => by
    rcases plc_sp r (r 6) with a | ⟨a, b, d, -⟩
    · omega
    · have j := (hI.2.2.2.2.2.1 _ a b).2.2.2.2
      omega
  refine ⟨by omega, ?_, c⟩
  rcases wi with a | a | a
  · exact Or.inl ⟨a.1, a.2.1, a.2.2⟩
  · have := l6 a.2.2.2.2.1
    exact Or.inr ⟨Or.inl a.1, by omega, by omega⟩
  · have := l6 a.2.2.2.2.1
    exact Or.inr ⟨Or.inr a.1, by omega, by omega⟩
theorem shA_own {r : Int → Int} (h : RT r) {t : Int} (ht : 0 ≤ t ∧ t < 4) : r (25 + 3 * t + 2) ≤ shA r (r (25 + 3 * t)) (r (25 + 3 * t + 1)) 4 := by
  have g : ∀ n : Nat, n ≤ 4 → (if t < (n : Int) then r (25 + 3 * t + 2) else 0) ≤ shA r (r (25 + 3 * t)) (r (25 + 3 * t + 1)) n := fun n => by
    induction n with
    | zero => exact fun _ => by rw [if_neg (by omega)]; exact Int.le_refl _
    | succ n ih =>
      intro hn
      have i := ih (by omega)
      have a := h (n : Int) (by omega) (by omega)
      unfold shA
      by_cases z : (n : Int) = t
      · rw [← z] at i ⊢
        rw [if_neg (by omega)] at i
        rw [if_pos (show (n : Int) < ((n + 1 : Nat) : Int) by omega), if_pos (show r (25 + 3 * (n : Int)) = r (25 + 3 * (n : Int)) ∧ r (25 + 3 * (n : Int) + 1) = r (25 + 3 * (n : Int) + 1) from ⟨rfl, rfl⟩)]
        omega
      · split at i <;> (repeat' split) <;> omega
  have q := g 4 (by decide)
  rw [if_pos (by omega)] at q
  exact q
section SHEETS
variable {B : Int} {scr : Nat × (Nat → Int32)} {S : Sto} {r : Int → Int} {sv : Int} {ρ : Int → Int → Int} {rf : Int} {Q : Option Value → Sto → Prop}
theorem q_paperK (h : CL B scr S r sv ρ rf) {j w x : Int} (hj : 0 ≤ j ∧ j < r 9) (hw : 0 ≤ w ∧ w ≤ 2) (hx : r (37 + 3 * j + w) = x) (k : ∀ S', CL B scr S' r sv ρ rf → Q (some (zI x)) S') : Con M_X7_paper 144 144 S [.ref 0, zI j, zI w] Q := by
  have n := h.gi.ni
  exact q_paper h (by omega) (by omega) (fun g => absurd (show 0 ≤ j ∧ 0 ≤ w ∧ w ≤ 2 by omega) g) (fun _ g => absurd g (by omega)) (fun _ _ => by rw [hx]; exact k)
theorem q_trayK (h : CL B scr S r sv ρ rf) {t w x : Int} (ht : 0 ≤ t ∧ t ≤ 3) (hw : 0 ≤ w ∧ w ≤ 3) (hx : (if w < 3 then r (25 + 3 * t + w) else shA r (r (25 + 3 * t)) (r (25 + 3 * t + 1)) 4) = x) (k : ∀ S', CL B scr S' r sv ρ rf → Q (some (zI x)) S') : Con M_X7_tray 144 144 S [.ref 0, zI t, zI w] Q :=
  q_tray h (by omega) (by omega) (fun g => absurd (show (0 ≤ t ∧ t ≤ 3) ∧ 0 ≤ w ∧ w ≤ 3 from ⟨ht, hw⟩) g) (fun _ => by rw [hx]; exact k)
end SHEETS
theorem paS_mono {r : Int → Int} {N : Int} (h : ∀ k : Int, 0 ≤ k → k < N → 1 ≤ r (37 + 3 * k + 2)) : ∀ m : Nat, (m : Int) ≤ N → 0 ≤ paS r m ∧ ∀ n : Nat, n < m → r (37 + 3 * (n : Int) + 2) ≤ paS r m
  | 0, _ => ⟨Int.le_refl _, fun n z => by omega⟩
  | m + 1, hm => by
    have i := paS_mono h m (by omega)
    have a := h (m : Int) (by omega) (by omega)
    unfold paS
    refine ⟨by omega, fun n z => ?_⟩
    by_cases y : n = m
    · rw [y]
      omega
    · have := i.2 n (by omega)
      omega
theorem paS_le {r : Int → Int} (h : ∀ k : Int, 0 ≤ k → k < r 9 → 1 ≤ r (37 + 3 * k + 2)) (h9 : 0 ≤ r 9) {n : Nat} (hs : paS r (r 9).toNat < 2147483648) (hn : (n : Int) < r 9) : r (37 + 3 * (n : Int) + 2) < 2147483648 := by
  have a := (paS_mono h (r 9).toNat (by omega)).2 n (by omega)
  omega
theorem l_areSheets_303 {B : Int} {scr : Nat × (Nat → Int32)} {r : Int → Int} {sv : Int} {ρ : Int → Int → Int} {rf : Int} {Q : Option Value → Sto → Prop} (hB : B ≤ 1000000) (k : ∀ S, CL B scr S r sv ρ rf → Q (some (zI 1)) S) : ∀ n : Nat, n ≤ 4 → ∀ S : Sto, CL B scr S r sv ρ rf → V M_L_areSheets 144 303 [(0, .ref 0), (2, zI (r 16)), (3, zI 1), (4, zI ((n : Nat) : Int))] [] 144 S Q := by
  refine loop_nat 4 (fun n hn ih => ?_)
  intro S hC
  obtain ⟨fa, fw, fs⟩ := hC.gi.fa hB
  have sr := shA_rg hC.gi.1.2.1 (r (25 + 3 * (n : Int))) (r (25 + 3 * (n : Int) + 1)) 4 (by decide)
  have st : (n : Int) < 4 → (0 ≤ r (25 + 3 * (n : Int) + 2) ∧ r (25 + 3 * (n : Int) + 2) ≤ 500) ∧ r (25 + 3 * (n : Int) + 2) ≤ shA r (r (25 + 3 * (n : Int))) (r (25 + 3 * (n : Int) + 1)) 4 := fun z => ⟨by have a := hC.gi.1.2.2.1 (n : Int) (by omega) (by omega); omega, shA_own hC.gi.1.2.2.1 ⟨by omega, z⟩⟩
  refine V_iload (pc := 303) e_L_areSheets_303 rfl ?_
  refine V_iconst (pc := 305) e_L_areSheets_305 ?_
  refine V_icmp_ge (pc := 306) e_L_areSheets_306 (by decide) (by omega) (by decide) (fun h306 => ?_) (fun h306 => ?_)
  · refine V_iload_n (pc := 365) e_L_areSheets_365 rfl ?_
    refine V_if_eq (pc := 366) e_L_areSheets_366 (by decide) (by decide) (fun h => absurd h (by decide)) (fun _ => ?_)
    refine V_iload_n (pc := 369) e_L_areSheets_369 rfl ?_
    refine V_aload_n (pc := 370) e_L_areSheets_370 rfl (Or.inl ⟨_, rfl⟩) ?_
    refine V_iconst (pc := 371) e_L_areSheets_371 ?_
    refine V_cV1 (pc := 372) ca_8_19 e_L_areSheets_372 (by decide) (Nat.le_of_ble_eq_true rfl) (by decide) rfl (by decide) (q_accountK (x := r 16) hC (by decide) rfl (fun S hC => ?_))
    refine V_icmp_ne (pc := 375) e_L_areSheets_375 (by decide) (by omega) (by omega) (fun h375 => ?_) (fun h375 => ?_)
    · exfalso
      omega
    · refine V_iconst (pc := 378) e_L_areSheets_378 ?_
      refine V_goto (pc := 379) e_L_areSheets_379 (by decide) ?_
      refine V_ret (pc := 383) (v := some (zI _)) ⟨e_L_areSheets_383, _, rfl, by decide⟩ ?_
      exact k S hC
  · refine V_iload_n (pc := 309) e_L_areSheets_309 rfl ?_
    refine V_if_eq (pc := 310) e_L_areSheets_310 (by decide) (by decide) (fun h => absurd h (by decide)) (fun _ => ?_)
    have st := st (by omega)
    refine V_aload_n (pc := 313) e_L_areSheets_313 rfl (Or.inl ⟨_, rfl⟩) ?_
    refine V_iload (pc := 314) e_L_areSheets_314 rfl ?_
    refine V_iconst (pc := 316) e_L_areSheets_316 ?_
    refine V_cV2 (pc := 317) ca_8_29 e_L_areSheets_317 (by decide) (Nat.le_of_ble_eq_true rfl) (by decide) rfl (by decide) (q_trayK (x := r (25 + 3 * (n : Int) + 2)) hC (by omega) (by decide) rfl (fun S hC => ?_))
    refine V_if_lt (pc := 320) e_L_areSheets_320 (by decide) (by omega) (fun h320 => ?_) (fun h320 => ?_)
    · exfalso
      omega
    · refine V_aload_n (pc := 323) e_L_areSheets_323 rfl (Or.inl ⟨_, rfl⟩) ?_
      refine V_iload (pc := 324) e_L_areSheets_324 rfl ?_
      refine V_iconst (pc := 326) e_L_areSheets_326 ?_
      refine V_cV2 (pc := 327) ca_8_29 e_L_areSheets_327 (by decide) (Nat.le_of_ble_eq_true rfl) (by decide) rfl (by decide) (q_trayK (x := r (25 + 3 * (n : Int) + 2)) hC (by omega) (by decide) rfl (fun S hC => ?_))
      refine V_sipush (pc := 330) (by decide) e_L_areSheets_330 ?_
      refine V_icmp_gt (pc := 333) e_L_areSheets_333 (by decide) (by omega) (by decide) (fun h333 => ?_) (fun h333 => ?_)
      · exfalso
        omega
      · refine V_aload_n (pc := 336) e_L_areSheets_336 rfl (Or.inl ⟨_, rfl⟩) ?_
        refine V_iload (pc := 337) e_L_areSheets_337 rfl ?_
        refine V_iconst (pc := 339) e_L_areSheets_339 ?_
        refine V_cV2 (pc := 340) ca_8_29 e_L_areSheets_340 (by decide) (Nat.le_of_ble_eq_true rfl) (by decide) rfl (by decide) (q_trayK (x := shA r (r (25 + 3 * (n : Int))) (r (25 + 3 * (n : Int) + 1)) 4) hC (by omega) (by decide) rfl (fun S hC => ?_))
        refine V_aload_n (pc := 343) e_L_areSheets_343 rfl (Or.inl ⟨_, rfl⟩) ?_
        refine V_iload (pc := 344) e_L_areSheets_344 rfl ?_
        refine V_iconst (pc := 346) e_L_areSheets_346 ?_
        refine V_cV2 (pc := 347) ca_8_29 e_L_areSheets_347 (by decide) (Nat.le_of_ble_eq_true rfl) (by decide) rfl (by decide) (q_trayK (x := r (25 + 3 * (n : Int) + 2)) hC (by omega) (by decide) rfl (fun S hC => ?_))
        refine V_icmp_lt (pc := 350) e_L_areSheets_350 (by decide) (by omega) (by omega) (fun h350 => ?_) (fun h350 => ?_)
        · exfalso
          omega
        · refine V_iconst (pc := 353) e_L_areSheets_353 ?_
          refine V_goto (pc := 354) e_L_areSheets_354 (by decide) ?_
          refine V_istore_n (pc := 358) e_L_areSheets_358 (by decide) ?_
          refine V_iinc (pc := 359) e_L_areSheets_359 rfl (by decide) ?_
          refine V_goto (pc := 362) e_L_areSheets_362 (by decide) ?_
          exact V_lq [(0, .ref 0), (2, zI (r 16)), (3, zI 1), (4, zI (((n + 1) : Nat) : Int))] ⟨⟨_, rfl, rfl⟩, ⟨_, rfl, rfl⟩, ⟨_, rfl, rfl⟩, ⟨_, rfl, rfl⟩, trivial⟩ (ih (by omega) S hC)
theorem l_areSheets_237 {B : Int} {scr : Nat × (Nat → Int32)} {r : Int → Int} {sv : Int} {ρ : Int → Int → Int} {rf : Int} {Q : Option Value → Sto → Prop} (hB : B ≤ 1000000) {n : Nat} (hn9 : (n : Int) < r 9) (k : ∀ S, CL B scr S r sv ρ rf → V M_L_areSheets 144 294 [(0, .ref 0), (2, zI (paS r (n + 1))), (3, zI 1), (4, zI ((n : Nat) : Int))] [] 144 S Q) : ∀ m : Nat, m ≤ n → ∀ S : Sto, CL B scr S r sv ρ rf → V M_L_areSheets 144 237 [(0, .ref 0), (2, zI (paS r (n + 1))), (3, zI 1), (4, zI ((n : Nat) : Int)), (6, zI ((m : Nat) : Int))] [] 144 S Q := by
  refine loop_nat n (fun m hn ih => ?_)
  intro S hC
  obtain ⟨fa, fw, fs⟩ := hC.gi.fa hB
  have pn := hC.gi.1.2.2.2.1.1 (n : Int) (by omega) hn9
  have pm := hC.gi.1.2.2.2.1.1 (m : Int) (by omega) (by omega)
  have pp : m < n → ¬ (r (37 + 3 * (m : Int)) = r (37 + 3 * (n : Int)) ∧ r (37 + 3 * (m : Int) + 1) = r (37 + 3 * (n : Int) + 1)) := fun z => hC.gi.1.2.2.2.1.2 (m : Int) (n : Int) (by omega) (by omega) hn9
  refine V_iload (pc := 237) e_L_areSheets_237 rfl ?_
  refine V_iload (pc := 239) e_L_areSheets_239 rfl ?_
  refine V_icmp_ge (pc := 241) e_L_areSheets_241 (by decide) (by omega) (by omega) (fun h241 => ?_) (fun h241 => ?_)
  · exact V_lq [(0, .ref 0), (2, zI (paS r (n + 1))), (3, zI 1), (4, zI ((n : Nat) : Int))] ⟨⟨_, rfl, rfl⟩, ⟨_, rfl, rfl⟩, ⟨_, rfl, rfl⟩, ⟨_, rfl, rfl⟩, trivial⟩ (k S hC)
  · refine V_iload_n (pc := 244) e_L_areSheets_244 rfl ?_
    refine V_if_eq (pc := 245) e_L_areSheets_245 (by decide) (by decide) (fun h => absurd h (by decide)) (fun _ => ?_)
    have pp := pp (by omega)
    refine V_aload_n (pc := 248) e_L_areSheets_248 rfl (Or.inl ⟨_, rfl⟩) ?_
    refine V_iload (pc := 249) e_L_areSheets_249 rfl ?_
    refine V_iconst (pc := 251) e_L_areSheets_251 ?_
    refine V_cV2 (pc := 252) ca_8_35 e_L_areSheets_252 (by decide) (Nat.le_of_ble_eq_true rfl) (by decide) rfl (by decide) (q_paperK (x := r (37 + 3 * (m : Int))) hC (by omega) (by decide) (by rw [Int.add_zero]) (fun S hC => ?_))
    refine V_aload_n (pc := 255) e_L_areSheets_255 rfl (Or.inl ⟨_, rfl⟩) ?_
    refine V_iload (pc := 256) e_L_areSheets_256 rfl ?_
    refine V_iconst (pc := 258) e_L_areSheets_258 ?_
    refine V_cV2 (pc := 259) ca_8_35 e_L_areSheets_259 (by decide) (Nat.le_of_ble_eq_true rfl) (by decide) rfl (by decide) (q_paperK (x := r (37 + 3 * (n : Int))) hC (by omega) (by decide) (by rw [Int.add_zero]) (fun S hC => ?_))
    refine V_icmp_ne (pc := 262) e_L_areSheets_262 (by decide) (by omega) (by omega) (fun h262 => ?_) (fun h262 => ?_)
    · refine V_iconst (pc := 282) e_L_areSheets_282 ?_
      refine V_goto (pc := 283) e_L_areSheets_283 (by decide) ?_
      refine V_istore_n (pc := 287) e_L_areSheets_287 (by decide) ?_
      refine V_iinc (pc := 288) e_L_areSheets_288 rfl (by decide) ?_
      refine V_goto (pc := 291) e_L_areSheets_291 (by decide) ?_
      exact V_lq [(0, .ref 0), (2, zI (paS r (n + 1))), (3, zI 1), (4, zI ((n : Nat) : Int)), (6, zI (((m + 1) : Nat) : Int))] ⟨⟨_, rfl, rfl⟩, ⟨_, rfl, rfl⟩, ⟨_, rfl, rfl⟩, ⟨_, rfl, rfl⟩, ⟨_, rfl, rfl⟩, trivial⟩ (ih (by omega) S hC)
    · refine V_aload_n (pc := 265) e_L_areSheets_265 rfl (Or.inl ⟨_, rfl⟩) ?_
      refine V_iload (pc := 266) e_L_areSheets_266 rfl ?_
      refine V_iconst (pc := 268) e_L_areSheets_268 ?_
      refine V_cV2 (pc := 269) ca_8_35 e_L_areSheets_269 (by decide) (Nat.le_of_ble_eq_true rfl) (by decide) rfl (by decide) (q_paperK (x := r (37 + 3 * (m : Int) + 1)) hC (by omega) (by decide) rfl (fun S hC => ?_))
      refine V_aload_n (pc := 272) e_L_areSheets_272 rfl (Or.inl ⟨_, rfl⟩) ?_
      refine V_iload (pc := 273) e_L_areSheets_273 rfl ?_
      refine V_iconst (pc := 275) e_L_areSheets_275 ?_
      refine V_cV2 (pc := 276) ca_8_35 e_L_areSheets_276 (by decide) (Nat.le_of_ble_eq_true rfl) (by decide) rfl (by decide) (q_paperK (x := r (37 + 3 * (n : Int) + 1)) hC (by omega) (by decide) rfl (fun S hC => ?_))
      refine V_icmp_eq (pc := 279) e_L_areSheets_279 (by decide) (by omega) (by omega) (fun h279 => ?_) (fun h279 => ?_)
      · exfalso
        omega
      · refine V_iconst (pc := 282) e_L_areSheets_282 ?_
        refine V_goto (pc := 283) e_L_areSheets_283 (by decide) ?_
        refine V_istore_n (pc := 287) e_L_areSheets_287 (by decide) ?_
        refine V_iinc (pc := 288) e_L_areSheets_288 rfl (by decide) ?_
        refine V_goto (pc := 291) e_L_areSheets_291 (by decide) ?_
        exact V_lq [(0, .ref 0), (2, zI (paS r (n + 1))), (3, zI 1), (4, zI ((n : Nat) : Int)), (6, zI (((m + 1) : Nat) : Int))] ⟨⟨_, rfl, rfl⟩, ⟨_, rfl, rfl⟩, ⟨_, rfl, rfl⟩, ⟨_, rfl, rfl⟩, ⟨_, rfl, rfl⟩, trivial⟩ (ih (by omega) S hC)
theorem l_areSheets_173 {B : Int} {scr : Nat × (Nat → Int32)} {r : Int → Int} {sv : Int} {ρ : Int → Int → Int} {rf : Int} {Q : Option Value → Sto → Prop} (hB : B ≤ 1000000) (k : ∀ S, CL B scr S r sv ρ rf → Q (some (zI 1)) S) : ∀ n : Nat, n ≤ (r 9).toNat → ∀ S : Sto, CL B scr S r sv ρ rf → V M_L_areSheets 144 173 [(0, .ref 0), (2, zI (paS r n)), (3, zI 1), (4, zI ((n : Nat) : Int))] [] 144 S Q := by
  refine loop_nat (r 9).toNat (fun n hn ih => ?_)
  intro S hC
  obtain ⟨fa, fw, fs⟩ := hC.gi.fa hB
  have ep := hC.gi.2.1.2.1
  have p0 := ep.1
  have p1 : (n : Int) < r 9 → (1 ≤ r (37 + 3 * (n : Int) + 2) ∧ r (37 + 3 * (n : Int) + 2) < 2147483648) ∧ (0 ≤ r (37 + 3 * (n : Int)) ∧ r (37 + 3 * (n : Int)) ≤ 3) ∧ 0 ≤ r (37 + 3 * (n : Int) + 1) ∧ r (37 + 3 * (n : Int) + 1) ≤ 3 := fun z => ⟨⟨ep.2 (n : Int) (by omega) z, paS_le ep.2 (by omega) (by omega) z⟩, hC.gi.1.2.2.2.1.1 (n : Int) (by omega) z⟩
  refine V_iload (pc := 173) e_L_areSheets_173 rfl ?_
  refine V_aload_n (pc := 175) e_L_areSheets_175 rfl (Or.inl ⟨_, rfl⟩) ?_
  refine V_bipush (pc := 176) (by decide) e_L_areSheets_176 ?_
  refine V_cV1 (pc := 178) ca_8_13 e_L_areSheets_178 (by decide) (Nat.le_of_ble_eq_true rfl) (by decide) rfl (by decide) (q_count (x := r 9) hC (by decide) rfl (fun S hC => ?_))
  refine V_icmp_ge (pc := 181) e_L_areSheets_181 (by decide) (by omega) (by omega) (fun h181 => ?_) (fun h181 => ?_)
  · obtain rfl : n = (r 9).toNat := by omega
    rw [p0]
    refine V_iconst (pc := 300) e_L_areSheets_300 ?_
    refine V_istore (pc := 301) e_L_areSheets_301 (by decide) ?_
    exact V_lq [(0, .ref 0), (2, zI (r 16)), (3, zI 1), (4, zI ((0 : Nat) : Int))] ⟨⟨_, rfl, rfl⟩, ⟨_, rfl, rfl⟩, ⟨_, rfl, rfl⟩, ⟨_, rfl, rfl⟩, trivial⟩ (l_areSheets_303 hB k 0 (by decide) S hC)
  · refine V_iload_n (pc := 184) e_L_areSheets_184 rfl ?_
    refine V_if_eq (pc := 185) e_L_areSheets_185 (by decide) (by decide) (fun h => absurd h (by decide)) (fun _ => ?_)
    have p1 := p1 (by omega)
    refine V_aload_n (pc := 188) e_L_areSheets_188 rfl (Or.inl ⟨_, rfl⟩) ?_
    refine V_iload (pc := 189) e_L_areSheets_189 rfl ?_
    refine V_iconst (pc := 191) e_L_areSheets_191 ?_
    refine V_cV2 (pc := 192) ca_8_35 e_L_areSheets_192 (by decide) (Nat.le_of_ble_eq_true rfl) (by decide) rfl (by decide) (q_paperK (x := r (37 + 3 * (n : Int) + 2)) hC (by omega) (by decide) rfl (fun S hC => ?_))
    refine V_istore (pc := 195) e_L_areSheets_195 (by decide) ?_
    refine V_iload_n (pc := 197) e_L_areSheets_197 rfl ?_
    refine V_iload (pc := 198) e_L_areSheets_198 rfl ?_
    refine V_iadd (pc := 200) e_L_areSheets_200 ?_
    refine V_istore_n (pc := 201) e_L_areSheets_201 (by decide) ?_
    refine V_iload (pc := 202) e_L_areSheets_202 rfl ?_
    refine V_if_le (pc := 204) e_L_areSheets_204 (by decide) (by omega) (fun h204 => ?_) (fun h204 => ?_)
    · exfalso
      omega
    · refine V_aload_n (pc := 207) e_L_areSheets_207 rfl (Or.inl ⟨_, rfl⟩) ?_
      refine V_iload (pc := 208) e_L_areSheets_208 rfl ?_
      refine V_iconst (pc := 210) e_L_areSheets_210 ?_
      refine V_cV2 (pc := 211) ca_8_35 e_L_areSheets_211 (by decide) (Nat.le_of_ble_eq_true rfl) (by decide) rfl (by decide) (q_paperK (x := r (37 + 3 * (n : Int))) hC (by omega) (by decide) (by rw [Int.add_zero]) (fun S hC => ?_))
      refine V_if_lt (pc := 214) e_L_areSheets_214 (by decide) (by omega) (fun h214 => ?_) (fun h214 => ?_)
      · exfalso
        omega
      · refine V_aload_n (pc := 217) e_L_areSheets_217 rfl (Or.inl ⟨_, rfl⟩) ?_
        refine V_iload (pc := 218) e_L_areSheets_218 rfl ?_
        refine V_iconst (pc := 220) e_L_areSheets_220 ?_
        refine V_cV2 (pc := 221) ca_8_35 e_L_areSheets_221 (by decide) (Nat.le_of_ble_eq_true rfl) (by decide) rfl (by decide) (q_paperK (x := r (37 + 3 * (n : Int) + 1)) hC (by omega) (by decide) rfl (fun S hC => ?_))
        refine V_iconst (pc := 224) e_L_areSheets_224 ?_
        refine V_icmp_ge (pc := 225) e_L_areSheets_225 (by decide) (by omega) (by decide) (fun h225 => ?_) (fun h225 => ?_)
        · exfalso
          omega
        · refine V_iconst (pc := 228) e_L_areSheets_228 ?_
          refine V_goto (pc := 229) e_L_areSheets_229 (by decide) ?_
          refine V_istore_n (pc := 233) e_L_areSheets_233 (by decide) ?_
          refine V_iconst (pc := 234) e_L_areSheets_234 ?_
          refine V_istore (pc := 235) e_L_areSheets_235 (by decide) ?_
          refine V_lq [(0, .ref 0), (2, zI (paS r (n + 1))), (3, zI 1), (4, zI ((n : Nat) : Int)), (6, zI ((0 : Nat) : Int))] ⟨⟨_, rfl, rfl⟩, ⟨_, rfl, rfl⟩, ⟨_, rfl, rfl⟩, ⟨_, rfl, rfl⟩, ⟨_, rfl, rfl⟩, trivial⟩ (l_areSheets_237 hB (by omega) (fun S hC => ?_) 0 (by omega) S hC)
          refine V_iinc (pc := 294) e_L_areSheets_294 rfl (by decide) ?_
          refine V_goto (pc := 297) e_L_areSheets_297 (by decide) ?_
          exact V_lq [(0, .ref 0), (2, zI (paS r (n + 1))), (3, zI 1), (4, zI (((n + 1) : Nat) : Int))] ⟨⟨_, rfl, rfl⟩, ⟨_, rfl, rfl⟩, ⟨_, rfl, rfl⟩, ⟨_, rfl, rfl⟩, trivial⟩ (ih (by omega) S hC)
theorem t_areSheets_16 {B : Int} {scr : Nat × (Nat → Int32)} {r : Int → Int} {sv : Int} {ρ : Int → Int → Int} {rf : Int} {Q : Option Value → Sto → Prop} (hB : B ≤ 1000000) {S : Sto} (hC : CL B scr S r sv ρ rf) {u : Int} (hu : (r 5 = 1 ∧ u = 1) ∨ (¬ r 5 = 1 ∧ u = 0)) (k : ∀ S, CL B scr S r sv ρ rf → Q (some (zI 1)) S) : V M_L_areSheets 144 16 [(0, .ref 0), (1, zI u)] [] 144 S Q := by
  obtain ⟨fa, fw, fs⟩ := hC.gi.fa hB
  refine V_iconst (pc := 16) e_L_areSheets_16 ?_
  refine V_istore_n (pc := 17) e_L_areSheets_17 (by decide) ?_
  refine V_aload_n (pc := 18) e_L_areSheets_18 rfl (Or.inl ⟨_, rfl⟩) ?_
  refine V_iconst (pc := 19) e_L_areSheets_19 ?_
  refine V_cV1 (pc := 20) ca_8_19 e_L_areSheets_20 (by decide) (Nat.le_of_ble_eq_true rfl) (by decide) rfl (by decide) (q_accountK (x := r 16) hC (by decide) rfl (fun S hC => ?_))
  refine V_aload_n (pc := 23) e_L_areSheets_23 rfl (Or.inl ⟨_, rfl⟩) ?_
  refine V_iconst (pc := 24) e_L_areSheets_24 ?_
  refine V_cV1 (pc := 25) ca_8_19 e_L_areSheets_25 (by decide) (Nat.le_of_ble_eq_true rfl) (by decide) rfl (by decide) (q_accountK (x := r 17) hC (by decide) rfl (fun S hC => ?_))
  refine V_aload_n (pc := 28) e_L_areSheets_28 rfl (Or.inl ⟨_, rfl⟩) ?_
  refine V_iconst (pc := 29) e_L_areSheets_29 ?_
  refine V_cV1 (pc := 30) ca_8_19 e_L_areSheets_30 (by decide) (Nat.le_of_ble_eq_true rfl) (by decide) rfl (by decide) (q_accountK (x := r 18) hC (by decide) rfl (fun S hC => ?_))
  refine V_iadd (pc := 33) e_L_areSheets_33 ?_
  refine V_iload_n (pc := 34) e_L_areSheets_34 rfl ?_
  refine V_iadd (pc := 35) e_L_areSheets_35 ?_
  refine V_icmp_ne (pc := 36) e_L_areSheets_36 (by decide) (by omega) (by omega) (fun h36 => ?_) (fun h36 => ?_)
  · exfalso
    omega
  · refine V_aload_n (pc := 39) e_L_areSheets_39 rfl (Or.inl ⟨_, rfl⟩) ?_
    refine V_iconst (pc := 40) e_L_areSheets_40 ?_
    refine V_cV1 (pc := 41) ca_8_19 e_L_areSheets_41 (by decide) (Nat.le_of_ble_eq_true rfl) (by decide) rfl (by decide) (q_accountK (x := r 19) hC (by decide) rfl (fun S hC => ?_))
    refine V_aload_n (pc := 44) e_L_areSheets_44 rfl (Or.inl ⟨_, rfl⟩) ?_
    refine V_iconst (pc := 45) e_L_areSheets_45 ?_
    refine V_cV1 (pc := 46) ca_8_19 e_L_areSheets_46 (by decide) (Nat.le_of_ble_eq_true rfl) (by decide) rfl (by decide) (q_accountK (x := r 17) hC (by decide) rfl (fun S hC => ?_))
    refine V_icmp_lt (pc := 49) e_L_areSheets_49 (by decide) (by omega) (by omega) (fun h49 => ?_) (fun h49 => ?_)
    · exfalso
      omega
    · refine V_aload_n (pc := 52) e_L_areSheets_52 rfl (Or.inl ⟨_, rfl⟩) ?_
      refine V_iconst (pc := 53) e_L_areSheets_53 ?_
      refine V_cV1 (pc := 54) ca_8_19 e_L_areSheets_54 (by decide) (Nat.le_of_ble_eq_true rfl) (by decide) rfl (by decide) (q_accountK (x := r 19) hC (by decide) rfl (fun S hC => ?_))
      refine V_iconst (pc := 57) e_L_areSheets_57 ?_
      refine V_aload_n (pc := 58) e_L_areSheets_58 rfl (Or.inl ⟨_, rfl⟩) ?_
      refine V_iconst (pc := 59) e_L_areSheets_59 ?_
      refine V_cV1 (pc := 60) ca_8_19 e_L_areSheets_60 (by decide) (Nat.le_of_ble_eq_true rfl) (by decide) rfl (by decide) (q_accountK (x := r 17) hC (by decide) rfl (fun S hC => ?_))
      refine V_imul (pc := 63) e_L_areSheets_63 ?_
      refine V_icmp_gt (pc := 64) e_L_areSheets_64 (by decide) (by omega) (by omega) (fun h64 => ?_) (fun h64 => ?_)
      · exfalso
        omega
      · refine V_aload_n (pc := 67) e_L_areSheets_67 rfl (Or.inl ⟨_, rfl⟩) ?_
        refine V_iconst (pc := 68) e_L_areSheets_68 ?_
        refine V_cV1 (pc := 69) ca_8_13 e_L_areSheets_69 (by decide) (Nat.le_of_ble_eq_true rfl) (by decide) rfl (by decide) (q_count (x := r 2) hC (by decide) rfl (fun S hC => ?_))
        refine V_aload_n (pc := 72) e_L_areSheets_72 rfl (Or.inl ⟨_, rfl⟩) ?_
        refine V_iconst (pc := 73) e_L_areSheets_73 ?_
        refine V_cV1 (pc := 74) ca_8_19 e_L_areSheets_74 (by decide) (Nat.le_of_ble_eq_true rfl) (by decide) rfl (by decide) (q_accountK (x := r 17) hC (by decide) rfl (fun S hC => ?_))
        refine V_icmp_gt (pc := 77) e_L_areSheets_77 (by decide) (by omega) (by omega) (fun h77 => ?_) (fun h77 => ?_)
        · exfalso
          omega
        · refine V_aload_n (pc := 80) e_L_areSheets_80 rfl (Or.inl ⟨_, rfl⟩) ?_
          refine V_bipush (pc := 81) (by decide) e_L_areSheets_81 ?_
          refine V_cV1 (pc := 83) ca_8_19 e_L_areSheets_83 (by decide) (Nat.le_of_ble_eq_true rfl) (by decide) rfl (by decide) (q_accountK (x := r 23) hC (by decide) rfl (fun S hC => ?_))
          refine V_aload_n (pc := 86) e_L_areSheets_86 rfl (Or.inl ⟨_, rfl⟩) ?_
          refine V_bipush (pc := 87) (by decide) e_L_areSheets_87 ?_
          refine V_cV1 (pc := 89) ca_8_19 e_L_areSheets_89 (by decide) (Nat.le_of_ble_eq_true rfl) (by decide) rfl (by decide) (q_accountK (x := r 24) hC (by decide) rfl (fun S hC => ?_))
          refine V_icmp_gt (pc := 92) e_L_areSheets_92 (by decide) (by omega) (by omega) (fun h92 => ?_) (fun h92 => ?_)
          · exfalso
            omega
          · refine V_aload_n (pc := 95) e_L_areSheets_95 rfl (Or.inl ⟨_, rfl⟩) ?_
            refine V_iconst (pc := 96) e_L_areSheets_96 ?_
            refine V_cV1 (pc := 97) ca_8_13 e_L_areSheets_97 (by decide) (Nat.le_of_ble_eq_true rfl) (by decide) rfl (by decide) (q_count (x := r 3) hC (by decide) rfl (fun S hC => ?_))
            refine V_if_lt (pc := 100) e_L_areSheets_100 (by decide) (by omega) (fun h100 => ?_) (fun h100 => ?_)
            · exfalso
              omega
            · refine V_aload_n (pc := 103) e_L_areSheets_103 rfl (Or.inl ⟨_, rfl⟩) ?_
              refine V_iconst (pc := 104) e_L_areSheets_104 ?_
              refine V_cV1 (pc := 105) ca_8_13 e_L_areSheets_105 (by decide) (Nat.le_of_ble_eq_true rfl) (by decide) rfl (by decide) (q_count (x := r 4) hC (by decide) rfl (fun S hC => ?_))
              refine V_if_le (pc := 108) e_L_areSheets_108 (by decide) (by omega) (fun h108 => ?_) (fun h108 => ?_)
              · refine V_iconst (pc := 115) e_L_areSheets_115 ?_
                refine V_aload_n (pc := 116) e_L_areSheets_116 rfl (Or.inl ⟨_, rfl⟩) ?_
                refine V_bipush (pc := 117) (by decide) e_L_areSheets_117 ?_
                refine V_cV1 (pc := 119) ca_8_13 e_L_areSheets_119 (by decide) (Nat.le_of_ble_eq_true rfl) (by decide) rfl (by decide) (q_count (x := r 5) hC (by decide) rfl (fun S hC => ?_))
                refine V_if_le (pc := 122) e_L_areSheets_122 (by decide) (by omega) (fun h122 => ?_) (fun h122 => ?_)
                · refine V_iconst (pc := 129) e_L_areSheets_129 ?_
                  refine V_icmp_ne (pc := 130) e_L_areSheets_130 (by decide) (by decide) (by decide) (fun h => absurd (by decide) h) (fun _ => ?_)
                  refine V_aload_n (pc := 133) e_L_areSheets_133 rfl (Or.inl ⟨_, rfl⟩) ?_
                  refine V_bipush (pc := 134) (by decide) e_L_areSheets_134 ?_
                  refine V_cV1 (pc := 136) ca_8_13 e_L_areSheets_136 (by decide) (Nat.le_of_ble_eq_true rfl) (by decide) rfl (by decide) (q_count (x := r 5) hC (by decide) rfl (fun S hC => ?_))
                  refine V_if_le (pc := 139) e_L_areSheets_139 (by decide) (by omega) (fun h139 => ?_) (fun h139 => ?_)
                  · refine V_iconst (pc := 146) e_L_areSheets_146 ?_
                    refine V_aload_n (pc := 147) e_L_areSheets_147 rfl (Or.inl ⟨_, rfl⟩) ?_
                    refine V_bipush (pc := 148) (by decide) e_L_areSheets_148 ?_
                    refine V_cV1 (pc := 150) ca_8_13 e_L_areSheets_150 (by decide) (Nat.le_of_ble_eq_true rfl) (by decide) rfl (by decide) (q_count (x := r 6) hC (by decide) rfl (fun S hC => ?_))
                    refine V_if_lt (pc := 153) e_L_areSheets_153 (by decide) (by omega) (fun h153 => ?_) (fun h153 => ?_)
                    · refine V_iconst (pc := 160) e_L_areSheets_160 ?_
                      refine V_icmp_ne (pc := 161) e_L_areSheets_161 (by decide) (by decide) (by decide) (fun h => absurd (by decide) h) (fun _ => ?_)
                      refine V_iconst (pc := 164) e_L_areSheets_164 ?_
                      refine V_goto (pc := 165) e_L_areSheets_165 (by decide) ?_
                      refine V_istore_n (pc := 169) e_L_areSheets_169 (by decide) ?_
                      refine V_iconst (pc := 170) e_L_areSheets_170 ?_
                      refine V_istore (pc := 171) e_L_areSheets_171 (by decide) ?_
                      exact V_lq [(0, .ref 0), (2, zI (paS r 0)), (3, zI 1), (4, zI ((0 : Nat) : Int))] ⟨⟨_, rfl, rfl⟩, ⟨_, rfl, rfl⟩, ⟨_, rfl, rfl⟩, ⟨_, rfl, rfl⟩, trivial⟩ (l_areSheets_173 hB k 0 (by omega) S hC)
                    · refine V_iconst (pc := 156) e_L_areSheets_156 ?_
                      refine V_goto (pc := 157) e_L_areSheets_157 (by decide) ?_
                      refine V_icmp_ne (pc := 161) e_L_areSheets_161 (by decide) (by decide) (by decide) (fun _ => ?_) (fun h => absurd h (by decide))
                      exfalso
                      omega
                  · refine V_iconst (pc := 142) e_L_areSheets_142 ?_
                    refine V_goto (pc := 143) e_L_areSheets_143 (by decide) ?_
                    refine V_aload_n (pc := 147) e_L_areSheets_147 rfl (Or.inl ⟨_, rfl⟩) ?_
                    refine V_bipush (pc := 148) (by decide) e_L_areSheets_148 ?_
                    refine V_cV1 (pc := 150) ca_8_13 e_L_areSheets_150 (by decide) (Nat.le_of_ble_eq_true rfl) (by decide) rfl (by decide) (q_count (x := r 6) hC (by decide) rfl (fun S hC => ?_))
                    refine V_if_lt (pc := 153) e_L_areSheets_153 (by decide) (by omega) (fun h153 => ?_) (fun h153 => ?_)
                    · refine V_iconst (pc := 160) e_L_areSheets_160 ?_
                      refine V_icmp_ne (pc := 161) e_L_areSheets_161 (by decide) (by decide) (by decide) (fun _ => ?_) (fun h => absurd h (by decide))
                      exfalso
                      omega
                    · refine V_iconst (pc := 156) e_L_areSheets_156 ?_
                      refine V_goto (pc := 157) e_L_areSheets_157 (by decide) ?_
                      refine V_icmp_ne (pc := 161) e_L_areSheets_161 (by decide) (by decide) (by decide) (fun h => absurd (by decide) h) (fun _ => ?_)
                      refine V_iconst (pc := 164) e_L_areSheets_164 ?_
                      refine V_goto (pc := 165) e_L_areSheets_165 (by decide) ?_
                      refine V_istore_n (pc := 169) e_L_areSheets_169 (by decide) ?_
                      refine V_iconst (pc := 170) e_L_areSheets_170 ?_
                      refine V_istore (pc := 171) e_L_areSheets_171 (by decide) ?_
                      exact V_lq [(0, .ref 0), (2, zI (paS r 0)), (3, zI 1), (4, zI ((0 : Nat) : Int))] ⟨⟨_, rfl, rfl⟩, ⟨_, rfl, rfl⟩, ⟨_, rfl, rfl⟩, ⟨_, rfl, rfl⟩, trivial⟩ (l_areSheets_173 hB k 0 (by omega) S hC)
                · refine V_iconst (pc := 125) e_L_areSheets_125 ?_
                  refine V_goto (pc := 126) e_L_areSheets_126 (by decide) ?_
                  refine V_icmp_ne (pc := 130) e_L_areSheets_130 (by decide) (by decide) (by decide) (fun _ => ?_) (fun h => absurd h (by decide))
                  exfalso
                  omega
              · refine V_iconst (pc := 111) e_L_areSheets_111 ?_
                refine V_goto (pc := 112) e_L_areSheets_112 (by decide) ?_
                refine V_aload_n (pc := 116) e_L_areSheets_116 rfl (Or.inl ⟨_, rfl⟩) ?_
                refine V_bipush (pc := 117) (by decide) e_L_areSheets_117 ?_
                refine V_cV1 (pc := 119) ca_8_13 e_L_areSheets_119 (by decide) (Nat.le_of_ble_eq_true rfl) (by decide) rfl (by decide) (q_count (x := r 5) hC (by decide) rfl (fun S hC => ?_))
                refine V_if_le (pc := 122) e_L_areSheets_122 (by decide) (by omega) (fun h122 => ?_) (fun h122 => ?_)
                · refine V_iconst (pc := 129) e_L_areSheets_129 ?_
                  refine V_icmp_ne (pc := 130) e_L_areSheets_130 (by decide) (by decide) (by decide) (fun _ => ?_) (fun h => absurd h (by decide))
                  exfalso
                  omega
                · refine V_iconst (pc := 125) e_L_areSheets_125 ?_
                  refine V_goto (pc := 126) e_L_areSheets_126 (by decide) ?_
                  refine V_icmp_ne (pc := 130) e_L_areSheets_130 (by decide) (by decide) (by decide) (fun h => absurd (by decide) h) (fun _ => ?_)
                  refine V_aload_n (pc := 133) e_L_areSheets_133 rfl (Or.inl ⟨_, rfl⟩) ?_
                  refine V_bipush (pc := 134) (by decide) e_L_areSheets_134 ?_
                  refine V_cV1 (pc := 136) ca_8_13 e_L_areSheets_136 (by decide) (Nat.le_of_ble_eq_true rfl) (by decide) rfl (by decide) (q_count (x := r 5) hC (by decide) rfl (fun S hC => ?_))
                  refine V_if_le (pc := 139) e_L_areSheets_139 (by decide) (by omega) (fun h139 => ?_) (fun h139 => ?_)
                  · refine V_iconst (pc := 146) e_L_areSheets_146 ?_
                    refine V_aload_n (pc := 147) e_L_areSheets_147 rfl (Or.inl ⟨_, rfl⟩) ?_
                    refine V_bipush (pc := 148) (by decide) e_L_areSheets_148 ?_
                    refine V_cV1 (pc := 150) ca_8_13 e_L_areSheets_150 (by decide) (Nat.le_of_ble_eq_true rfl) (by decide) rfl (by decide) (q_count (x := r 6) hC (by decide) rfl (fun S hC => ?_))
                    refine V_if_lt (pc := 153) e_L_areSheets_153 (by decide) (by omega) (fun h153 => ?_) (fun h153 => ?_)
                    · refine V_iconst (pc := 160) e_L_areSheets_160 ?_
                      refine V_icmp_ne (pc := 161) e_L_areSheets_161 (by decide) (by decide) (by decide) (fun h => absurd (by decide) h) (fun _ => ?_)
                      refine V_iconst (pc := 164) e_L_areSheets_164 ?_
                      refine V_goto (pc := 165) e_L_areSheets_165 (by decide) ?_
                      refine V_istore_n (pc := 169) e_L_areSheets_169 (by decide) ?_
                      refine V_iconst (pc := 170) e_L_areSheets_170 ?_
                      refine V_istore (pc := 171) e_L_areSheets_171 (by decide) ?_
                      exact V_lq [(0, .ref 0), (2, zI (paS r 0)), (3, zI 1), (4, zI ((0 : Nat) : Int))] ⟨⟨_, rfl, rfl⟩, ⟨_, rfl, rfl⟩, ⟨_, rfl, rfl⟩, ⟨_, rfl, rfl⟩, trivial⟩ (l_areSheets_173 hB k 0 (by omega) S hC)
                    · refine V_iconst (pc := 156) e_L_areSheets_156 ?_
                      refine V_goto (pc := 157) e_L_areSheets_157 (by decide) ?_
                      refine V_icmp_ne (pc := 161) e_L_areSheets_161 (by decide) (by decide) (by decide) (fun _ => ?_) (fun h => absurd h (by decide))
                      exfalso
                      omega
                  · refine V_iconst (pc := 142) e_L_areSheets_142 ?_
                    refine V_goto (pc := 143) e_L_areSheets_143 (by decide) ?_
                    refine V_aload_n (pc := 147) e_L_areSheets_147 rfl (Or.inl ⟨_, rfl⟩) ?_
                    refine V_bipush (pc := 148) (by decide) e_L_areSheets_148 ?_
                    refine V_cV1 (pc := 150) ca_8_13 e_L_areSheets_150 (by decide) (Nat.le_of_ble_eq_true rfl) (by decide) rfl (by decide) (q_count (x := r 6) hC (by decide) rfl (fun S hC => ?_))
                    refine V_if_lt (pc := 153) e_L_areSheets_153 (by decide) (by omega) (fun h153 => ?_) (fun h153 => ?_)
                    · refine V_iconst (pc := 160) e_L_areSheets_160 ?_
                      refine V_icmp_ne (pc := 161) e_L_areSheets_161 (by decide) (by decide) (by decide) (fun _ => ?_) (fun h => absurd h (by decide))
                      exfalso
                      omega
                    · refine V_iconst (pc := 156) e_L_areSheets_156 ?_
                      refine V_goto (pc := 157) e_L_areSheets_157 (by decide) ?_
                      refine V_icmp_ne (pc := 161) e_L_areSheets_161 (by decide) (by decide) (by decide) (fun h => absurd (by decide) h) (fun _ => ?_)
                      refine V_iconst (pc := 164) e_L_areSheets_164 ?_
                      refine V_goto (pc := 165) e_L_areSheets_165 (by decide) ?_
                      refine V_istore_n (pc := 169) e_L_areSheets_169 (by decide) ?_
                      refine V_iconst (pc := 170) e_L_areSheets_170 ?_
                      refine V_istore (pc := 171) e_L_areSheets_171 (by decide) ?_
                      exact V_lq [(0, .ref 0), (2, zI (paS r 0)), (3, zI 1), (4, zI ((0 : Nat) : Int))] ⟨⟨_, rfl, rfl⟩, ⟨_, rfl, rfl⟩, ⟨_, rfl, rfl⟩, ⟨_, rfl, rfl⟩, trivial⟩ (l_areSheets_173 hB k 0 (by omega) S hC)
theorem c_L_areSheets {B : Int} {scr : Nat × (Nat → Int32)} {r : Int → Int} {sv : Int} {ρ : Int → Int → Int} {rf : Int} {Q : Option Value → Sto → Prop} {S : Sto} (hC : CL B scr S r sv ρ rf) (hB : B ≤ 1000000) (k : ∀ S, CL B scr S r sv ρ rf → Q (some (zI 1)) S) : Con M_L_areSheets 144 144 S [.ref 0] Q := by
  refine V_entry ok_L_areSheets (Nat.le_refl _) (Nat.le_of_ble_eq_true rfl) (V_ls [(0, .ref 0)] ⟨rfl, trivial⟩ ?_)
  obtain ⟨fa, fw, fs⟩ := hC.gi.fa hB
  refine V_aload_n (pc := 0) e_L_areSheets_0 rfl (Or.inl ⟨_, rfl⟩) ?_
  refine V_bipush (pc := 1) (by decide) e_L_areSheets_1 ?_
  refine V_cV1 (pc := 3) ca_8_13 e_L_areSheets_3 (by decide) (Nat.le_of_ble_eq_true rfl) (by decide) rfl (by decide) (q_count (x := r 5) hC (by decide) rfl (fun S hC => ?_))
  refine V_iconst (pc := 6) e_L_areSheets_6 ?_
  refine V_icmp_ne (pc := 7) e_L_areSheets_7 (by decide) (by omega) (by decide) (fun h7 => ?_) (fun h7 => ?_)
  · refine V_iconst (pc := 14) e_L_areSheets_14 ?_
    refine V_istore_n (pc := 15) e_L_areSheets_15 (by decide) ?_
    exact V_lq [(0, .ref 0), (1, zI 0)] ⟨⟨_, rfl, rfl⟩, ⟨_, rfl, rfl⟩, trivial⟩ (t_areSheets_16 hB hC (u := 0) (Or.inr ⟨by omega, rfl⟩) k)
  · refine V_iconst (pc := 10) e_L_areSheets_10 ?_
    refine V_goto (pc := 11) e_L_areSheets_11 (by decide) ?_
    refine V_istore_n (pc := 15) e_L_areSheets_15 (by decide) ?_
    exact V_lq [(0, .ref 0), (1, zI 1)] ⟨⟨_, rfl, rfl⟩, ⟨_, rfl, rfl⟩, trivial⟩ (t_areSheets_16 hB hC (u := 1) (Or.inl ⟨by omega, rfl⟩) k)
