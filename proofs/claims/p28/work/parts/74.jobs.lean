/-! the law: the jobs -/
theorem RI.jk {r : Int → Int} (h : RI r) {k : Int} (hk : 0 ≤ k ∧ k < r 0) : ((1 ≤ jf r k 1 ∧ jf r k 1 ≤ 200) ∧ (1 ≤ jf r k 2 ∧ jf r k 2 ≤ 50) ∧ (0 ≤ jf r k 5 ∧ jf r k 5 ≤ 11) ∧ (0 ≤ jf r k 6 ∧ jf r k 6 ≤ 9) ∧ (0 ≤ jf r k 7 ∧ jf r k 7 ≤ 1) ∧ (0 ≤ jf r k 8 ∧ jf r k 8 ≤ als r k) ∧ (0 ≤ jf r k 9 ∧ jf r k 9 ≤ jf r k 2) ∧ (1 ≤ sst r k ∧ sst r k ≤ 200) ∧ (1 ≤ als r k ∧ als r k ≤ 10000) ∧ als r k = sst r k * jf r k 2 ∧ (0 ≤ jf r k 0 ∧ jf r k 0 < r 1)) ∧ ((jf r k 5 < 4 ∧ jf r k 9 = 0) ∨ (4 ≤ jf r k 5 ∧ jf r k 5 / 2 % 2 = 1 ∧ jf r k 9 ≤ jf r k 8 / sst r k)) ∧ ¬ (jf r k 8 = als r k ∧ (jf r k 5 / 4 = 0 ∨ jf r k 9 = jf r k 2)) ∧ ((jf r k 5 / 2 % 2 = 1 ∧ nsh r k = jf r k 8 % sst r k ∧ ncp r k = jf r k 8 / sst r k) ∨ (¬ jf r k 5 / 2 % 2 = 1 ∧ nsh r k = jf r k 8 / jf r k 2 ∧ ncp r k = jf r k 8 % jf r k 2)) ∧ (0 ≤ jf r k 8 / sst r k ∧ jf r k 8 / sst r k ≤ 10000) ∧ (0 ≤ nsh r k ∧ nsh r k ≤ 10000) ∧ (0 ≤ ncp r k ∧ ncp r k ≤ 10000) := by
  obtain ⟨jb, ⟨j1, j2, j3⟩, ⟨j4, j5⟩, j6, j7⟩ := h.2.2.2.2.2.1 k hk.1 hk.2
  have s := sst_rg jb
  have a := als_rg jb
  unfold JB at jb
  have d1 := dv_rg (x := jf r k 8) (y := sst r k) (by omega) (by omega)
  have d2 := dv_rg (x := jf r k 8) (y := jf r k 2) (by omega) (by omega)
  have n1 : (jf r k 5 / 2 % 2 = 1 ∧ nsh r k = jf r k 8 % sst r k ∧ ncp r k = jf r k 8 / sst r k) ∨ (¬ jf r k 5 / 2 % 2 = 1 ∧ nsh r k = jf r k 8 / jf r k 2 ∧ ncp r k = jf r k 8 % jf r k 2) := by
    unfold nsh ncp
    by_cases z : jf r k 5 / 2 % 2 = 1
    · rw [if_pos z, if_pos z]
      exact Or.inl ⟨z, rfl, rfl⟩
    · rw [if_neg z, if_neg z]
      exact Or.inr ⟨z, rfl, rfl⟩
  have n2 : (jf r k 5 < 4 ∧ jf r k 9 = 0) ∨ (4 ≤ jf r k 5 ∧ jf r k 5 / 2 % 2 = 1 ∧ jf r k 9 ≤ jf r k 8 / sst r k) := by
    by_cases z : jf r k 5 < 4
    · exact Or.inl ⟨z, j3 z⟩
    · have y := j2 (by omega)
      exact Or.inr ⟨by omega, y.1, y.2.2.2⟩
  refine ⟨⟨by omega, by omega, by omega, by omega, by omega, by omega, by omega, s, a, rfl, by omega⟩, n2, j6, n1, by omega, ?_, ?_⟩
  · rcases n1 with z | z <;> omega
  · rcases n1 with z | z <;> omega
theorem hq_work {r : Int → Int} (h : RI r) (e : EI r) (h5 : ¬ r 5 = 0) : (0 ≤ plc r (r 6) ∧ plc r (r 6) < r 0) ∧ jf r (plc r (r 6)) 7 = 0 ∧ (r 5 = 1 → quF r 0 (r 0).toNat 0 = r 6) := by
  have wi := h.2.2.2.2.2.2
  unfold WI at wi
  rcases plc_sp r (r 6) with a | ⟨a, b, c, -⟩
  · omega
  · have hh := (e.2.2 _ a b).2 h5 c
    refine ⟨⟨a, b⟩, hh, fun z => ?_⟩
    have e7 := (e.1.1.1 z).2
    have q := qu_k h ⟨a, b⟩ (r 0).toNat 0 (by omega) (by omega)
    rw [rk_stay h ⟨a, b⟩ (by omega) hh, c] at q
    exact q
theorem tel_11l {r : Int → Int} {k : Int} (h : jf r k 8 = als r k) : telF r k 11 = -4 := (show telF r k 11 = if jf r k 8 = als r k then -4 else nsh r k from rfl).trans (if_pos h)
theorem tel_11n {r : Int → Int} {k : Int} (h : ¬ jf r k 8 = als r k) : telF r k 11 = nsh r k := (show telF r k 11 = if jf r k 8 = als r k then -4 else nsh r k from rfl).trans (if_neg h)
theorem tel_12l {r : Int → Int} {k : Int} (h : jf r k 8 = als r k) : telF r k 12 = -4 := (show telF r k 12 = if jf r k 8 = als r k then -4 else ncp r k from rfl).trans (if_pos h)
theorem tel_12n {r : Int → Int} {k : Int} (h : ¬ jf r k 8 = als r k) : telF r k 12 = ncp r k := (show telF r k 12 = if jf r k 8 = als r k then -4 else ncp r k from rfl).trans (if_neg h)
section JOBS
variable {B : Int} {scr : Nat × (Nat → Int32)} {S : Sto} {r : Int → Int} {sv : Int} {ρ : Int → Int → Int} {rf : Int} {Q : Option Value → Sto → Prop}
theorem q_queuedP (h : CL B scr S r sv ρ rf) {t : Int} (ht : 0 ≤ t ∧ t < r 0) (k : ∀ S', CL B scr S' r sv ρ rf → Q (some (zI (jf r (quP r t) 0))) S') : Con M_X7_queued 144 144 S [.ref 0, zI t] Q := by
  have n := h.gi.ni
  refine q_queued h (by omega) (fun g => absurd g (by omega)) (fun _ => ?_)
  rw [(qu_at h.gi.1 ht).2.2]
  exact k
theorem q_jobK (h : CL B scr S r sv ρ rf) {p w x : Int} (hp : 0 ≤ p ∧ p < r 0) (hw : 0 ≤ w ∧ w ≤ 12) (hx : telF r p w = x) (k : ∀ S', CL B scr S' r sv ρ rf → Q (some (zI x)) S') : Con M_X7_jobInfo 144 144 S [.ref 0, zI (jf r p 0), zI w] Q := by
  have j := (h.gi.1.jk hp).1.2.2.2.2.2.2.2.2.2.2
  have n := h.gi.1.1
  unfold NI at n
  have e := plc_self h.gi.1.2.2.2.2.1 hp
  refine q_jobInfo h (by omega) (by omega) (fun g => absurd (show 0 ≤ jf r p 0 ∧ 0 ≤ w ∧ w ≤ 12 by omega) g) (fun _ g => absurd g (by omega)) (fun _ _ => ?_)
  rw [e, hx]
  exact k
theorem q_jobW (h : CL B scr S r sv ρ rf) (h5 : ¬ r 5 = 0) (k : ∀ S', CL B scr S' r sv ρ rf → Q (some (zI 0)) S') : Con M_X7_jobInfo 144 144 S [.ref 0, zI (r 6), zI 6] Q := by
  have w := hq_work h.gi.1 h.gi.2.1 h5
  have c : jf r (plc r (r 6)) 0 = r 6 := by
    rcases plc_sp r (r 6) with a | a
    · omega
    · exact a.2.2.1
  have g := q_jobK (Q := Q) h w.1 (w := 6) (x := 0) (by decide) w.2.1 k
  rw [c] at g
  exact g
end JOBS
theorem t_areJobs_442 {B : Int} {scr : Nat × (Nat → Int32)} {r : Int → Int} {sv : Int} {ρ : Int → Int → Int} {rf : Int} {Q : Option Value → Sto → Prop} (hB : B ≤ 1000000) {S : Sto} (hC : CL B scr S r sv ρ rf) (k : ∀ S, CL B scr S r sv ρ rf → Q (some (zI 1)) S) : V M_L_areJobs 144 442 [(0, .ref 0), (1, zI (hqS r (r 0).toNat)), (2, zI 1)] [] 144 S Q := by
  obtain ⟨fa, fw, fs⟩ := hC.gi.fa hB
  have hh := hqS_hd hC.gi.1
  have hg := hqS_rg hC.gi.1 (r 0).toNat (by omega)
  have hw : r 5 = 1 → quF r 0 (r 0).toNat 0 = r 6 := fun z => (hq_work hC.gi.1 hC.gi.2.1 (by omega)).2.2 z
  refine V_iload_n (pc := 442) e_L_areJobs_442 rfl ?_
  refine V_if_eq (pc := 443) e_L_areJobs_443 (by decide) (by decide) (fun h => absurd h (by decide)) (fun _ => ?_)
  refine V_iload_n (pc := 446) e_L_areJobs_446 rfl ?_
  refine V_aload_n (pc := 447) e_L_areJobs_447 rfl (Or.inl ⟨_, rfl⟩) ?_
  refine V_iconst (pc := 448) e_L_areJobs_448 ?_
  refine V_cV1 (pc := 449) ca_8_13 e_L_areJobs_449 (by decide) (Nat.le_of_ble_eq_true rfl) (by decide) rfl (by decide) (q_count (x := hdN r (r 0).toNat) hC (by decide) rfl (fun S hC => ?_))
  refine V_icmp_ne (pc := 452) e_L_areJobs_452 (by decide) (by omega) (by omega) (fun h452 => ?_) (fun h452 => ?_)
  · exfalso
    omega
  · refine V_aload_n (pc := 455) e_L_areJobs_455 rfl (Or.inl ⟨_, rfl⟩) ?_
    refine V_bipush (pc := 456) (by decide) e_L_areJobs_456 ?_
    refine V_cV1 (pc := 458) ca_8_13 e_L_areJobs_458 (by decide) (Nat.le_of_ble_eq_true rfl) (by decide) rfl (by decide) (q_count (x := r 6) hC (by decide) rfl (fun S hC => ?_))
    refine V_bipush (pc := 461) (by decide) e_L_areJobs_461 ?_
    refine V_icmp_eq (pc := 463) e_L_areJobs_463 (by decide) (by omega) (by decide) (fun h463 => ?_) (fun h463 => ?_)
    · refine V_iconst (pc := 505) e_L_areJobs_505 ?_
      refine V_goto (pc := 506) e_L_areJobs_506 (by decide) ?_
      refine V_ret (pc := 510) (v := some (zI _)) ⟨e_L_areJobs_510, _, rfl, by decide⟩ ?_
      exact k S hC
    · refine V_aload_n (pc := 466) e_L_areJobs_466 rfl (Or.inl ⟨_, rfl⟩) ?_
      refine V_bipush (pc := 467) (by decide) e_L_areJobs_467 ?_
      refine V_cV1 (pc := 469) ca_8_13 e_L_areJobs_469 (by decide) (Nat.le_of_ble_eq_true rfl) (by decide) rfl (by decide) (q_count (x := r 5) hC (by decide) rfl (fun S hC => ?_))
      refine V_iconst (pc := 472) e_L_areJobs_472 ?_
      refine V_icmp_eq (pc := 473) e_L_areJobs_473 (by decide) (by omega) (by decide) (fun h473 => ?_) (fun h473 => ?_)
      · refine V_aload_n (pc := 490) e_L_areJobs_490 rfl (Or.inl ⟨_, rfl⟩) ?_
        refine V_aload_n (pc := 491) e_L_areJobs_491 rfl (Or.inl ⟨_, rfl⟩) ?_
        refine V_bipush (pc := 492) (by decide) e_L_areJobs_492 ?_
        refine V_cV1 (pc := 494) ca_8_13 e_L_areJobs_494 (by decide) (Nat.le_of_ble_eq_true rfl) (by decide) rfl (by decide) (q_count (x := r 6) hC (by decide) rfl (fun S hC => ?_))
        refine V_bipush (pc := 497) (by decide) e_L_areJobs_497 ?_
        refine V_cV2 (pc := 499) ca_8_25 e_L_areJobs_499 (by decide) (Nat.le_of_ble_eq_true rfl) (by decide) rfl (by decide) (q_jobW hC (by omega) (fun S hC => ?_))
        refine V_if_ne (pc := 502) e_L_areJobs_502 (by decide) (by decide) (fun h => absurd (by decide) h) (fun _ => ?_)
        refine V_iconst (pc := 505) e_L_areJobs_505 ?_
        refine V_goto (pc := 506) e_L_areJobs_506 (by decide) ?_
        refine V_ret (pc := 510) (v := some (zI _)) ⟨e_L_areJobs_510, _, rfl, by decide⟩ ?_
        exact k S hC
      · have hw := hw (by omega)
        refine V_aload_n (pc := 476) e_L_areJobs_476 rfl (Or.inl ⟨_, rfl⟩) ?_
        refine V_bipush (pc := 477) (by decide) e_L_areJobs_477 ?_
        refine V_cV1 (pc := 479) ca_8_13 e_L_areJobs_479 (by decide) (Nat.le_of_ble_eq_true rfl) (by decide) rfl (by decide) (q_count (x := r 6) hC (by decide) rfl (fun S hC => ?_))
        refine V_aload_n (pc := 482) e_L_areJobs_482 rfl (Or.inl ⟨_, rfl⟩) ?_
        refine V_iconst (pc := 483) e_L_areJobs_483 ?_
        refine V_cV1 (pc := 484) ca_8_22 e_L_areJobs_484 (by decide) (Nat.le_of_ble_eq_true rfl) (by decide) rfl (by decide) (q_queued hC (by decide) (fun g => absurd g (by decide)) (fun _ S hC => ?_))
        refine V_icmp_ne (pc := 487) e_L_areJobs_487 (by decide) (by omega) (by omega) (fun h487 => ?_) (fun h487 => ?_)
        · exfalso
          omega
        · refine V_aload_n (pc := 490) e_L_areJobs_490 rfl (Or.inl ⟨_, rfl⟩) ?_
          refine V_aload_n (pc := 491) e_L_areJobs_491 rfl (Or.inl ⟨_, rfl⟩) ?_
          refine V_bipush (pc := 492) (by decide) e_L_areJobs_492 ?_
          refine V_cV1 (pc := 494) ca_8_13 e_L_areJobs_494 (by decide) (Nat.le_of_ble_eq_true rfl) (by decide) rfl (by decide) (q_count (x := r 6) hC (by decide) rfl (fun S hC => ?_))
          refine V_bipush (pc := 497) (by decide) e_L_areJobs_497 ?_
          refine V_cV2 (pc := 499) ca_8_25 e_L_areJobs_499 (by decide) (Nat.le_of_ble_eq_true rfl) (by decide) rfl (by decide) (q_jobW hC (by omega) (fun S hC => ?_))
          refine V_if_ne (pc := 502) e_L_areJobs_502 (by decide) (by decide) (fun h => absurd (by decide) h) (fun _ => ?_)
          refine V_iconst (pc := 505) e_L_areJobs_505 ?_
          refine V_goto (pc := 506) e_L_areJobs_506 (by decide) ?_
          refine V_ret (pc := 510) (v := some (zI _)) ⟨e_L_areJobs_510, _, rfl, by decide⟩ ?_
          exact k S hC
theorem t_areJobs_333 {B : Int} {scr : Nat × (Nat → Int32)} {r : Int → Int} {sv : Int} {ρ : Int → Int → Int} {rf : Int} {Q : Option Value → Sto → Prop} (hB : B ≤ 1000000) {S : Sto} (hC : CL B scr S r sv ρ rf) {n : Nat} (hn : (n : Int) < r 0) (k : ∀ S, CL B scr S r sv ρ rf → V M_L_areJobs 144 24 [(0, .ref 0), (1, zI (hqS r (n + 1))), (2, zI 1), (3, zI (((n + 1) : Nat) : Int))] [] 144 S Q) : V M_L_areJobs 144 333 [(0, .ref 0), (1, zI (hqS r (n + 1))), (2, zI 1), (3, zI ((n : Nat) : Int)), (4, zI (jf r (quP r (n : Int)) 0))] [] 144 S Q := by
  obtain ⟨fa, fw, fs⟩ := hC.gi.fa hB
  have qa := qu_at hC.gi.1 (t := (n : Int)) ⟨by omega, hn⟩
  obtain ⟨ja, jb, jc, jd, je, jg, ji⟩ := hC.gi.1.jk qa.1
  refine V_iload_n (pc := 333) e_L_areJobs_333 rfl ?_
  refine V_if_eq (pc := 334) e_L_areJobs_334 (by decide) (by decide) (fun h => absurd h (by decide)) (fun _ => ?_)
  refine V_iload_n (pc := 337) e_L_areJobs_337 rfl ?_
  refine V_if_le (pc := 338) e_L_areJobs_338 (by decide) (by omega) (fun h338 => ?_) (fun h338 => ?_)
  · refine V_iinc (pc := 436) e_L_areJobs_436 rfl (by decide) ?_
    refine V_goto (pc := 439) e_L_areJobs_439 (by decide) ?_
    exact V_lq [(0, .ref 0), (1, zI (hqS r (n + 1))), (2, zI 1), (3, zI (((n + 1) : Nat) : Int))] ⟨⟨_, rfl, rfl⟩, ⟨_, rfl, rfl⟩, ⟨_, rfl, rfl⟩, ⟨_, rfl, rfl⟩, trivial⟩ (k S hC)
  · have qb := qu_at hC.gi.1 (t := (n : Int) - 1) (by omega)
    obtain ⟨jaa, -⟩ := hC.gi.1.jk qb.1
    have qt := qu_two hC.gi.1 hC.gi.2.1 (t := (n : Int)) (by omega)
    refine V_aload_n (pc := 341) e_L_areJobs_341 rfl (Or.inl ⟨_, rfl⟩) ?_
    refine V_iload_n (pc := 342) e_L_areJobs_342 rfl ?_
    refine V_iconst (pc := 343) e_L_areJobs_343 ?_
    refine V_isub (pc := 344) e_L_areJobs_344 ?_
    refine V_cV1 (pc := 345) ca_8_22 e_L_areJobs_345 (by decide) (Nat.le_of_ble_eq_true rfl) (by decide) rfl (by decide) (q_queuedP (t := (n : Int) - 1) hC (by omega) (fun S hC => ?_))
    refine V_istore (pc := 348) e_L_areJobs_348 (by decide) ?_
    refine V_aload_n (pc := 350) e_L_areJobs_350 rfl (Or.inl ⟨_, rfl⟩) ?_
    refine V_iload (pc := 351) e_L_areJobs_351 rfl ?_
    refine V_bipush (pc := 353) (by decide) e_L_areJobs_353 ?_
    refine V_cV2 (pc := 355) ca_8_25 e_L_areJobs_355 (by decide) (Nat.le_of_ble_eq_true rfl) (by decide) rfl (by decide) (q_jobK (p := (quP r (n : Int))) (x := jf r (quP r (n : Int)) 7) hC qa.1 (by decide) rfl (fun S hC => ?_))
    refine V_aload_n (pc := 358) e_L_areJobs_358 rfl (Or.inl ⟨_, rfl⟩) ?_
    refine V_iload (pc := 359) e_L_areJobs_359 rfl ?_
    refine V_bipush (pc := 361) (by decide) e_L_areJobs_361 ?_
    refine V_cV2 (pc := 363) ca_8_25 e_L_areJobs_363 (by decide) (Nat.le_of_ble_eq_true rfl) (by decide) rfl (by decide) (q_jobK (p := (quP r ((n : Int) - 1))) (x := jf r (quP r ((n : Int) - 1)) 7) hC qb.1 (by decide) rfl (fun S hC => ?_))
    refine V_isub (pc := 366) e_L_areJobs_366 ?_
    refine V_istore (pc := 367) e_L_areJobs_367 (by decide) ?_
    refine V_aload_n (pc := 369) e_L_areJobs_369 rfl (Or.inl ⟨_, rfl⟩) ?_
    refine V_iload (pc := 370) e_L_areJobs_370 rfl ?_
    refine V_iconst (pc := 372) e_L_areJobs_372 ?_
    refine V_cV2 (pc := 373) ca_8_25 e_L_areJobs_373 (by decide) (Nat.le_of_ble_eq_true rfl) (by decide) rfl (by decide) (q_jobK (p := (quP r ((n : Int) - 1))) (x := jf r (quP r ((n : Int) - 1)) 6) hC qb.1 (by decide) rfl (fun S hC => ?_))
    refine V_aload_n (pc := 376) e_L_areJobs_376 rfl (Or.inl ⟨_, rfl⟩) ?_
    refine V_iload (pc := 377) e_L_areJobs_377 rfl ?_
    refine V_iconst (pc := 379) e_L_areJobs_379 ?_
    refine V_cV2 (pc := 380) ca_8_25 e_L_areJobs_380 (by decide) (Nat.le_of_ble_eq_true rfl) (by decide) rfl (by decide) (q_jobK (p := (quP r (n : Int))) (x := jf r (quP r (n : Int)) 6) hC qa.1 (by decide) rfl (fun S hC => ?_))
    refine V_isub (pc := 383) e_L_areJobs_383 ?_
    refine V_istore (pc := 384) e_L_areJobs_384 (by decide) ?_
    refine V_iload (pc := 386) e_L_areJobs_386 rfl ?_
    refine V_iconst (pc := 388) e_L_areJobs_388 ?_
    refine V_icmp_eq (pc := 389) e_L_areJobs_389 (by decide) (by omega) (by decide) (fun h389 => ?_) (fun h389 => ?_)
    · refine V_iconst (pc := 430) e_L_areJobs_430 ?_
      refine V_goto (pc := 431) e_L_areJobs_431 (by decide) ?_
      refine V_istore_n (pc := 435) e_L_areJobs_435 (by decide) ?_
      refine V_iinc (pc := 436) e_L_areJobs_436 rfl (by decide) ?_
      refine V_goto (pc := 439) e_L_areJobs_439 (by decide) ?_
      exact V_lq [(0, .ref 0), (1, zI (hqS r (n + 1))), (2, zI 1), (3, zI (((n + 1) : Nat) : Int))] ⟨⟨_, rfl, rfl⟩, ⟨_, rfl, rfl⟩, ⟨_, rfl, rfl⟩, ⟨_, rfl, rfl⟩, trivial⟩ (k S hC)
    · refine V_iload (pc := 392) e_L_areJobs_392 rfl ?_
      refine V_if_ne (pc := 394) e_L_areJobs_394 (by decide) (by omega) (fun h394 => ?_) (fun h394 => ?_)
      · exfalso
        omega
      · refine V_iload (pc := 397) e_L_areJobs_397 rfl ?_
        refine V_if_gt (pc := 399) e_L_areJobs_399 (by decide) (by omega) (fun h399 => ?_) (fun h399 => ?_)
        · refine V_iconst (pc := 430) e_L_areJobs_430 ?_
          refine V_goto (pc := 431) e_L_areJobs_431 (by decide) ?_
          refine V_istore_n (pc := 435) e_L_areJobs_435 (by decide) ?_
          refine V_iinc (pc := 436) e_L_areJobs_436 rfl (by decide) ?_
          refine V_goto (pc := 439) e_L_areJobs_439 (by decide) ?_
          exact V_lq [(0, .ref 0), (1, zI (hqS r (n + 1))), (2, zI 1), (3, zI (((n + 1) : Nat) : Int))] ⟨⟨_, rfl, rfl⟩, ⟨_, rfl, rfl⟩, ⟨_, rfl, rfl⟩, ⟨_, rfl, rfl⟩, trivial⟩ (k S hC)
        · refine V_iload (pc := 402) e_L_areJobs_402 rfl ?_
          refine V_if_ne (pc := 404) e_L_areJobs_404 (by decide) (by omega) (fun h404 => ?_) (fun h404 => ?_)
          · refine V_iload_n (pc := 414) e_L_areJobs_414 rfl ?_
            refine V_iconst (pc := 415) e_L_areJobs_415 ?_
            refine V_icmp_ne (pc := 416) e_L_areJobs_416 (by decide) (by omega) (by decide) (fun h416 => ?_) (fun h416 => ?_)
            · exfalso
              omega
            · refine V_aload_n (pc := 419) e_L_areJobs_419 rfl (Or.inl ⟨_, rfl⟩) ?_
              refine V_iload (pc := 420) e_L_areJobs_420 rfl ?_
              refine V_bipush (pc := 422) (by decide) e_L_areJobs_422 ?_
              refine V_cV2 (pc := 424) ca_8_25 e_L_areJobs_424 (by decide) (Nat.le_of_ble_eq_true rfl) (by decide) rfl (by decide) (q_jobK (p := (quP r ((n : Int) - 1))) (x := jf r (quP r ((n : Int) - 1)) 7) hC qb.1 (by decide) rfl (fun S hC => ?_))
              refine V_if_ne (pc := 427) e_L_areJobs_427 (by decide) (by omega) (fun h427 => ?_) (fun h427 => ?_)
              · exfalso
                omega
              · refine V_iconst (pc := 430) e_L_areJobs_430 ?_
                refine V_goto (pc := 431) e_L_areJobs_431 (by decide) ?_
                refine V_istore_n (pc := 435) e_L_areJobs_435 (by decide) ?_
                refine V_iinc (pc := 436) e_L_areJobs_436 rfl (by decide) ?_
                refine V_goto (pc := 439) e_L_areJobs_439 (by decide) ?_
                exact V_lq [(0, .ref 0), (1, zI (hqS r (n + 1))), (2, zI 1), (3, zI (((n + 1) : Nat) : Int))] ⟨⟨_, rfl, rfl⟩, ⟨_, rfl, rfl⟩, ⟨_, rfl, rfl⟩, ⟨_, rfl, rfl⟩, trivial⟩ (k S hC)
          · refine V_iload (pc := 407) e_L_areJobs_407 rfl ?_
            refine V_iload (pc := 409) e_L_areJobs_409 rfl ?_
            refine V_icmp_lt (pc := 411) e_L_areJobs_411 (by decide) (by omega) (by omega) (fun h411 => ?_) (fun h411 => ?_)
            · refine V_iconst (pc := 430) e_L_areJobs_430 ?_
              refine V_goto (pc := 431) e_L_areJobs_431 (by decide) ?_
              refine V_istore_n (pc := 435) e_L_areJobs_435 (by decide) ?_
              refine V_iinc (pc := 436) e_L_areJobs_436 rfl (by decide) ?_
              refine V_goto (pc := 439) e_L_areJobs_439 (by decide) ?_
              exact V_lq [(0, .ref 0), (1, zI (hqS r (n + 1))), (2, zI 1), (3, zI (((n + 1) : Nat) : Int))] ⟨⟨_, rfl, rfl⟩, ⟨_, rfl, rfl⟩, ⟨_, rfl, rfl⟩, ⟨_, rfl, rfl⟩, trivial⟩ (k S hC)
            · refine V_iload_n (pc := 414) e_L_areJobs_414 rfl ?_
              refine V_iconst (pc := 415) e_L_areJobs_415 ?_
              refine V_icmp_ne (pc := 416) e_L_areJobs_416 (by decide) (by omega) (by decide) (fun h416 => ?_) (fun h416 => ?_)
              · exfalso
                omega
              · refine V_aload_n (pc := 419) e_L_areJobs_419 rfl (Or.inl ⟨_, rfl⟩) ?_
                refine V_iload (pc := 420) e_L_areJobs_420 rfl ?_
                refine V_bipush (pc := 422) (by decide) e_L_areJobs_422 ?_
                refine V_cV2 (pc := 424) ca_8_25 e_L_areJobs_424 (by decide) (Nat.le_of_ble_eq_true rfl) (by decide) rfl (by decide) (q_jobK (p := (quP r ((n : Int) - 1))) (x := jf r (quP r ((n : Int) - 1)) 7) hC qb.1 (by decide) rfl (fun S hC => ?_))
                refine V_if_ne (pc := 427) e_L_areJobs_427 (by decide) (by omega) (fun h427 => ?_) (fun h427 => ?_)
                · exfalso
                  omega
                · refine V_iconst (pc := 430) e_L_areJobs_430 ?_
                  refine V_goto (pc := 431) e_L_areJobs_431 (by decide) ?_
                  refine V_istore_n (pc := 435) e_L_areJobs_435 (by decide) ?_
                  refine V_iinc (pc := 436) e_L_areJobs_436 rfl (by decide) ?_
                  refine V_goto (pc := 439) e_L_areJobs_439 (by decide) ?_
                  exact V_lq [(0, .ref 0), (1, zI (hqS r (n + 1))), (2, zI 1), (3, zI (((n + 1) : Nat) : Int))] ⟨⟨_, rfl, rfl⟩, ⟨_, rfl, rfl⟩, ⟨_, rfl, rfl⟩, ⟨_, rfl, rfl⟩, trivial⟩ (k S hC)
theorem t_areJobs_92 {B : Int} {scr : Nat × (Nat → Int32)} {r : Int → Int} {sv : Int} {ρ : Int → Int → Int} {rf : Int} {Q : Option Value → Sto → Prop} (hB : B ≤ 1000000) {S : Sto} (hC : CL B scr S r sv ρ rf) {n : Nat} (hn : (n : Int) < r 0) (k : ∀ S, CL B scr S r sv ρ rf → V M_L_areJobs 144 24 [(0, .ref 0), (1, zI (hqS r (n + 1))), (2, zI 1), (3, zI (((n + 1) : Nat) : Int))] [] 144 S Q) : V M_L_areJobs 144 92 [(0, .ref 0), (1, zI (hqS r n)), (3, zI ((n : Nat) : Int)), (4, zI (jf r (quP r (n : Int)) 0)), (5, zI (jf r (quP r (n : Int)) 5)), (6, zI (jf r (quP r (n : Int)) 1)), (7, zI (jf r (quP r (n : Int)) 2)), (8, zI (sst r (quP r (n : Int))))] [] 144 S Q := by
  obtain ⟨fa, fw, fs⟩ := hC.gi.fa hB
  have qa := qu_at hC.gi.1 (t := (n : Int)) ⟨by omega, hn⟩
  obtain ⟨ja, jb, jc, jd, je, jg, ji⟩ := hC.gi.1.jk qa.1
  refine V_aload_n (pc := 92) e_L_areJobs_92 rfl (Or.inl ⟨_, rfl⟩) ?_
  refine V_iload (pc := 93) e_L_areJobs_93 rfl ?_
  refine V_bipush (pc := 95) (by decide) e_L_areJobs_95 ?_
  refine V_cV2 (pc := 97) ca_8_25 e_L_areJobs_97 (by decide) (Nat.le_of_ble_eq_true rfl) (by decide) rfl (by decide) (q_jobK (p := (quP r (n : Int))) (x := jf r (quP r (n : Int)) 8) hC qa.1 (by decide) rfl (fun S hC => ?_))
  refine V_istore (pc := 100) e_L_areJobs_100 (by decide) ?_
  refine V_iload (pc := 102) e_L_areJobs_102 rfl ?_
  refine V_iload (pc := 104) e_L_areJobs_104 rfl ?_
  refine V_iload (pc := 106) e_L_areJobs_106 rfl ?_
  refine V_imul (pc := 108) e_L_areJobs_108 ?_
  refine V_icmp_ne (pc := 109) e_L_areJobs_109 (by decide) (by omega) (by omega) (fun h109 => ?_) (fun h109 => ?_)
  · refine V_iconst (pc := 116) e_L_areJobs_116 ?_
    refine V_istore (pc := 117) e_L_areJobs_117 (by decide) ?_
    refine V_iload_n (pc := 119) e_L_areJobs_119 rfl ?_
    refine V_aload_n (pc := 120) e_L_areJobs_120 rfl (Or.inl ⟨_, rfl⟩) ?_
    refine V_iload (pc := 121) e_L_areJobs_121 rfl ?_
    refine V_bipush (pc := 123) (by decide) e_L_areJobs_123 ?_
    refine V_cV2 (pc := 125) ca_8_25 e_L_areJobs_125 (by decide) (Nat.le_of_ble_eq_true rfl) (by decide) rfl (by decide) (q_jobK (p := (quP r (n : Int))) (x := jf r (quP r (n : Int)) 7) hC qa.1 (by decide) rfl (fun S hC => ?_))
    refine V_iadd (pc := 128) e_L_areJobs_128 ?_
    refine V_istore_n (pc := 129) e_L_areJobs_129 (by decide) ?_
    refine V_iload (pc := 130) e_L_areJobs_130 rfl ?_
    refine V_if_lt (pc := 132) e_L_areJobs_132 (by decide) (by omega) (fun h132 => ?_) (fun h132 => ?_)
    · exfalso
      omega
    · refine V_iload (pc := 135) e_L_areJobs_135 rfl ?_
      refine V_aload_n (pc := 137) e_L_areJobs_137 rfl (Or.inl ⟨_, rfl⟩) ?_
      refine V_iconst (pc := 138) e_L_areJobs_138 ?_
      refine V_cV1 (pc := 139) ca_8_13 e_L_areJobs_139 (by decide) (Nat.le_of_ble_eq_true rfl) (by decide) rfl (by decide) (q_count (x := r 1) hC (by decide) rfl (fun S hC => ?_))
      refine V_icmp_ge (pc := 142) e_L_areJobs_142 (by decide) (by omega) (by omega) (fun h142 => ?_) (fun h142 => ?_)
      · exfalso
        omega
      · refine V_aload_n (pc := 145) e_L_areJobs_145 rfl (Or.inl ⟨_, rfl⟩) ?_
        refine V_iload (pc := 146) e_L_areJobs_146 rfl ?_
        refine V_bipush (pc := 148) (by decide) e_L_areJobs_148 ?_
        refine V_cV2 (pc := 150) ca_8_25 e_L_areJobs_150 (by decide) (Nat.le_of_ble_eq_true rfl) (by decide) rfl (by decide) (q_jobK (p := (quP r (n : Int))) (x := sst r (quP r (n : Int))) hC qa.1 (by decide) rfl (fun S hC => ?_))
        refine V_iload (pc := 153) e_L_areJobs_153 rfl ?_
        refine V_icmp_ne (pc := 155) e_L_areJobs_155 (by decide) (by omega) (by omega) (fun h155 => ?_) (fun h155 => ?_)
        · exfalso
          omega
        · refine V_aload_n (pc := 158) e_L_areJobs_158 rfl (Or.inl ⟨_, rfl⟩) ?_
          refine V_iload (pc := 159) e_L_areJobs_159 rfl ?_
          refine V_bipush (pc := 161) (by decide) e_L_areJobs_161 ?_
          refine V_cV2 (pc := 163) ca_8_25 e_L_areJobs_163 (by decide) (Nat.le_of_ble_eq_true rfl) (by decide) rfl (by decide) (q_jobK (p := (quP r (n : Int))) (x := als r (quP r (n : Int))) hC qa.1 (by decide) rfl (fun S hC => ?_))
          refine V_iload (pc := 166) e_L_areJobs_166 rfl ?_
          refine V_iload (pc := 168) e_L_areJobs_168 rfl ?_
          refine V_imul (pc := 170) e_L_areJobs_170 ?_
          refine V_icmp_ne (pc := 171) e_L_areJobs_171 (by decide) (by omega) (by omega) (fun h171 => ?_) (fun h171 => ?_)
          · exfalso
            omega
          · refine V_iload (pc := 174) e_L_areJobs_174 rfl ?_
            refine V_if_lt (pc := 176) e_L_areJobs_176 (by decide) (by omega) (fun h176 => ?_) (fun h176 => ?_)
            · exfalso
              omega
            · refine V_iload (pc := 179) e_L_areJobs_179 rfl ?_
              refine V_iload (pc := 181) e_L_areJobs_181 rfl ?_
              refine V_iload (pc := 183) e_L_areJobs_183 rfl ?_
              refine V_imul (pc := 185) e_L_areJobs_185 ?_
              refine V_icmp_gt (pc := 186) e_L_areJobs_186 (by decide) (by omega) (by omega) (fun h186 => ?_) (fun h186 => ?_)
              · exfalso
                omega
              · refine V_aload_n (pc := 189) e_L_areJobs_189 rfl (Or.inl ⟨_, rfl⟩) ?_
                refine V_iload (pc := 190) e_L_areJobs_190 rfl ?_
                refine V_bipush (pc := 192) (by decide) e_L_areJobs_192 ?_
                refine V_cV2 (pc := 194) ca_8_25 e_L_areJobs_194 (by decide) (Nat.le_of_ble_eq_true rfl) (by decide) rfl (by decide) (q_jobK (p := (quP r (n : Int))) (x := nsh r (quP r (n : Int))) hC qa.1 (by decide) (tel_11n (by omega)) (fun S hC => ?_))
                refine V_iload (pc := 197) e_L_areJobs_197 rfl ?_
                refine V_if_eq (pc := 199) e_L_areJobs_199 (by decide) (by decide) (fun _ => ?_) (fun h => absurd (by decide) h)
                refine V_iload (pc := 207) e_L_areJobs_207 rfl ?_
                refine V_iconst (pc := 209) e_L_areJobs_209 ?_
                refine V_idiv (pc := 210) e_L_areJobs_210 (by omega) (by decide) ?_
                refine V_iconst (pc := 211) e_L_areJobs_211 ?_
                refine V_irem (pc := 212) e_L_areJobs_212 (by omega) (by decide) ?_
                refine V_iconst (pc := 213) e_L_areJobs_213 ?_
                refine V_icmp_ne (pc := 214) e_L_areJobs_214 (by decide) (by omega) (by decide) (fun h214 => ?_) (fun h214 => ?_)
                · refine V_iload (pc := 225) e_L_areJobs_225 rfl ?_
                  refine V_iload (pc := 227) e_L_areJobs_227 rfl ?_
                  refine V_idiv (pc := 229) e_L_areJobs_229 (by omega) (by omega) ?_
                  refine V_icmp_ne (pc := 230) e_L_areJobs_230 (by decide) (by omega) (by omega) (fun h230 => ?_) (fun h230 => ?_)
                  · exfalso
                    omega
                  · refine V_aload_n (pc := 233) e_L_areJobs_233 rfl (Or.inl ⟨_, rfl⟩) ?_
                    refine V_iload (pc := 234) e_L_areJobs_234 rfl ?_
                    refine V_bipush (pc := 236) (by decide) e_L_areJobs_236 ?_
                    refine V_cV2 (pc := 238) ca_8_25 e_L_areJobs_238 (by decide) (Nat.le_of_ble_eq_true rfl) (by decide) rfl (by decide) (q_jobK (p := (quP r (n : Int))) (x := ncp r (quP r (n : Int))) hC qa.1 (by decide) (tel_12n (by omega)) (fun S hC => ?_))
                    refine V_iload (pc := 241) e_L_areJobs_241 rfl ?_
                    refine V_if_eq (pc := 243) e_L_areJobs_243 (by decide) (by decide) (fun _ => ?_) (fun h => absurd (by decide) h)
                    refine V_iload (pc := 251) e_L_areJobs_251 rfl ?_
                    refine V_iconst (pc := 253) e_L_areJobs_253 ?_
                    refine V_idiv (pc := 254) e_L_areJobs_254 (by omega) (by decide) ?_
                    refine V_iconst (pc := 255) e_L_areJobs_255 ?_
                    refine V_irem (pc := 256) e_L_areJobs_256 (by omega) (by decide) ?_
                    refine V_iconst (pc := 257) e_L_areJobs_257 ?_
                    refine V_icmp_ne (pc := 258) e_L_areJobs_258 (by decide) (by omega) (by decide) (fun h258 => ?_) (fun h258 => ?_)
                    · refine V_iload (pc := 269) e_L_areJobs_269 rfl ?_
                      refine V_iload (pc := 271) e_L_areJobs_271 rfl ?_
                      refine V_irem (pc := 273) e_L_areJobs_273 (by omega) (by omega) ?_
                      refine V_icmp_ne (pc := 274) e_L_areJobs_274 (by decide) (by omega) (by omega) (fun h274 => ?_) (fun h274 => ?_)
                      · exfalso
                        omega
                      · refine V_aload_n (pc := 277) e_L_areJobs_277 rfl (Or.inl ⟨_, rfl⟩) ?_
                        refine V_iload (pc := 278) e_L_areJobs_278 rfl ?_
                        refine V_bipush (pc := 280) (by decide) e_L_areJobs_280 ?_
                        refine V_cV2 (pc := 282) ca_8_25 e_L_areJobs_282 (by decide) (Nat.le_of_ble_eq_true rfl) (by decide) rfl (by decide) (q_jobK (p := (quP r (n : Int))) (x := jf r (quP r (n : Int)) 9) hC qa.1 (by decide) rfl (fun S hC => ?_))
                        refine V_iload (pc := 285) e_L_areJobs_285 rfl ?_
                        refine V_iconst (pc := 287) e_L_areJobs_287 ?_
                        refine V_icmp_ge (pc := 288) e_L_areJobs_288 (by decide) (by omega) (by decide) (fun h288 => ?_) (fun h288 => ?_)
                        · refine V_iload (pc := 295) e_L_areJobs_295 rfl ?_
                          refine V_iload (pc := 297) e_L_areJobs_297 rfl ?_
                          refine V_idiv (pc := 299) e_L_areJobs_299 (by omega) (by omega) ?_
                          refine V_icmp_gt (pc := 300) e_L_areJobs_300 (by decide) (by omega) (by omega) (fun h300 => ?_) (fun h300 => ?_)
                          · exfalso
                            omega
                          · refine V_iload (pc := 303) e_L_areJobs_303 rfl ?_
                            refine V_if_eq (pc := 305) e_L_areJobs_305 (by decide) (by decide) (fun _ => ?_) (fun h => absurd (by decide) h)
                            refine V_iconst (pc := 327) e_L_areJobs_327 ?_
                            refine V_goto (pc := 328) e_L_areJobs_328 (by decide) ?_
                            refine V_istore_n (pc := 332) e_L_areJobs_332 (by decide) ?_
                            exact V_lq [(0, .ref 0), (1, zI (hqS r (n + 1))), (2, zI 1), (3, zI ((n : Nat) : Int)), (4, zI (jf r (quP r (n : Int)) 0))] ⟨⟨_, rfl, rfl⟩, ⟨_, rfl, rfl⟩, ⟨_, rfl, rfl⟩, ⟨_, rfl, rfl⟩, ⟨_, rfl, rfl⟩, trivial⟩ (t_areJobs_333 hB hC hn k)
                        · refine V_iconst (pc := 291) e_L_areJobs_291 ?_
                          refine V_goto (pc := 292) e_L_areJobs_292 (by decide) ?_
                          refine V_icmp_gt (pc := 300) e_L_areJobs_300 (by decide) (by omega) (by decide) (fun h300 => ?_) (fun h300 => ?_)
                          · exfalso
                            omega
                          · refine V_iload (pc := 303) e_L_areJobs_303 rfl ?_
                            refine V_if_eq (pc := 305) e_L_areJobs_305 (by decide) (by decide) (fun _ => ?_) (fun h => absurd (by decide) h)
                            refine V_iconst (pc := 327) e_L_areJobs_327 ?_
                            refine V_goto (pc := 328) e_L_areJobs_328 (by decide) ?_
                            refine V_istore_n (pc := 332) e_L_areJobs_332 (by decide) ?_
                            exact V_lq [(0, .ref 0), (1, zI (hqS r (n + 1))), (2, zI 1), (3, zI ((n : Nat) : Int)), (4, zI (jf r (quP r (n : Int)) 0))] ⟨⟨_, rfl, rfl⟩, ⟨_, rfl, rfl⟩, ⟨_, rfl, rfl⟩, ⟨_, rfl, rfl⟩, ⟨_, rfl, rfl⟩, trivial⟩ (t_areJobs_333 hB hC hn k)
                    · exfalso
                      omega
                · refine V_iload (pc := 217) e_L_areJobs_217 rfl ?_
                  refine V_iload (pc := 219) e_L_areJobs_219 rfl ?_
                  refine V_irem (pc := 221) e_L_areJobs_221 (by omega) (by omega) ?_
                  refine V_goto (pc := 222) e_L_areJobs_222 (by decide) ?_
                  refine V_icmp_ne (pc := 230) e_L_areJobs_230 (by decide) (by omega) (by omega) (fun h230 => ?_) (fun h230 => ?_)
                  · exfalso
                    omega
                  · refine V_aload_n (pc := 233) e_L_areJobs_233 rfl (Or.inl ⟨_, rfl⟩) ?_
                    refine V_iload (pc := 234) e_L_areJobs_234 rfl ?_
                    refine V_bipush (pc := 236) (by decide) e_L_areJobs_236 ?_
                    refine V_cV2 (pc := 238) ca_8_25 e_L_areJobs_238 (by decide) (Nat.le_of_ble_eq_true rfl) (by decide) rfl (by decide) (q_jobK (p := (quP r (n : Int))) (x := ncp r (quP r (n : Int))) hC qa.1 (by decide) (tel_12n (by omega)) (fun S hC => ?_))
                    refine V_iload (pc := 241) e_L_areJobs_241 rfl ?_
                    refine V_if_eq (pc := 243) e_L_areJobs_243 (by decide) (by decide) (fun _ => ?_) (fun h => absurd (by decide) h)
                    refine V_iload (pc := 251) e_L_areJobs_251 rfl ?_
                    refine V_iconst (pc := 253) e_L_areJobs_253 ?_
                    refine V_idiv (pc := 254) e_L_areJobs_254 (by omega) (by decide) ?_
                    refine V_iconst (pc := 255) e_L_areJobs_255 ?_
                    refine V_irem (pc := 256) e_L_areJobs_256 (by omega) (by decide) ?_
                    refine V_iconst (pc := 257) e_L_areJobs_257 ?_
                    refine V_icmp_ne (pc := 258) e_L_areJobs_258 (by decide) (by omega) (by decide) (fun h258 => ?_) (fun h258 => ?_)
                    · exfalso
                      omega
                    · refine V_iload (pc := 261) e_L_areJobs_261 rfl ?_
                      refine V_iload (pc := 263) e_L_areJobs_263 rfl ?_
                      refine V_idiv (pc := 265) e_L_areJobs_265 (by omega) (by omega) ?_
                      refine V_goto (pc := 266) e_L_areJobs_266 (by decide) ?_
                      refine V_icmp_ne (pc := 274) e_L_areJobs_274 (by decide) (by omega) (by omega) (fun h274 => ?_) (fun h274 => ?_)
                      · exfalso
                        omega
                      · refine V_aload_n (pc := 277) e_L_areJobs_277 rfl (Or.inl ⟨_, rfl⟩) ?_
                        refine V_iload (pc := 278) e_L_areJobs_278 rfl ?_
                        refine V_bipush (pc := 280) (by decide) e_L_areJobs_280 ?_
                        refine V_cV2 (pc := 282) ca_8_25 e_L_areJobs_282 (by decide) (Nat.le_of_ble_eq_true rfl) (by decide) rfl (by decide) (q_jobK (p := (quP r (n : Int))) (x := jf r (quP r (n : Int)) 9) hC qa.1 (by decide) rfl (fun S hC => ?_))
                        refine V_iload (pc := 285) e_L_areJobs_285 rfl ?_
                        refine V_iconst (pc := 287) e_L_areJobs_287 ?_
                        refine V_icmp_ge (pc := 288) e_L_areJobs_288 (by decide) (by omega) (by decide) (fun h288 => ?_) (fun h288 => ?_)
                        · refine V_iload (pc := 295) e_L_areJobs_295 rfl ?_
                          refine V_iload (pc := 297) e_L_areJobs_297 rfl ?_
                          refine V_idiv (pc := 299) e_L_areJobs_299 (by omega) (by omega) ?_
                          refine V_icmp_gt (pc := 300) e_L_areJobs_300 (by decide) (by omega) (by omega) (fun h300 => ?_) (fun h300 => ?_)
                          · exfalso
                            omega
                          · refine V_iload (pc := 303) e_L_areJobs_303 rfl ?_
                            refine V_if_eq (pc := 305) e_L_areJobs_305 (by decide) (by decide) (fun _ => ?_) (fun h => absurd (by decide) h)
                            refine V_iconst (pc := 327) e_L_areJobs_327 ?_
                            refine V_goto (pc := 328) e_L_areJobs_328 (by decide) ?_
                            refine V_istore_n (pc := 332) e_L_areJobs_332 (by decide) ?_
                            exact V_lq [(0, .ref 0), (1, zI (hqS r (n + 1))), (2, zI 1), (3, zI ((n : Nat) : Int)), (4, zI (jf r (quP r (n : Int)) 0))] ⟨⟨_, rfl, rfl⟩, ⟨_, rfl, rfl⟩, ⟨_, rfl, rfl⟩, ⟨_, rfl, rfl⟩, ⟨_, rfl, rfl⟩, trivial⟩ (t_areJobs_333 hB hC hn k)
                        · refine V_iconst (pc := 291) e_L_areJobs_291 ?_
                          refine V_goto (pc := 292) e_L_areJobs_292 (by decide) ?_
                          refine V_icmp_gt (pc := 300) e_L_areJobs_300 (by decide) (by omega) (by decide) (fun h300 => ?_) (fun h300 => ?_)
                          · exfalso
                            omega
                          · refine V_iload (pc := 303) e_L_areJobs_303 rfl ?_
                            refine V_if_eq (pc := 305) e_L_areJobs_305 (by decide) (by decide) (fun _ => ?_) (fun h => absurd (by decide) h)
                            refine V_iconst (pc := 327) e_L_areJobs_327 ?_
                            refine V_goto (pc := 328) e_L_areJobs_328 (by decide) ?_
                            refine V_istore_n (pc := 332) e_L_areJobs_332 (by decide) ?_
                            exact V_lq [(0, .ref 0), (1, zI (hqS r (n + 1))), (2, zI 1), (3, zI ((n : Nat) : Int)), (4, zI (jf r (quP r (n : Int)) 0))] ⟨⟨_, rfl, rfl⟩, ⟨_, rfl, rfl⟩, ⟨_, rfl, rfl⟩, ⟨_, rfl, rfl⟩, ⟨_, rfl, rfl⟩, trivial⟩ (t_areJobs_333 hB hC hn k)
  · refine V_iconst (pc := 112) e_L_areJobs_112 ?_
    refine V_goto (pc := 113) e_L_areJobs_113 (by decide) ?_
    refine V_istore (pc := 117) e_L_areJobs_117 (by decide) ?_
    refine V_iload_n (pc := 119) e_L_areJobs_119 rfl ?_
    refine V_aload_n (pc := 120) e_L_areJobs_120 rfl (Or.inl ⟨_, rfl⟩) ?_
    refine V_iload (pc := 121) e_L_areJobs_121 rfl ?_
    refine V_bipush (pc := 123) (by decide) e_L_areJobs_123 ?_
    refine V_cV2 (pc := 125) ca_8_25 e_L_areJobs_125 (by decide) (Nat.le_of_ble_eq_true rfl) (by decide) rfl (by decide) (q_jobK (p := (quP r (n : Int))) (x := jf r (quP r (n : Int)) 7) hC qa.1 (by decide) rfl (fun S hC => ?_))
    refine V_iadd (pc := 128) e_L_areJobs_128 ?_
    refine V_istore_n (pc := 129) e_L_areJobs_129 (by decide) ?_
    refine V_iload (pc := 130) e_L_areJobs_130 rfl ?_
    refine V_if_lt (pc := 132) e_L_areJobs_132 (by decide) (by omega) (fun h132 => ?_) (fun h132 => ?_)
    · exfalso
      omega
    · refine V_iload (pc := 135) e_L_areJobs_135 rfl ?_
      refine V_aload_n (pc := 137) e_L_areJobs_137 rfl (Or.inl ⟨_, rfl⟩) ?_
      refine V_iconst (pc := 138) e_L_areJobs_138 ?_
      refine V_cV1 (pc := 139) ca_8_13 e_L_areJobs_139 (by decide) (Nat.le_of_ble_eq_true rfl) (by decide) rfl (by decide) (q_count (x := r 1) hC (by decide) rfl (fun S hC => ?_))
      refine V_icmp_ge (pc := 142) e_L_areJobs_142 (by decide) (by omega) (by omega) (fun h142 => ?_) (fun h142 => ?_)
      · exfalso
        omega
      · refine V_aload_n (pc := 145) e_L_areJobs_145 rfl (Or.inl ⟨_, rfl⟩) ?_
        refine V_iload (pc := 146) e_L_areJobs_146 rfl ?_
        refine V_bipush (pc := 148) (by decide) e_L_areJobs_148 ?_
        refine V_cV2 (pc := 150) ca_8_25 e_L_areJobs_150 (by decide) (Nat.le_of_ble_eq_true rfl) (by decide) rfl (by decide) (q_jobK (p := (quP r (n : Int))) (x := sst r (quP r (n : Int))) hC qa.1 (by decide) rfl (fun S hC => ?_))
        refine V_iload (pc := 153) e_L_areJobs_153 rfl ?_
        refine V_icmp_ne (pc := 155) e_L_areJobs_155 (by decide) (by omega) (by omega) (fun h155 => ?_) (fun h155 => ?_)
        · exfalso
          omega
        · refine V_aload_n (pc := 158) e_L_areJobs_158 rfl (Or.inl ⟨_, rfl⟩) ?_
          refine V_iload (pc := 159) e_L_areJobs_159 rfl ?_
          refine V_bipush (pc := 161) (by decide) e_L_areJobs_161 ?_
          refine V_cV2 (pc := 163) ca_8_25 e_L_areJobs_163 (by decide) (Nat.le_of_ble_eq_true rfl) (by decide) rfl (by decide) (q_jobK (p := (quP r (n : Int))) (x := als r (quP r (n : Int))) hC qa.1 (by decide) rfl (fun S hC => ?_))
          refine V_iload (pc := 166) e_L_areJobs_166 rfl ?_
          refine V_iload (pc := 168) e_L_areJobs_168 rfl ?_
          refine V_imul (pc := 170) e_L_areJobs_170 ?_
          refine V_icmp_ne (pc := 171) e_L_areJobs_171 (by decide) (by omega) (by omega) (fun h171 => ?_) (fun h171 => ?_)
          · exfalso
            omega
          · refine V_iload (pc := 174) e_L_areJobs_174 rfl ?_
            refine V_if_lt (pc := 176) e_L_areJobs_176 (by decide) (by omega) (fun h176 => ?_) (fun h176 => ?_)
            · exfalso
              omega
            · refine V_iload (pc := 179) e_L_areJobs_179 rfl ?_
              refine V_iload (pc := 181) e_L_areJobs_181 rfl ?_
              refine V_iload (pc := 183) e_L_areJobs_183 rfl ?_
              refine V_imul (pc := 185) e_L_areJobs_185 ?_
              refine V_icmp_gt (pc := 186) e_L_areJobs_186 (by decide) (by omega) (by omega) (fun h186 => ?_) (fun h186 => ?_)
              · exfalso
                omega
              · refine V_aload_n (pc := 189) e_L_areJobs_189 rfl (Or.inl ⟨_, rfl⟩) ?_
                refine V_iload (pc := 190) e_L_areJobs_190 rfl ?_
                refine V_bipush (pc := 192) (by decide) e_L_areJobs_192 ?_
                refine V_cV2 (pc := 194) ca_8_25 e_L_areJobs_194 (by decide) (Nat.le_of_ble_eq_true rfl) (by decide) rfl (by decide) (q_jobK (p := (quP r (n : Int))) (x := -4) hC qa.1 (by decide) (tel_11l (by omega)) (fun S hC => ?_))
                refine V_iload (pc := 197) e_L_areJobs_197 rfl ?_
                refine V_if_eq (pc := 199) e_L_areJobs_199 (by decide) (by decide) (fun h => absurd h (by decide)) (fun _ => ?_)
                refine V_bipush (pc := 202) (by decide) e_L_areJobs_202 ?_
                refine V_goto (pc := 204) e_L_areJobs_204 (by decide) ?_
                refine V_icmp_ne (pc := 230) e_L_areJobs_230 (by decide) (by decide) (by decide) (fun h => absurd (by decide) h) (fun _ => ?_)
                refine V_aload_n (pc := 233) e_L_areJobs_233 rfl (Or.inl ⟨_, rfl⟩) ?_
                refine V_iload (pc := 234) e_L_areJobs_234 rfl ?_
                refine V_bipush (pc := 236) (by decide) e_L_areJobs_236 ?_
                refine V_cV2 (pc := 238) ca_8_25 e_L_areJobs_238 (by decide) (Nat.le_of_ble_eq_true rfl) (by decide) rfl (by decide) (q_jobK (p := (quP r (n : Int))) (x := -4) hC qa.1 (by decide) (tel_12l (by omega)) (fun S hC => ?_))
                refine V_iload (pc := 241) e_L_areJobs_241 rfl ?_
                refine V_if_eq (pc := 243) e_L_areJobs_243 (by decide) (by decide) (fun h => absurd h (by decide)) (fun _ => ?_)
                refine V_bipush (pc := 246) (by decide) e_L_areJobs_246 ?_
                refine V_goto (pc := 248) e_L_areJobs_248 (by decide) ?_
                refine V_icmp_ne (pc := 274) e_L_areJobs_274 (by decide) (by decide) (by decide) (fun h => absurd (by decide) h) (fun _ => ?_)
                refine V_aload_n (pc := 277) e_L_areJobs_277 rfl (Or.inl ⟨_, rfl⟩) ?_
                refine V_iload (pc := 278) e_L_areJobs_278 rfl ?_
                refine V_bipush (pc := 280) (by decide) e_L_areJobs_280 ?_
                refine V_cV2 (pc := 282) ca_8_25 e_L_areJobs_282 (by decide) (Nat.le_of_ble_eq_true rfl) (by decide) rfl (by decide) (q_jobK (p := (quP r (n : Int))) (x := jf r (quP r (n : Int)) 9) hC qa.1 (by decide) rfl (fun S hC => ?_))
                refine V_iload (pc := 285) e_L_areJobs_285 rfl ?_
                refine V_iconst (pc := 287) e_L_areJobs_287 ?_
                refine V_icmp_ge (pc := 288) e_L_areJobs_288 (by decide) (by omega) (by decide) (fun h288 => ?_) (fun h288 => ?_)
                · refine V_iload (pc := 295) e_L_areJobs_295 rfl ?_
                  refine V_iload (pc := 297) e_L_areJobs_297 rfl ?_
                  refine V_idiv (pc := 299) e_L_areJobs_299 (by omega) (by omega) ?_
                  refine V_icmp_gt (pc := 300) e_L_areJobs_300 (by decide) (by omega) (by omega) (fun h300 => ?_) (fun h300 => ?_)
                  · exfalso
                    omega
                  · refine V_iload (pc := 303) e_L_areJobs_303 rfl ?_
                    refine V_if_eq (pc := 305) e_L_areJobs_305 (by decide) (by decide) (fun h => absurd h (by decide)) (fun _ => ?_)
                    refine V_iload (pc := 308) e_L_areJobs_308 rfl ?_
                    refine V_iconst (pc := 310) e_L_areJobs_310 ?_
                    refine V_icmp_le (pc := 311) e_L_areJobs_311 (by decide) (by omega) (by decide) (fun h311 => ?_) (fun h311 => ?_)
                    · exfalso
                      omega
                    · refine V_aload_n (pc := 314) e_L_areJobs_314 rfl (Or.inl ⟨_, rfl⟩) ?_
                      refine V_iload (pc := 315) e_L_areJobs_315 rfl ?_
                      refine V_bipush (pc := 317) (by decide) e_L_areJobs_317 ?_
                      refine V_cV2 (pc := 319) ca_8_25 e_L_areJobs_319 (by decide) (Nat.le_of_ble_eq_true rfl) (by decide) rfl (by decide) (q_jobK (p := (quP r (n : Int))) (x := jf r (quP r (n : Int)) 9) hC qa.1 (by decide) rfl (fun S hC => ?_))
                      refine V_iload (pc := 322) e_L_areJobs_322 rfl ?_
                      refine V_icmp_ge (pc := 324) e_L_areJobs_324 (by decide) (by omega) (by omega) (fun h324 => ?_) (fun h324 => ?_)
                      · exfalso
                        omega
                      · refine V_iconst (pc := 327) e_L_areJobs_327 ?_
                        refine V_goto (pc := 328) e_L_areJobs_328 (by decide) ?_
                        refine V_istore_n (pc := 332) e_L_areJobs_332 (by decide) ?_
                        exact V_lq [(0, .ref 0), (1, zI (hqS r (n + 1))), (2, zI 1), (3, zI ((n : Nat) : Int)), (4, zI (jf r (quP r (n : Int)) 0))] ⟨⟨_, rfl, rfl⟩, ⟨_, rfl, rfl⟩, ⟨_, rfl, rfl⟩, ⟨_, rfl, rfl⟩, ⟨_, rfl, rfl⟩, trivial⟩ (t_areJobs_333 hB hC hn k)
                · refine V_iconst (pc := 291) e_L_areJobs_291 ?_
                  refine V_goto (pc := 292) e_L_areJobs_292 (by decide) ?_
                  refine V_icmp_gt (pc := 300) e_L_areJobs_300 (by decide) (by omega) (by decide) (fun h300 => ?_) (fun h300 => ?_)
                  · exfalso
                    omega
                  · refine V_iload (pc := 303) e_L_areJobs_303 rfl ?_
                    refine V_if_eq (pc := 305) e_L_areJobs_305 (by decide) (by decide) (fun h => absurd h (by decide)) (fun _ => ?_)
                    refine V_iload (pc := 308) e_L_areJobs_308 rfl ?_
                    refine V_iconst (pc := 310) e_L_areJobs_310 ?_
                    refine V_icmp_le (pc := 311) e_L_areJobs_311 (by decide) (by omega) (by decide) (fun h311 => ?_) (fun h311 => ?_)
                    · exfalso
                      omega
                    · refine V_aload_n (pc := 314) e_L_areJobs_314 rfl (Or.inl ⟨_, rfl⟩) ?_
                      refine V_iload (pc := 315) e_L_areJobs_315 rfl ?_
                      refine V_bipush (pc := 317) (by decide) e_L_areJobs_317 ?_
                      refine V_cV2 (pc := 319) ca_8_25 e_L_areJobs_319 (by decide) (Nat.le_of_ble_eq_true rfl) (by decide) rfl (by decide) (q_jobK (p := (quP r (n : Int))) (x := jf r (quP r (n : Int)) 9) hC qa.1 (by decide) rfl (fun S hC => ?_))
                      refine V_iload (pc := 322) e_L_areJobs_322 rfl ?_
                      refine V_icmp_ge (pc := 324) e_L_areJobs_324 (by decide) (by omega) (by omega) (fun h324 => ?_) (fun h324 => ?_)
                      · exfalso
                        omega
                      · refine V_iconst (pc := 327) e_L_areJobs_327 ?_
                        refine V_goto (pc := 328) e_L_areJobs_328 (by decide) ?_
                        refine V_istore_n (pc := 332) e_L_areJobs_332 (by decide) ?_
                        exact V_lq [(0, .ref 0), (1, zI (hqS r (n + 1))), (2, zI 1), (3, zI ((n : Nat) : Int)), (4, zI (jf r (quP r (n : Int)) 0))] ⟨⟨_, rfl, rfl⟩, ⟨_, rfl, rfl⟩, ⟨_, rfl, rfl⟩, ⟨_, rfl, rfl⟩, ⟨_, rfl, rfl⟩, trivial⟩ (t_areJobs_333 hB hC hn k)
theorem l_areJobs_24 {B : Int} {scr : Nat × (Nat → Int32)} {r : Int → Int} {sv : Int} {ρ : Int → Int → Int} {rf : Int} {Q : Option Value → Sto → Prop} (hB : B ≤ 1000000) (k : ∀ S, CL B scr S r sv ρ rf → Q (some (zI 1)) S) : ∀ n : Nat, n ≤ (r 0).toNat → ∀ S : Sto, CL B scr S r sv ρ rf → V M_L_areJobs 144 24 [(0, .ref 0), (1, zI (hqS r n)), (2, zI 1), (3, zI ((n : Nat) : Int))] [] 144 S Q := by
  refine loop_nat (r 0).toNat (fun n hn ih => ?_)
  intro S hC
  obtain ⟨fa, fw, fs⟩ := hC.gi.fa hB
  refine V_iload_n (pc := 24) e_L_areJobs_24 rfl ?_
  refine V_aload_n (pc := 25) e_L_areJobs_25 rfl (Or.inl ⟨_, rfl⟩) ?_
  refine V_iconst (pc := 26) e_L_areJobs_26 ?_
  refine V_cV1 (pc := 27) ca_8_13 e_L_areJobs_27 (by decide) (Nat.le_of_ble_eq_true rfl) (by decide) rfl (by decide) (q_count (x := r 0) hC (by decide) rfl (fun S hC => ?_))
  refine V_icmp_ge (pc := 30) e_L_areJobs_30 (by decide) (by omega) (by omega) (fun h30 => ?_) (fun h30 => ?_)
  · obtain rfl : n = (r 0).toNat := by omega
    exact V_lq [(0, .ref 0), (1, zI (hqS r (r 0).toNat)), (2, zI 1)] ⟨⟨_, rfl, rfl⟩, ⟨_, rfl, rfl⟩, ⟨_, rfl, rfl⟩, trivial⟩ (t_areJobs_442 hB hC k)
  · refine V_iload_n (pc := 33) e_L_areJobs_33 rfl ?_
    refine V_if_eq (pc := 34) e_L_areJobs_34 (by decide) (by decide) (fun h => absurd h (by decide)) (fun _ => ?_)
    have hn : (n : Int) < r 0 := by omega
    have qa := qu_at hC.gi.1 (t := (n : Int)) ⟨by omega, hn⟩
    obtain ⟨ja, jb, jc, jd, je, jg, ji⟩ := hC.gi.1.jk qa.1
    refine V_aload_n (pc := 37) e_L_areJobs_37 rfl (Or.inl ⟨_, rfl⟩) ?_
    refine V_iload_n (pc := 38) e_L_areJobs_38 rfl ?_
    refine V_cV1 (pc := 39) ca_8_22 e_L_areJobs_39 (by decide) (Nat.le_of_ble_eq_true rfl) (by decide) rfl (by decide) (q_queuedP (t := (n : Int)) hC (by omega) (fun S hC => ?_))
    refine V_istore (pc := 42) e_L_areJobs_42 (by decide) ?_
    refine V_aload_n (pc := 44) e_L_areJobs_44 rfl (Or.inl ⟨_, rfl⟩) ?_
    refine V_iload (pc := 45) e_L_areJobs_45 rfl ?_
    refine V_iconst (pc := 47) e_L_areJobs_47 ?_
    refine V_cV2 (pc := 48) ca_8_25 e_L_areJobs_48 (by decide) (Nat.le_of_ble_eq_true rfl) (by decide) rfl (by decide) (q_jobK (p := (quP r (n : Int))) (x := jf r (quP r (n : Int)) 5) hC qa.1 (by decide) rfl (fun S hC => ?_))
    refine V_istore (pc := 51) e_L_areJobs_51 (by decide) ?_
    refine V_aload_n (pc := 53) e_L_areJobs_53 rfl (Or.inl ⟨_, rfl⟩) ?_
    refine V_iload (pc := 54) e_L_areJobs_54 rfl ?_
    refine V_iconst (pc := 56) e_L_areJobs_56 ?_
    refine V_cV2 (pc := 57) ca_8_25 e_L_areJobs_57 (by decide) (Nat.le_of_ble_eq_true rfl) (by decide) rfl (by decide) (q_jobK (p := (quP r (n : Int))) (x := jf r (quP r (n : Int)) 1) hC qa.1 (by decide) rfl (fun S hC => ?_))
    refine V_istore (pc := 60) e_L_areJobs_60 (by decide) ?_
    refine V_aload_n (pc := 62) e_L_areJobs_62 rfl (Or.inl ⟨_, rfl⟩) ?_
    refine V_iload (pc := 63) e_L_areJobs_63 rfl ?_
    refine V_iconst (pc := 65) e_L_areJobs_65 ?_
    refine V_cV2 (pc := 66) ca_8_25 e_L_areJobs_66 (by decide) (Nat.le_of_ble_eq_true rfl) (by decide) rfl (by decide) (q_jobK (p := (quP r (n : Int))) (x := jf r (quP r (n : Int)) 2) hC qa.1 (by decide) rfl (fun S hC => ?_))
    refine V_istore (pc := 69) e_L_areJobs_69 (by decide) ?_
    refine V_iload (pc := 71) e_L_areJobs_71 rfl ?_
    refine V_iconst (pc := 73) e_L_areJobs_73 ?_
    refine V_irem (pc := 74) e_L_areJobs_74 (by omega) (by decide) ?_
    refine V_iconst (pc := 75) e_L_areJobs_75 ?_
    refine V_icmp_ne (pc := 76) e_L_areJobs_76 (by decide) (by omega) (by decide) (fun h76 => ?_) (fun h76 => ?_)
    · refine V_iload (pc := 88) e_L_areJobs_88 rfl ?_
      refine V_istore (pc := 90) e_L_areJobs_90 (by decide) ?_
      exact V_lq [(0, .ref 0), (1, zI (hqS r n)), (3, zI ((n : Nat) : Int)), (4, zI (jf r (quP r (n : Int)) 0)), (5, zI (jf r (quP r (n : Int)) 5)), (6, zI (jf r (quP r (n : Int)) 1)), (7, zI (jf r (quP r (n : Int)) 2)), (8, zI (sst r (quP r (n : Int))))] ⟨⟨_, rfl, rfl⟩, ⟨_, rfl, rfl⟩, ⟨_, rfl, rfl⟩, ⟨_, rfl, rfl⟩, ⟨_, rfl, rfl⟩, ⟨_, rfl, rfl⟩, ⟨_, rfl, rfl⟩, ⟨_, rfl, congrArg (fun e : Int => zI e) (by unfold sst sof; rw [if_neg (by omega)])⟩, trivial⟩ (t_areJobs_92 hB hC hn (fun S hC => ih (by omega) S hC))
    · refine V_iload (pc := 79) e_L_areJobs_79 rfl ?_
      refine V_iconst (pc := 81) e_L_areJobs_81 ?_
      refine V_iadd (pc := 82) e_L_areJobs_82 ?_
      refine V_iconst (pc := 83) e_L_areJobs_83 ?_
      refine V_idiv (pc := 84) e_L_areJobs_84 (by omega) (by decide) ?_
      refine V_goto (pc := 85) e_L_areJobs_85 (by decide) ?_
      refine V_istore (pc := 90) e_L_areJobs_90 (by decide) ?_
      exact V_lq [(0, .ref 0), (1, zI (hqS r n)), (3, zI ((n : Nat) : Int)), (4, zI (jf r (quP r (n : Int)) 0)), (5, zI (jf r (quP r (n : Int)) 5)), (6, zI (jf r (quP r (n : Int)) 1)), (7, zI (jf r (quP r (n : Int)) 2)), (8, zI (sst r (quP r (n : Int))))] ⟨⟨_, rfl, rfl⟩, ⟨_, rfl, rfl⟩, ⟨_, rfl, rfl⟩, ⟨_, rfl, rfl⟩, ⟨_, rfl, rfl⟩, ⟨_, rfl, rfl⟩, ⟨_, rfl, rfl⟩, ⟨_, rfl, congrArg (fun e : Int => zI e) (by unfold sst sof; rw [if_pos (by omega)])⟩, trivial⟩ (t_areJobs_92 hB hC hn (fun S hC => ih (by omega) S hC))
theorem c_L_areJobs {B : Int} {scr : Nat × (Nat → Int32)} {r : Int → Int} {sv : Int} {ρ : Int → Int → Int} {rf : Int} {Q : Option Value → Sto → Prop} {S : Sto} (hC : CL B scr S r sv ρ rf) (hB : B ≤ 1000000) (k : ∀ S, CL B scr S r sv ρ rf → Q (some (zI 1)) S) : Con M_L_areJobs 144 144 S [.ref 0] Q := by
  refine V_entry ok_L_areJobs (Nat.le_refl _) (Nat.le_of_ble_eq_true rfl) (V_ls [(0, .ref 0)] ⟨rfl, trivial⟩ ?_)
  obtain ⟨fa, fw, fs⟩ := hC.gi.fa hB
  refine V_iconst (pc := 0) e_L_areJobs_0 ?_
  refine V_istore_n (pc := 1) e_L_areJobs_1 (by decide) ?_
  refine V_aload_n (pc := 2) e_L_areJobs_2 rfl (Or.inl ⟨_, rfl⟩) ?_
  refine V_aload_n (pc := 3) e_L_areJobs_3 rfl (Or.inl ⟨_, rfl⟩) ?_
  refine V_iconst (pc := 4) e_L_areJobs_4 ?_
  refine V_cV1 (pc := 5) ca_8_13 e_L_areJobs_5 (by decide) (Nat.le_of_ble_eq_true rfl) (by decide) rfl (by decide) (q_count (x := r 0) hC (by decide) rfl (fun S hC => ?_))
  refine V_cV1 (pc := 8) ca_8_22 e_L_areJobs_8 (by decide) (Nat.le_of_ble_eq_true rfl) (by decide) rfl (by decide) (q_queuedN hC (by omega) (by omega) (fun S hC => ?_))
  refine V_bipush (pc := 11) (by decide) e_L_areJobs_11 ?_
  refine V_icmp_ne (pc := 13) e_L_areJobs_13 (by decide) (by decide) (by decide) (fun h => absurd (by decide) h) (fun _ => ?_)
  refine V_iconst (pc := 16) e_L_areJobs_16 ?_
  refine V_goto (pc := 17) e_L_areJobs_17 (by decide) ?_
  refine V_istore_n (pc := 21) e_L_areJobs_21 (by decide) ?_
  refine V_iconst (pc := 22) e_L_areJobs_22 ?_
  refine V_istore_n (pc := 23) e_L_areJobs_23 (by decide) ?_
  exact V_lq [(0, .ref 0), (1, zI (hqS r 0)), (2, zI 1), (3, zI ((0 : Nat) : Int))] ⟨⟨_, rfl, rfl⟩, ⟨_, rfl, rfl⟩, ⟨_, rfl, rfl⟩, ⟨_, rfl, rfl⟩, trivial⟩ (l_areJobs_24 hB k 0 (by omega) S hC)
