/-! the law itself -/
def M_L_law : MI := (yL_law, cL_law, 11, (Option.some FieldType.boolean), 8, 12)
theorem ba_rg (x y : Int) : -2147483648 ≤ ba x y ∧ ba x y < 2147483648 := zi_rg _
theorem t_law_363 {L : Nat} {xs : Nat → Int32} (hL : L ≤ 260) {Q : Option Value → Sto → Prop} {B : Int} {S : Sto} {r : Int → Int} {sv : Int} {ρ : Int → Int → Int} {rf : Int} {B0 : Int} (hB : B0 ≤ 700000) {n : Nat} (hn : n < 60) (k : ∀ (S : Sto) (r : Int → Int) (sv : Int) (ρ : Int → Int → Int) (rf : Int), CL (B0 + 5600) (L, xs) S r sv ρ rf → V M_L_law 144 46 [(0, .retAddr 3), (1, .ref 0), (2, zI 1), (3, zI (((n + 1) : Nat) : Int))] [] 144 S Q) (hb : B ≤ B0 + 5600) (hC : CL B (L, xs) S r sv ρ rf) : V M_L_law 144 363 [(0, .retAddr 3), (1, .ref 0), (2, zI 1), (3, zI ((n : Nat) : Int))] [] 144 S Q := by
  refine V_iload_n (pc := 363) e_L_law_363 rfl ?_
  refine V_bipush (pc := 364) (by decide) e_L_law_364 ?_
  refine V_irem (pc := 366) e_L_law_366 (by omega) (by decide) ?_
  refine V_bipush (pc := 367) (by decide) e_L_law_367 ?_
  refine V_icmp_ne (pc := 369) e_L_law_369 (by decide) (by omega) (by decide) (fun h369 => ?_) (fun h369 => ?_)
  · refine V_iconst (pc := 379) e_L_law_379 ?_
    refine V_goto (pc := 380) e_L_law_380 (by decide) ?_
    refine V_istore_n (pc := 384) e_L_law_384 (by decide) ?_
    refine V_iinc (pc := 385) e_L_law_385 rfl (by decide) ?_
    refine V_goto (pc := 388) e_L_law_388 (by decide) ?_
    exact V_lq [(0, .retAddr 3), (1, .ref 0), (2, zI 1), (3, zI (((n + 1) : Nat) : Int))] ⟨⟨_, rfl, rfl⟩, ⟨_, rfl, rfl⟩, ⟨_, rfl, rfl⟩, ⟨_, rfl, rfl⟩, trivial⟩ (k S _ _ _ _ (hC.up (by omega)))
  · refine V_aload_n (pc := 372) e_L_law_372 rfl (Or.inl ⟨_, rfl⟩) ?_
    refine V_cS1 (pc := 373) ca_8_106 e_L_law_373 (by decide) (Nat.le_of_ble_eq_true rfl) (c_L_refused hC (by omega) (fun S rf hC => ?_))
    refine V_if_eq (pc := 376) e_L_law_376 (by decide) (by decide) (fun h => absurd h (by decide)) (fun _ => ?_)
    refine V_iconst (pc := 379) e_L_law_379 ?_
    refine V_goto (pc := 380) e_L_law_380 (by decide) ?_
    refine V_istore_n (pc := 384) e_L_law_384 (by decide) ?_
    refine V_iinc (pc := 385) e_L_law_385 rfl (by decide) ?_
    refine V_goto (pc := 388) e_L_law_388 (by decide) ?_
    exact V_lq [(0, .retAddr 3), (1, .ref 0), (2, zI 1), (3, zI (((n + 1) : Nat) : Int))] ⟨⟨_, rfl, rfl⟩, ⟨_, rfl, rfl⟩, ⟨_, rfl, rfl⟩, ⟨_, rfl, rfl⟩, trivial⟩ (k S _ _ _ _ (hC.up (by omega)))
theorem t_law_328 {L : Nat} {xs : Nat → Int32} (hL : L ≤ 260) {Q : Option Value → Sto → Prop} {B : Int} {S : Sto} {r : Int → Int} {sv : Int} {ρ : Int → Int → Int} {rf : Int} {B0 : Int} (hB : B0 ≤ 700000) {n : Nat} (hn : n < 60) (k : ∀ (S : Sto) (r : Int → Int) (sv : Int) (ρ : Int → Int → Int) (rf : Int), CL (B0 + 5600) (L, xs) S r sv ρ rf → V M_L_law 144 46 [(0, .retAddr 3), (1, .ref 0), (2, zI 1), (3, zI (((n + 1) : Nat) : Int))] [] 144 S Q) {y : Int} (hy : 0 ≤ y ∧ y < 1000000) (hb : B ≤ B0 + 500) (hC : CL B (L, xs) S r sv ρ rf) : V M_L_law 144 328 [(0, .retAddr 3), (1, .ref 0), (2, zI 1), (3, zI ((n : Nat) : Int)), (5, zI y)] [] 144 S Q := by
  have fa := (hC.gi.fa (by omega)).1
  refine V_iload_n (pc := 328) e_L_law_328 rfl ?_
  refine V_bipush (pc := 329) (by decide) e_L_law_329 ?_
  refine V_irem (pc := 331) e_L_law_331 (by omega) (by decide) ?_
  refine V_iconst (pc := 332) e_L_law_332 ?_
  refine V_icmp_ne (pc := 333) e_L_law_333 (by decide) (by omega) (by decide) (fun h333 => ?_) (fun h333 => ?_)
  · exact V_lq [(0, .retAddr 3), (1, .ref 0), (2, zI 1), (3, zI ((n : Nat) : Int))] ⟨⟨_, rfl, rfl⟩, ⟨_, rfl, rfl⟩, ⟨_, rfl, rfl⟩, ⟨_, rfl, rfl⟩, trivial⟩ (t_law_363 hL hB hn k (by omega) hC)
  · refine V_aload_n (pc := 336) e_L_law_336 rfl (Or.inl ⟨_, rfl⟩) ?_
    refine V_iconst (pc := 337) e_L_law_337 ?_
    refine V_cV1 (pc := 338) ca_8_13 e_L_law_338 (by decide) (Nat.le_of_ble_eq_true rfl) (by decide) rfl (by decide) (q_count (x := r 0) hC (by decide) rfl (fun S hC => ?_))
    refine V_if_eq (pc := 341) e_L_law_341 (by decide) (by omega) (fun h341 => ?_) (fun h341 => ?_)
    · exact V_lq [(0, .retAddr 3), (1, .ref 0), (2, zI 1), (3, zI ((n : Nat) : Int))] ⟨⟨_, rfl, rfl⟩, ⟨_, rfl, rfl⟩, ⟨_, rfl, rfl⟩, ⟨_, rfl, rfl⟩, trivial⟩ (t_law_363 hL hB hn k (by omega) hC)
    · have ym : 0 ≤ y % r 0 ∧ y % r 0 < r 0 := ⟨Int.emod_nonneg y (by omega), Int.emod_lt_of_pos y (by omega)⟩
      have qa := qu_at hC.gi.1 ym
      have jk := (hC.gi.1.jk qa.1).1.2.2.2.2.2.2.2.2.2.2
      have hj : 0 ≤ jf r (quP r (y % r 0)) 0 ∧ jf r (quP r (y % r 0)) 0 < 2147483648 := by omega
      have hp : 0 ≤ plc r (jf r (quP r (y % r 0)) 0) := by rw [plc_self hC.gi.1.2.2.2.2.1 qa.1]; exact qa.1.1
      refine V_aload_n (pc := 344) e_L_law_344 rfl (Or.inl ⟨_, rfl⟩) ?_
      refine V_aload_n (pc := 345) e_L_law_345 rfl (Or.inl ⟨_, rfl⟩) ?_
      refine V_iload (pc := 346) e_L_law_346 rfl ?_
      refine V_aload_n (pc := 348) e_L_law_348 rfl (Or.inl ⟨_, rfl⟩) ?_
      refine V_iconst (pc := 349) e_L_law_349 ?_
      refine V_cV1 (pc := 350) ca_8_13 e_L_law_350 (by decide) (Nat.le_of_ble_eq_true rfl) (by decide) rfl (by decide) (q_count (x := r 0) hC (by decide) rfl (fun S hC => ?_))
      refine V_irem (pc := 353) e_L_law_353 (by omega) (by omega) ?_
      refine V_cV1 (pc := 354) ca_8_22 e_L_law_354 (by decide) (Nat.le_of_ble_eq_true rfl) (by decide) rfl (by decide) (q_queuedP (t := y % r 0) hC ym (fun S hC => ?_))
      refine V_cS2 (pc := 357) ca_8_127 e_L_law_357 (by decide) (Nat.le_of_ble_eq_true rfl) (c_L_isFinished (by omega) hj hC hp (fun S sv ρ hC => ?_))
      refine V_if_eq (pc := 360) e_L_law_360 (by decide) (by decide) (fun h => absurd h (by decide)) (fun _ => ?_)
      exact V_lq [(0, .retAddr 3), (1, .ref 0), (2, zI 1), (3, zI ((n : Nat) : Int))] ⟨⟨_, rfl, rfl⟩, ⟨_, rfl, rfl⟩, ⟨_, rfl, rfl⟩, ⟨_, rfl, rfl⟩, trivial⟩ (t_law_363 hL hB hn k (by omega) hC)
theorem t_law_307 {L : Nat} {xs : Nat → Int32} (hL : L ≤ 260) {Q : Option Value → Sto → Prop} {B : Int} {S : Sto} {r : Int → Int} {sv : Int} {ρ : Int → Int → Int} {rf : Int} {B0 : Int} (hB : B0 ≤ 700000) {n : Nat} (hn : n < 60) (k : ∀ (S : Sto) (r : Int → Int) (sv : Int) (ρ : Int → Int → Int) (rf : Int), CL (B0 + 5600) (L, xs) S r sv ρ rf → V M_L_law 144 46 [(0, .retAddr 3), (1, .ref 0), (2, zI 1), (3, zI (((n + 1) : Nat) : Int))] [] 144 S Q) {y : Int} (hy : 0 ≤ y ∧ y < 1000000) (hb : B ≤ B0 + 300) (hC : CL B (L, xs) S r sv ρ rf) : V M_L_law 144 307 [(0, .retAddr 3), (1, .ref 0), (2, zI 1), (3, zI ((n : Nat) : Int)), (5, zI y)] [] 144 S Q := by
  refine V_iload_n (pc := 307) e_L_law_307 rfl ?_
  refine V_iconst (pc := 308) e_L_law_308 ?_
  refine V_irem (pc := 309) e_L_law_309 (by omega) (by decide) ?_
  refine V_iconst (pc := 310) e_L_law_310 ?_
  refine V_icmp_ne (pc := 311) e_L_law_311 (by decide) (by omega) (by decide) (fun h311 => ?_) (fun h311 => ?_)
  · exact V_lq [(0, .retAddr 3), (1, .ref 0), (2, zI 1), (3, zI ((n : Nat) : Int)), (5, zI y)] ⟨⟨_, rfl, rfl⟩, ⟨_, rfl, rfl⟩, ⟨_, rfl, rfl⟩, ⟨_, rfl, rfl⟩, ⟨_, rfl, rfl⟩, trivial⟩ (t_law_328 hL hB hn k hy (by omega) hC)
  · refine V_aload_n (pc := 314) e_L_law_314 rfl (Or.inl ⟨_, rfl⟩) ?_
    refine V_iconst (pc := 315) e_L_law_315 ?_
    refine V_iload (pc := 316) e_L_law_316 rfl ?_
    refine V_bipush (pc := 318) (by decide) e_L_law_318 ?_
    refine V_irem (pc := 320) e_L_law_320 (by omega) (by decide) ?_
    refine V_iadd (pc := 321) e_L_law_321 ?_
    refine V_cS2 (pc := 322) ca_8_123 e_L_law_322 (by decide) (Nat.le_of_ble_eq_true rfl) (c_L_isRun (by omega) (by omega) hC (fun S sv ρ hC => ?_))
    refine V_if_eq (pc := 325) e_L_law_325 (by decide) (by decide) (fun h => absurd h (by decide)) (fun _ => ?_)
    exact V_lq [(0, .retAddr 3), (1, .ref 0), (2, zI 1), (3, zI ((n : Nat) : Int)), (5, zI y)] ⟨⟨_, rfl, rfl⟩, ⟨_, rfl, rfl⟩, ⟨_, rfl, rfl⟩, ⟨_, rfl, rfl⟩, ⟨_, rfl, rfl⟩, trivial⟩ (t_law_328 hL hB hn k hy (by omega) hC)
theorem t_law_265 {L : Nat} {xs : Nat → Int32} (hL : L ≤ 260) {Q : Option Value → Sto → Prop} {B : Int} {S : Sto} {r : Int → Int} {sv : Int} {ρ : Int → Int → Int} {rf : Int} {B0 : Int} (hB : B0 ≤ 700000) {n : Nat} (hn : n < 60) (k : ∀ (S : Sto) (r : Int → Int) (sv : Int) (ρ : Int → Int → Int) (rf : Int), CL (B0 + 5600) (L, xs) S r sv ρ rf → V M_L_law 144 46 [(0, .retAddr 3), (1, .ref 0), (2, zI 1), (3, zI (((n + 1) : Nat) : Int))] [] 144 S Q) {y : Int} (hy : 0 ≤ y ∧ y < 1000000) (hb : B ≤ B0 + 300) (hC : CL B (L, xs) S r sv ρ rf) : V M_L_law 144 265 [(0, .retAddr 3), (1, .ref 0), (2, zI 1), (3, zI ((n : Nat) : Int)), (5, zI y)] [] 144 S Q := by
  refine V_iload_n (pc := 265) e_L_law_265 rfl ?_
  refine V_if_eq (pc := 266) e_L_law_266 (by decide) (by decide) (fun h => absurd h (by decide)) (fun _ => ?_)
  refine V_aload_n (pc := 269) e_L_law_269 rfl (Or.inl ⟨_, rfl⟩) ?_
  refine V_cS1 (pc := 270) ca_8_92 e_L_law_270 (by decide) (Nat.le_of_ble_eq_true rfl) (c_L_areSheets hC (by omega) (fun S hC => ?_))
  refine V_if_eq (pc := 273) e_L_law_273 (by decide) (by decide) (fun h => absurd h (by decide)) (fun _ => ?_)
  refine V_aload_n (pc := 276) e_L_law_276 rfl (Or.inl ⟨_, rfl⟩) ?_
  refine V_cS1 (pc := 277) ca_8_96 e_L_law_277 (by decide) (Nat.le_of_ble_eq_true rfl) (c_L_areJobs hC (by omega) (fun S hC => ?_))
  refine V_if_eq (pc := 280) e_L_law_280 (by decide) (by decide) (fun h => absurd h (by decide)) (fun _ => ?_)
  refine V_iload_n (pc := 283) e_L_law_283 rfl ?_
  refine V_iconst (pc := 284) e_L_law_284 ?_
  refine V_irem (pc := 285) e_L_law_285 (by omega) (by decide) ?_
  refine V_iconst (pc := 286) e_L_law_286 ?_
  refine V_icmp_ne (pc := 287) e_L_law_287 (by decide) (by omega) (by decide) (fun h287 => ?_) (fun h287 => ?_)
  · exact V_lq [(0, .retAddr 3), (1, .ref 0), (2, zI 1), (3, zI ((n : Nat) : Int)), (5, zI y)] ⟨⟨_, rfl, rfl⟩, ⟨_, rfl, rfl⟩, ⟨_, rfl, rfl⟩, ⟨_, rfl, rfl⟩, ⟨_, rfl, rfl⟩, trivial⟩ (t_law_307 hL hB hn k hy (by omega) hC)
  · refine V_aload_n (pc := 290) e_L_law_290 rfl (Or.inl ⟨_, rfl⟩) ?_
    refine V_iload (pc := 291) e_L_law_291 rfl ?_
    refine V_iconst (pc := 293) e_L_law_293 ?_
    refine V_irem (pc := 294) e_L_law_294 (by omega) (by decide) ?_
    refine V_iload (pc := 295) e_L_law_295 rfl ?_
    refine V_iconst (pc := 297) e_L_law_297 ?_
    refine V_idiv (pc := 298) e_L_law_298 (by omega) (by decide) ?_
    refine V_iconst (pc := 299) e_L_law_299 ?_
    refine V_irem (pc := 300) e_L_law_300 (by omega) (by decide) ?_
    refine V_cS3 (pc := 301) ca_8_119 e_L_law_301 (by decide) (Nat.le_of_ble_eq_true rfl) (c_L_isFilled (by omega) (by omega) (by omega) hC (fun S sv ρ hC => ?_))
    refine V_if_eq (pc := 304) e_L_law_304 (by decide) (by decide) (fun h => absurd h (by decide)) (fun _ => ?_)
    exact V_lq [(0, .retAddr 3), (1, .ref 0), (2, zI 1), (3, zI ((n : Nat) : Int)), (5, zI y)] ⟨⟨_, rfl, rfl⟩, ⟨_, rfl, rfl⟩, ⟨_, rfl, rfl⟩, ⟨_, rfl, rfl⟩, ⟨_, rfl, rfl⟩, trivial⟩ (t_law_307 hL hB hn k hy (by omega) hC)
theorem t_law_211b {L : Nat} {xs : Nat → Int32} (hL : L ≤ 260) {Q : Option Value → Sto → Prop} {S : Sto} {r : Int → Int} {sv : Int} {ρ : Int → Int → Int} {rf : Int} {B0 : Int} (hB : B0 ≤ 700000) {n : Nat} (hn : n < 60) (k : ∀ (S : Sto) (r : Int → Int) (sv : Int) (ρ : Int → Int → Int) (rf : Int), CL (B0 + 5600) (L, xs) S r sv ρ rf → V M_L_law 144 46 [(0, .retAddr 3), (1, .ref 0), (2, zI 1), (3, zI (((n + 1) : Nat) : Int))] [] 144 S Q) {y : Int} (hy : 0 ≤ y ∧ y < 1000000) {x : Int} (hv : 0 ≤ sv ∧ sv ≤ 4) {v : Int} (v0 : 0 ≤ v ∧ v < 2147483648) {r1 : Int → Int} (hC : CL (B0 + 300) (L, xs) S r1 (recS sv) (kpR ρ sv r) rf) : V M_L_law 144 211 [(0, .retAddr 3), (1, .ref 0), (2, zI 1), (3, zI ((n : Nat) : Int)), (4, zI x), (5, zI y), (6, .long (PH r sv)), (8, zI sv), (10, zI v)] [] 144 S Q := by
  have g1 := recS_rg hv
  refine V_iload_n (pc := 211) e_L_law_211 rfl ?_
  refine V_if_eq (pc := 212) e_L_law_212 (by decide) (by decide) (fun h => absurd h (by decide)) (fun _ => ?_)
  refine V_iload (pc := 215) e_L_law_215 rfl ?_
  refine V_if_lt (pc := 217) e_L_law_217 (by decide) (by omega) (fun h217 => ?_) (fun h217 => ?_)
  · exact V_lq [(0, .retAddr 3), (1, .ref 0), (2, zI 1), (3, zI ((n : Nat) : Int)), (5, zI y)] ⟨⟨_, rfl, rfl⟩, ⟨_, rfl, rfl⟩, ⟨_, rfl, rfl⟩, ⟨_, rfl, rfl⟩, ⟨_, rfl, rfl⟩, trivial⟩ (t_law_265 hL hB hn k hy (by omega) hC)
  · refine V_iload (pc := 220) e_L_law_220 rfl ?_
    refine V_bipush (pc := 222) (by decide) e_L_law_222 ?_
    refine V_ishr (pc := 224) e_L_law_224 (fun z224 r_z224 => ?_)
    refine V_iconst (pc := 225) e_L_law_225 ?_
    refine V_iand (pc := 226) e_L_law_226 ?_
    have hb := ba_rg z224 3
    refine V_if_ne (pc := 227) e_L_law_227 (by decide) (by omega) (fun h227 => ?_) (fun h227 => ?_)
    · exact V_lq [(0, .retAddr 3), (1, .ref 0), (2, zI 1), (3, zI ((n : Nat) : Int)), (5, zI y)] ⟨⟨_, rfl, rfl⟩, ⟨_, rfl, rfl⟩, ⟨_, rfl, rfl⟩, ⟨_, rfl, rfl⟩, ⟨_, rfl, rfl⟩, trivial⟩ (t_law_265 hL hB hn k hy (by omega) hC)
    · refine V_aload_n (pc := 230) e_L_law_230 rfl (Or.inl ⟨_, rfl⟩) ?_
      refine V_cV0 (pc := 231) ca_8_89 e_L_law_231 (by decide) (Nat.le_of_ble_eq_true rfl) (by decide) rfl (by decide) (q_undoX hC (by omega) kpR_top (fun S hC => ?_))
      refine V_iload (pc := 234) e_L_law_234 rfl ?_
      refine V_iconst (pc := 236) e_L_law_236 ?_
      refine V_icmp_ne (pc := 237) e_L_law_237 (by decide) (by omega) (by decide) (fun h237 => ?_) (fun h237 => ?_)
      · refine V_iload (pc := 244) e_L_law_244 rfl ?_
        refine V_icmp_ne (pc := 246) e_L_law_246 (by decide) (by omega) (by omega) (fun h246 => ?_) (fun h246 => ?_)
        · exfalso
          omega
        · refine V_aload_n (pc := 249) e_L_law_249 rfl (Or.inl ⟨_, rfl⟩) ?_
          refine V_cS1 (pc := 250) ca_8_42 e_L_law_250 (by decide) (Nat.le_of_ble_eq_true rfl) (c_L_printE (x := PH r sv) hC (PH_sv r _ sv) (fun S hC => ?_))
          refine V_lload (pc := 253) e_L_law_253 rfl ?_
          refine V_lsame (pc := 255) e_L_law_255 ?_
          refine V_if_ne (pc := 256) e_L_law_256 (by decide) (by decide) (fun h => absurd (by decide) h) (fun _ => ?_)
          refine V_iconst (pc := 259) e_L_law_259 ?_
          refine V_goto (pc := 260) e_L_law_260 (by decide) ?_
          refine V_istore_n (pc := 264) e_L_law_264 (by decide) ?_
          exact V_lq [(0, .retAddr 3), (1, .ref 0), (2, zI 1), (3, zI ((n : Nat) : Int)), (5, zI y)] ⟨⟨_, rfl, rfl⟩, ⟨_, rfl, rfl⟩, ⟨_, rfl, rfl⟩, ⟨_, rfl, rfl⟩, ⟨_, rfl, rfl⟩, trivial⟩ (t_law_265 hL hB hn k hy (by omega) hC)
      · refine V_iconst (pc := 240) e_L_law_240 ?_
        refine V_goto (pc := 241) e_L_law_241 (by decide) ?_
        refine V_icmp_ne (pc := 246) e_L_law_246 (by decide) (by omega) (by decide) (fun h246 => ?_) (fun h246 => ?_)
        · exfalso
          omega
        · refine V_aload_n (pc := 249) e_L_law_249 rfl (Or.inl ⟨_, rfl⟩) ?_
          refine V_cS1 (pc := 250) ca_8_42 e_L_law_250 (by decide) (Nat.le_of_ble_eq_true rfl) (c_L_printE (x := PH r sv) hC (PH_sv r _ sv) (fun S hC => ?_))
          refine V_lload (pc := 253) e_L_law_253 rfl ?_
          refine V_lsame (pc := 255) e_L_law_255 ?_
          refine V_if_ne (pc := 256) e_L_law_256 (by decide) (by decide) (fun h => absurd (by decide) h) (fun _ => ?_)
          refine V_iconst (pc := 259) e_L_law_259 ?_
          refine V_goto (pc := 260) e_L_law_260 (by decide) ?_
          refine V_istore_n (pc := 264) e_L_law_264 (by decide) ?_
          exact V_lq [(0, .retAddr 3), (1, .ref 0), (2, zI 1), (3, zI ((n : Nat) : Int)), (5, zI y)] ⟨⟨_, rfl, rfl⟩, ⟨_, rfl, rfl⟩, ⟨_, rfl, rfl⟩, ⟨_, rfl, rfl⟩, ⟨_, rfl, rfl⟩, trivial⟩ (t_law_265 hL hB hn k hy (by omega) hC)
theorem t_law_123 {L : Nat} {xs : Nat → Int32} (hL : L ≤ 260) {Q : Option Value → Sto → Prop} {S : Sto} {r : Int → Int} {sv : Int} {ρ : Int → Int → Int} {rf : Int} {B0 : Int} (hB : B0 ≤ 700000) {n : Nat} (hn : n < 60) (k : ∀ (S : Sto) (r : Int → Int) (sv : Int) (ρ : Int → Int → Int) (rf : Int), CL (B0 + 5600) (L, xs) S r sv ρ rf → V M_L_law 144 46 [(0, .retAddr 3), (1, .ref 0), (2, zI 1), (3, zI (((n + 1) : Nat) : Int))] [] 144 S Q) {y : Int} (hy : 0 ≤ y ∧ y < 1000000) {x : Int} (hx : -2147483648 ≤ x ∧ x < 2147483648) {kd : Int} (hk : 0 ≤ kd ∧ kd < 20) (hC : CL B0 (L, xs) S r sv ρ rf) : V M_L_law 144 123 [(0, .retAddr 3), (1, .ref 0), (3, zI ((n : Nat) : Int)), (4, zI x), (5, zI y), (6, .long (PH r sv)), (8, zI sv), (9, zI kd)] [] 144 S Q := by
  have hv := hC.sv
  have g1 := recS_rg hv
  refine V_aload_n (pc := 123) e_L_law_123 rfl (Or.inl ⟨_, rfl⟩) ?_
  refine V_bipush (pc := 124) (by decide) e_L_law_124 ?_
  refine V_iload (pc := 126) e_L_law_126 rfl ?_
  refine V_iconst (pc := 128) e_L_law_128 ?_
  refine V_ishr (pc := 129) e_L_law_129 (fun z129 r_z129 => ?_)
  refine V_ldc (pc := 130) (e := 99999) (by decide) rfl e_L_law_130 ?_
  refine V_cS2 (pc := 132) ca_8_99 e_L_law_132 (by decide) (Nat.le_of_ble_eq_true rfl) (c_L_low (by decide) (fun z hz => ?_))
  refine V_imul (pc := 135) e_L_law_135 ?_
  refine V_iload (pc := 136) e_L_law_136 rfl ?_
  refine V_iadd (pc := 138) e_L_law_138 ?_
  refine V_iload (pc := 139) e_L_law_139 rfl ?_
  refine V_cS3 (pc := 141) ca_8_115 e_L_law_141 (by decide) (Nat.le_of_ble_eq_true rfl) (c_L_acts (by omega) (by omega) hy hC (fun v S rf v0 hC => ?_) (fun v S r1 rf v0 hC => ?_))
  · refine V_istore (pc := 144) e_L_law_144 (by decide) ?_
    refine V_iload (pc := 146) e_L_law_146 rfl ?_
    refine V_bipush (pc := 148) (by decide) e_L_law_148 ?_
    refine V_icmp_lt (pc := 150) e_L_law_150 (by decide) (by omega) (by decide) (fun h150 => ?_) (fun h150 => ?_)
    · exfalso
      omega
    · refine V_iload (pc := 153) e_L_law_153 rfl ?_
      refine V_if_lt (pc := 155) e_L_law_155 (by decide) (by omega) (fun h155 => ?_) (fun h155 => ?_)
      · refine V_aload_n (pc := 184) e_L_law_184 rfl (Or.inl ⟨_, rfl⟩) ?_
        refine V_bipush (pc := 185) (by decide) e_L_law_185 ?_
        refine V_cV1 (pc := 187) ca_8_13 e_L_law_187 (by decide) (Nat.le_of_ble_eq_true rfl) (by decide) rfl (by decide) (q_count (x := sv) hC (by decide) rfl (fun S hC => ?_))
        refine V_iload (pc := 190) e_L_law_190 rfl ?_
        refine V_icmp_ne (pc := 192) e_L_law_192 (by decide) (by omega) (by omega) (fun h192 => ?_) (fun h192 => ?_)
        · exfalso
          omega
        · refine V_aload_n (pc := 195) e_L_law_195 rfl (Or.inl ⟨_, rfl⟩) ?_
          refine V_cS1 (pc := 196) ca_8_42 e_L_law_196 (by decide) (Nat.le_of_ble_eq_true rfl) (c_L_printE (x := PH r sv) hC (PH_sv r _ sv) (fun S hC => ?_))
          refine V_lload (pc := 199) e_L_law_199 rfl ?_
          refine V_lsame (pc := 201) e_L_law_201 ?_
          refine V_if_ne (pc := 202) e_L_law_202 (by decide) (by decide) (fun h => absurd (by decide) h) (fun _ => ?_)
          refine V_iconst (pc := 205) e_L_law_205 ?_
          refine V_goto (pc := 206) e_L_law_206 (by decide) ?_
          refine V_istore_n (pc := 210) e_L_law_210 (by decide) ?_
          refine V_iload_n (pc := 211) e_L_law_211 rfl ?_
          refine V_if_eq (pc := 212) e_L_law_212 (by decide) (by decide) (fun h => absurd h (by decide)) (fun _ => ?_)
          refine V_iload (pc := 215) e_L_law_215 rfl ?_
          refine V_if_lt (pc := 217) e_L_law_217 (by decide) (by omega) (fun h217 => ?_) (fun h217 => ?_)
          · exact V_lq [(0, .retAddr 3), (1, .ref 0), (2, zI 1), (3, zI ((n : Nat) : Int)), (5, zI y)] ⟨⟨_, rfl, rfl⟩, ⟨_, rfl, rfl⟩, ⟨_, rfl, rfl⟩, ⟨_, rfl, rfl⟩, ⟨_, rfl, rfl⟩, trivial⟩ (t_law_265 hL hB hn k hy (by omega) hC)
          · exfalso
            omega
      · exfalso
        omega
  · refine V_istore (pc := 144) e_L_law_144 (by decide) ?_
    refine V_iload (pc := 146) e_L_law_146 rfl ?_
    refine V_bipush (pc := 148) (by decide) e_L_law_148 ?_
    refine V_icmp_lt (pc := 150) e_L_law_150 (by decide) (by omega) (by decide) (fun h150 => ?_) (fun h150 => ?_)
    · exfalso
      omega
    · refine V_iload (pc := 153) e_L_law_153 rfl ?_
      refine V_if_lt (pc := 155) e_L_law_155 (by decide) (by omega) (fun h155 => ?_) (fun h155 => ?_)
      · exfalso
        omega
      · refine V_aload_n (pc := 158) e_L_law_158 rfl (Or.inl ⟨_, rfl⟩) ?_
        refine V_bipush (pc := 159) (by decide) e_L_law_159 ?_
        refine V_cV1 (pc := 161) ca_8_13 e_L_law_161 (by decide) (Nat.le_of_ble_eq_true rfl) (by decide) rfl (by decide) (q_count (x := recS sv) hC (by decide) rfl (fun S hC => ?_))
        refine V_iload (pc := 164) e_L_law_164 rfl ?_
        refine V_iconst (pc := 166) e_L_law_166 ?_
        refine V_icmp_ne (pc := 167) e_L_law_167 (by decide) (by omega) (by decide) (fun h167 => ?_) (fun h167 => ?_)
        · refine V_iload (pc := 174) e_L_law_174 rfl ?_
          refine V_iconst (pc := 176) e_L_law_176 ?_
          refine V_iadd (pc := 177) e_L_law_177 ?_
          refine V_icmp_ne (pc := 178) e_L_law_178 (by decide) (by omega) (by omega) (fun h178 => ?_) (fun h178 => ?_)
          · exfalso
            omega
          · refine V_goto (pc := 181) e_L_law_181 (by decide) ?_
            refine V_iconst (pc := 205) e_L_law_205 ?_
            refine V_goto (pc := 206) e_L_law_206 (by decide) ?_
            refine V_istore_n (pc := 210) e_L_law_210 (by decide) ?_
            exact V_lq [(0, .retAddr 3), (1, .ref 0), (2, zI 1), (3, zI ((n : Nat) : Int)), (4, zI x), (5, zI y), (6, .long (PH r sv)), (8, zI sv), (10, zI v)] ⟨⟨_, rfl, rfl⟩, ⟨_, rfl, rfl⟩, ⟨_, rfl, rfl⟩, ⟨_, rfl, rfl⟩, ⟨_, rfl, rfl⟩, ⟨_, rfl, rfl⟩, ⟨_, rfl, rfl⟩, ⟨_, rfl, rfl⟩, ⟨_, rfl, rfl⟩, trivial⟩ (t_law_211b hL hB hn k hy hv v0 hC)
        · refine V_iconst (pc := 170) e_L_law_170 ?_
          refine V_goto (pc := 171) e_L_law_171 (by decide) ?_
          refine V_icmp_ne (pc := 178) e_L_law_178 (by decide) (by omega) (by decide) (fun h178 => ?_) (fun h178 => ?_)
          · exfalso
            omega
          · refine V_goto (pc := 181) e_L_law_181 (by decide) ?_
            refine V_iconst (pc := 205) e_L_law_205 ?_
            refine V_goto (pc := 206) e_L_law_206 (by decide) ?_
            refine V_istore_n (pc := 210) e_L_law_210 (by decide) ?_
            exact V_lq [(0, .retAddr 3), (1, .ref 0), (2, zI 1), (3, zI ((n : Nat) : Int)), (4, zI x), (5, zI y), (6, .long (PH r sv)), (8, zI sv), (10, zI v)] ⟨⟨_, rfl, rfl⟩, ⟨_, rfl, rfl⟩, ⟨_, rfl, rfl⟩, ⟨_, rfl, rfl⟩, ⟨_, rfl, rfl⟩, ⟨_, rfl, rfl⟩, ⟨_, rfl, rfl⟩, ⟨_, rfl, rfl⟩, ⟨_, rfl, rfl⟩, trivial⟩ (t_law_211b hL hB hn k hy hv v0 hC)
theorem t_law_95 {L : Nat} {xs : Nat → Int32} (hL : L ≤ 260) {Q : Option Value → Sto → Prop} {S : Sto} {r : Int → Int} {sv : Int} {ρ : Int → Int → Int} {rf : Int} {B0 : Int} (hB : B0 ≤ 700000) {n : Nat} (hn : n < 60) (k : ∀ (S : Sto) (r : Int → Int) (sv : Int) (ρ : Int → Int → Int) (rf : Int), CL (B0 + 5600) (L, xs) S r sv ρ rf → V M_L_law 144 46 [(0, .retAddr 3), (1, .ref 0), (2, zI 1), (3, zI (((n + 1) : Nat) : Int))] [] 144 S Q) {y : Int} (hy : 0 ≤ y ∧ y < 1000000) {x : Int} (hx : -2147483648 ≤ x ∧ x < 2147483648) (hC : CL B0 (L, xs) S r sv ρ rf) : V M_L_law 144 95 [(0, .retAddr 3), (1, .ref 0), (3, zI ((n : Nat) : Int)), (4, zI x), (5, zI y), (6, .long (PH r sv)), (8, zI sv)] [] 144 S Q := by
  refine V_iload_n (pc := 95) e_L_law_95 rfl ?_
  refine V_iconst (pc := 96) e_L_law_96 ?_
  refine V_icmp_ge (pc := 97) e_L_law_97 (by decide) (by omega) (by decide) (fun h97 => ?_) (fun h97 => ?_)
  · refine V_iload_n (pc := 104) e_L_law_104 rfl ?_
    refine V_bipush (pc := 105) (by decide) e_L_law_105 ?_
    refine V_icmp_ge (pc := 107) e_L_law_107 (by decide) (by omega) (by decide) (fun h107 => ?_) (fun h107 => ?_)
    · refine V_iload (pc := 114) e_L_law_114 rfl ?_
      refine V_bipush (pc := 116) (by decide) e_L_law_116 ?_
      refine V_cS2 (pc := 118) ca_8_99 e_L_law_118 (by decide) (Nat.le_of_ble_eq_true rfl) (c_L_low (by decide) (fun z hz => ?_))
      refine V_istore (pc := 121) e_L_law_121 (by decide) ?_
      exact V_lq [(0, .retAddr 3), (1, .ref 0), (3, zI ((n : Nat) : Int)), (4, zI x), (5, zI y), (6, .long (PH r sv)), (8, zI sv), (9, zI z)] ⟨⟨_, rfl, rfl⟩, ⟨_, rfl, rfl⟩, ⟨_, rfl, rfl⟩, ⟨_, rfl, rfl⟩, ⟨_, rfl, rfl⟩, ⟨_, rfl, rfl⟩, ⟨_, rfl, rfl⟩, ⟨_, rfl, rfl⟩, trivial⟩ (t_law_123 hL hB hn k hy hx (by omega) hC)
    · refine V_iconst (pc := 110) e_L_law_110 ?_
      refine V_goto (pc := 111) e_L_law_111 (by decide) ?_
      refine V_istore (pc := 121) e_L_law_121 (by decide) ?_
      exact V_lq [(0, .retAddr 3), (1, .ref 0), (3, zI ((n : Nat) : Int)), (4, zI x), (5, zI y), (6, .long (PH r sv)), (8, zI sv), (9, zI 0)] ⟨⟨_, rfl, rfl⟩, ⟨_, rfl, rfl⟩, ⟨_, rfl, rfl⟩, ⟨_, rfl, rfl⟩, ⟨_, rfl, rfl⟩, ⟨_, rfl, rfl⟩, ⟨_, rfl, rfl⟩, ⟨_, rfl, rfl⟩, trivial⟩ (t_law_123 hL hB hn k hy hx (by omega) hC)
  · refine V_iconst (pc := 100) e_L_law_100 ?_
    refine V_goto (pc := 101) e_L_law_101 (by decide) ?_
    refine V_istore (pc := 121) e_L_law_121 (by decide) ?_
    exact V_lq [(0, .retAddr 3), (1, .ref 0), (3, zI ((n : Nat) : Int)), (4, zI x), (5, zI y), (6, .long (PH r sv)), (8, zI sv), (9, zI 4)] ⟨⟨_, rfl, rfl⟩, ⟨_, rfl, rfl⟩, ⟨_, rfl, rfl⟩, ⟨_, rfl, rfl⟩, ⟨_, rfl, rfl⟩, ⟨_, rfl, rfl⟩, ⟨_, rfl, rfl⟩, ⟨_, rfl, rfl⟩, trivial⟩ (t_law_123 hL hB hn k hy hx (by omega) hC)
theorem t_law_391 {L : Nat} {xs : Nat → Int32} (hL : L ≤ 260) {Q : Option Value → Sto → Prop} {B : Int} {S : Sto} {r : Int → Int} {sv : Int} {ρ : Int → Int → Int} {rf : Int} (hB : B ≤ 900000) (k : ∀ S : Sto, Q (some (zI 1)) S) (hC : CL B (L, xs) S r sv ρ rf) : V M_L_law 144 391 [(0, .retAddr 3), (1, .ref 0), (2, zI 1)] [] 144 S Q := by
  refine V_iload_n (pc := 391) e_L_law_391 rfl ?_
  refine V_if_eq (pc := 392) e_L_law_392 (by decide) (by decide) (fun h => absurd h (by decide)) (fun _ => ?_)
  refine V_aload_n (pc := 395) e_L_law_395 rfl (Or.inl ⟨_, rfl⟩) ?_
  refine V_cS1 (pc := 396) ca_8_106 e_L_law_396 (by decide) (Nat.le_of_ble_eq_true rfl) (c_L_refused hC (by omega) (fun S rf hC => ?_))
  refine V_if_eq (pc := 399) e_L_law_399 (by decide) (by decide) (fun h => absurd h (by decide)) (fun _ => ?_)
  refine V_aload_n (pc := 402) e_L_law_402 rfl (Or.inl ⟨_, rfl⟩) ?_
  refine V_cS1 (pc := 403) ca_8_92 e_L_law_403 (by decide) (Nat.le_of_ble_eq_true rfl) (c_L_areSheets hC (by omega) (fun S hC => ?_))
  refine V_if_eq (pc := 406) e_L_law_406 (by decide) (by decide) (fun h => absurd h (by decide)) (fun _ => ?_)
  refine V_iconst (pc := 409) e_L_law_409 ?_
  refine V_goto (pc := 410) e_L_law_410 (by decide) ?_
  refine V_ret (pc := 414) (v := some (zI _)) ⟨e_L_law_414, _, rfl, by decide⟩ ?_
  exact k S
theorem l_law_46 {L : Nat} {xs : Nat → Int32} (hL : L ≤ 260) {Q : Option Value → Sto → Prop} (k : ∀ S : Sto, Q (some (zI 1)) S) : ∀ n : Nat, n ≤ 60 → ∀ (S : Sto) (r : Int → Int) (sv : Int) (ρ : Int → Int → Int) (rf : Int), CL (5600 * (n : Int)) (L, xs) S r sv ρ rf → V M_L_law 144 46 [(0, .retAddr 3), (1, .ref 0), (2, zI 1), (3, zI ((n : Nat) : Int))] [] 144 S Q := by
  refine loop_nat 60 (fun n hn ih => ?_)
  intro S r sv ρ rf hC
  refine V_iload_n (pc := 46) e_L_law_46 rfl ?_
  refine V_bipush (pc := 47) (by decide) e_L_law_47 ?_
  refine V_icmp_ge (pc := 49) e_L_law_49 (by decide) (by omega) (by decide) (fun h49 => ?_) (fun h49 => ?_)
  · exact V_lq [(0, .retAddr 3), (1, .ref 0), (2, zI 1)] ⟨⟨_, rfl, rfl⟩, ⟨_, rfl, rfl⟩, ⟨_, rfl, rfl⟩, trivial⟩ (t_law_391 hL (by omega) k hC)
  · refine V_iload_n (pc := 52) e_L_law_52 rfl ?_
    refine V_if_eq (pc := 53) e_L_law_53 (by decide) (by decide) (fun h => absurd h (by decide)) (fun _ => ?_)
    refine V_aload_n (pc := 56) e_L_law_56 rfl (Or.inr (Or.inr ⟨_, rfl⟩)) ?_
    refine V_iconst (pc := 57) e_L_law_57 ?_
    refine V_iload_n (pc := 58) e_L_law_58 rfl ?_
    refine V_imul (pc := 59) e_L_law_59 ?_
    refine V_cS2 (pc := 60) ca_8_109 e_L_law_60 (by decide) (Nat.le_of_ble_eq_true rfl) (c_L_cell hC.sc hL (by omega) (fun x hx => ?_))
    refine V_istore (pc := 63) e_L_law_63 (by decide) ?_
    refine V_aload_n (pc := 65) e_L_law_65 rfl (Or.inr (Or.inr ⟨_, rfl⟩)) ?_
    refine V_iconst (pc := 66) e_L_law_66 ?_
    refine V_iload_n (pc := 67) e_L_law_67 rfl ?_
    refine V_imul (pc := 68) e_L_law_68 ?_
    refine V_iconst (pc := 69) e_L_law_69 ?_
    refine V_iadd (pc := 70) e_L_law_70 ?_
    refine V_cS2 (pc := 71) ca_8_109 e_L_law_71 (by decide) (Nat.le_of_ble_eq_true rfl) (c_L_cell hC.sc hL (by omega) (fun x2 hx2 => ?_))
    refine V_ldc (pc := 74) (e := 1000000) (by decide) rfl e_L_law_74 ?_
    refine V_cS2 (pc := 76) ca_8_99 e_L_law_76 (by decide) (Nat.le_of_ble_eq_true rfl) (c_L_low (by decide) (fun y hy => ?_))
    refine V_istore (pc := 79) e_L_law_79 (by decide) ?_
    refine V_aload_n (pc := 81) e_L_law_81 rfl (Or.inl ⟨_, rfl⟩) ?_
    refine V_cS1 (pc := 82) ca_8_42 e_L_law_82 (by decide) (Nat.le_of_ble_eq_true rfl) (c_L_print hC (fun S hC => ?_))
    refine V_lstore (pc := 85) e_L_law_85 (by decide) ?_
    refine V_aload_n (pc := 87) e_L_law_87 rfl (Or.inl ⟨_, rfl⟩) ?_
    refine V_bipush (pc := 88) (by decide) e_L_law_88 ?_
    refine V_cV1 (pc := 90) ca_8_13 e_L_law_90 (by decide) (Nat.le_of_ble_eq_true rfl) (by decide) rfl (by decide) (q_count (x := sv) hC (by decide) rfl (fun S hC => ?_))
    refine V_istore (pc := 93) e_L_law_93 (by decide) ?_
    exact V_lq [(0, .retAddr 3), (1, .ref 0), (3, zI ((n : Nat) : Int)), (4, zI x), (5, zI y), (6, .long (PH r sv)), (8, zI sv)] ⟨⟨_, rfl, rfl⟩, ⟨_, rfl, rfl⟩, ⟨_, rfl, rfl⟩, ⟨_, rfl, rfl⟩, ⟨_, rfl, rfl⟩, ⟨_, rfl, rfl⟩, ⟨_, rfl, rfl⟩, trivial⟩ (t_law_95 hL (B0 := 5600 * (n : Int)) (by omega) (by omega) (fun S r sv ρ rf hC => ih (by omega) S r sv ρ rf (by rw [show 5600 * ((n + 1 : Nat) : Int) = 5600 * (n : Int) + 5600 by omega]; exact hC)) hy hx hC)
theorem EI_r0 : EI r0 := by
  have e : ∀ p : Int, 0 ≤ p → p < r0 0 → False := fun p a b => by
    have z : r0 0 = 0 := by decide +kernel
    omega
  refine ⟨by unfold EA; decide +kernel, ⟨by decide +kernel, fun k a b => ?_⟩, fun p a b => (e p a b).elim⟩
  have z : r0 9 = 0 := by decide +kernel
  omega
theorem GI_r0 : GI 0 r0 := ⟨RI_r0, EI_r0, by decide +kernel, by decide +kernel, by decide +kernel⟩
