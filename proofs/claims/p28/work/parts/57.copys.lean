/-! a static's ints copied into a new row -/
theorem V_copyS {M : MI} {N N1 pc : Nat} {ls : List (Nat × Value)} {st : List Value} {Q : Option Value → Sto → Prop} {σ : Sto} {q ds ix : Nat} (ho : othR (miC M) ix = some 1) (hlv : 1 ≤ miV M) (hc : (st.map fun v => v.category).sum ≤ 8) (hd : decode (miB M) pc = .ok (.invokestatic ix, 3)) (hq : q < 3) (ht : ds < N) (hst : sh ds = (1, 6))
    (kk : V M N1 (pc + 3) ls st N (setA σ ds (fun k => if 0 ≤ k ∧ k < 6 then (stV q k.toNat).toInt else σ.1 ds k)) Q) : V M N1 pc ls (zI 6 :: zI 0 :: .ref ds :: zI 0 :: .retAddr q :: st) N σ Q := by
  intro p l e R s m args below meth c g N0 H locs lsA Zq C hW hS hN hl hret
  have e1 := C.2.2.2.2.2.2.1
  have e2 := C.2.2.2.2.2.2.2.1
  have hK := C.2.2.2.2.2.2.2.2.1.1
  obtain ⟨scr, hs1, hs2, hs3, hs4, hs8, hs5, hs7⟩ := (C.2.2.2.2.2.2.2.2.1.2.2.2.2.2.1 q hq).2
  have hw : (wl g N σ)[ds]? = some (gz g + ds, .inl (gC g 0, 6, .inl (zf (σ.1 ds)))) := by rw [wl_at ht, cel_i hst]
  have hP := hW.2
  have hD := wl_D g N σ
  have hc0 : H[(gr g).1 q]? = some scr := by rw [hS.2.1 _ (Array.getElem?_eq_some_iff.mp hs1).1 hs7]; exact hs1
  have hc1 : H[gz g + ds]? = some (vp_cell (gC g 0) (6, .inl (zf (σ.1 ds)))) := hP ds _ hw
  obtain ⟨hs6, k0, hk0, cm0, hkk0⟩ := hs2
  obtain ⟨-, k1, hk1, cm1, hkk1⟩ := (hK.2 0 (gC g 0, .int) rfl).1 6 (fun j => .int (zf (σ.1 ds) j))
  have i0 : (Int32.ofInt 0).toInt = 0 := zi_to (by decide)
  have i6 : (Int32.ofInt 6).toInt = 6 := zi_to (by decide)
  have n0 : (Int32.ofInt 0).toNatClampNeg = 0 := by decide
  have n6 : (Int32.ofInt 6).toNatClampNeg = 6 := by decide
  intro T hT X
  obtain ⟨vm', X', step⟩ := X.arraycopy C.1 C.2.2.2.1 (C.2.2.2.2.1 _ (othOK ho)) (C.2.2.2.2.1 _ uaN) (C.2.2.2.2.1 _ uaS) (C.2.2.2.2.1 _ uaI) (src := (gr g).1 q) (dst := gz g + ds) (cs := scr) (cd := vp_cell (gC g 0) (6, .inl (zf (σ.1 ds)))) (srcPos := Int32.ofInt 0) (destPos := Int32.ofInt 0) (n := Int32.ofInt 6) (by rw [hT]; exact hc0) (by rw [hT]; exact hc1)
    hs6 (fun _ h => by cases h) hs3 (fun h => by cases h) hk0 hk1 hkk0 hkk1 (by simp [refKind]) (by decide) (by decide) (by decide)
    (by rw [i0, i6]; omega)
    (by rw [i0, i6]; show ¬ _ > ((arrV (gC g 0) 6 (fun j => .int (zf (σ.1 ds) j))).slots.size : Int); rw [arrV_size]; decide)
    (fun vm₁ _ i hi => by
      have e : scr.slots.getD ((Int32.ofInt 0).toNatClampNeg + i) .null = .int (stV q ((Int32.ofInt 0).toNatClampNeg + i)) := by
        rw [Array.getD_eq_getD_getElem?, hs5 _ (by rw [n0]; rw [n6] at hi; omega)]
        rfl
      exact ⟨by rw [e]; rfl, by rw [e]; exact trivial⟩)
    (g := F0 m pc lsA ((zI 6 :: zI 0 :: .ref ds :: zI 0 :: .retAddr q :: st).map (tr g))) rfl (by rw [C.2.2.1]; exact hl.1) (rest := st.map (tr g)) rfl (by rw [C.2.1]; exact hd) (by omega) (by show 2 * 0 + _ + _ ≤ _; rw [tr_sum, show nativeFrameWords "java/lang/System" "arraycopy" 5 = 7 by decide +kernel]; omega)
  have ec : copied scr (vp_cell (gC g 0) (6, .inl (zf (σ.1 ds)))) (Int32.ofInt 0) (Int32.ofInt 0) (Int32.ofInt 6) = vp_cell (gC g 0) (6, .inl (va_cpy (stV q) (zf (σ.1 ds)) (Int32.ofInt 0).toNatClampNeg (Int32.ofInt 0).toNatClampNeg (Int32.ofInt 6).toNatClampNeg)) := va_copiedX (fun z => .int z) scr (gC g 0) (stV q) (zf (σ.1 ds)) hs5 (by decide)
  have ez : va_cpy (stV q) (zf (σ.1 ds)) (Int32.ofInt 0).toNatClampNeg (Int32.ofInt 0).toNatClampNeg (Int32.ofInt 6).toNatClampNeg = zf (fun k => if 0 ≤ k ∧ k < 6 then (stV q k.toNat).toInt else σ.1 ds k) := by
    rw [n0, n6]
    funext b
    unfold va_cpy zf
    by_cases hb : b < 6
    · rw [if_pos (by omega)]
      show stV q (0 + (b - 0)) = Int32.ofInt (if 0 ≤ (b : Int) ∧ (b : Int) < 6 then (stV q (b : Int).toNat).toInt else σ.1 ds (b : Int))
      rw [if_pos (by omega), zi_of]
      congr 1
      omega
    · rw [if_neg (by omega)]
      show Int32.ofInt (σ.1 ds (b : Int)) = Int32.ofInt (if 0 ≤ (b : Int) ∧ (b : Int) < 6 then (stV q (b : Int).toNat).toInt else σ.1 ds (b : Int))
      rw [if_neg (by omega)]
  rw [ec, ez] at X' step
  have hlt : gz g + ds < H.size := (Array.getElem?_eq_some_iff.mp hc1).1
  generalize hcl : vp_cell (gC g 0) (6, .inl (zf (fun k => if 0 ≤ k ∧ k < 6 then (stV q k.toNat).toInt else σ.1 ds k))) = cl1 at X' step
  have hheap : ((T.setVm vm').setCell (gz g + ds) cl1).heap = H.setIfInBounds (gz g + ds) cl1 := by rw [← hT]; rfl
  have oq : ∀ a : Nat, a ≠ gz g + ds → (H.setIfInBounds (gz g + ds) cl1)[a]? = H[a]? := fun a ha => by simp [Array.getElem?_setIfInBounds, Ne.symm ha]
  have hP1 : va_P (gD g) vwCl ((wl g N σ).set ds (gz g + ds, .inl (gC g 0, 6, .inl (zf (fun k => if 0 ≤ k ∧ k < 6 then (stV q k.toNat).toInt else σ.1 ds k))))) (H.setIfInBounds (gz g + ds) cl1) :=
    hP.set hD hw (show (H.setIfInBounds (gz g + ds) cl1)[gz g + ds]? = some _ by rw [hcl]; simp [Array.getElem?_setIfInBounds, hlt]) oq
  have hW1 : Wd g N (setA σ ds (fun k => if 0 ≤ k ∧ k < 6 then (stV q k.toNat).toInt else σ.1 ds k)) (H.setIfInBounds (gz g + ds) cl1) := by
    refine Wd_set (σ := σ) rfl hW.1 hP1 ?_ (fun j hj => ⟨if_neg hj, rfl⟩)
    rw [cel_i hst]
    show Sum.inl (gC g 0, 6, Sum.inl (zf (if ds = ds then _ else σ.1 ds))) = _
    rw [if_pos rfl]
  obtain ⟨t, a1, b1⟩ := kk p l e R s m args below meth c g N0 _ _ lsA Zq C hW1 ⟨by simp; exact hS.1, fun a g1 g2 => by
      rw [oq a (fun z => g2 (by rw [z]; exact Nat.le_add_right _ _))]
      exact hS.2.1 a g1 g2, fun a ha => by
      rcases List.mem_append.mp ha with h | h
      · exact hS.2.2 a h
      · obtain ⟨z, -, hz⟩ := List.mem_map.mp h
        rw [← hz]
        exact Nat.le_add_right _ _⟩ hN hl hret _ hheap X'
  exact ⟨t, step t a1, b1⟩
