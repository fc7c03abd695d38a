/-! the law: each call of the script -/
def M_L_law : MI := (yL_law, cL_law, 4, (Option.some FieldType.boolean), 9, 12)
section LAW
variable {M : MI} {N N1 pc : Nat} {ls : List (Nat × Value)} {st : List Value} {Q : Option Value → Sto → Prop} {σ : Sto} {L : Nat} {xs : Nat → Int32}
theorem V_scr2 {j : Int} (hs : σ.2.2 = (L, xs)) (hL : L ≤ 3072) (hd : decode (miB M) pc = .ok (.iaload, 1)) (h0 : 0 ≤ j) (h1 : j < (L : Int)) (kk : V M N1 (pc + 1) ls (zI (xs j.toNat).toInt :: st) N σ Q) : V M N1 pc ls (zI j :: .retAddr 3 :: st) N σ Q :=
  V_scr hd h0 (by rw [hs]; exact h1) (by rw [hs]; show L < _; omega) (by rw [hs]; exact kk)
theorem V_scl2 (hs : σ.2.2 = (L, xs)) (hd : decode (miB M) pc = .ok (.arraylength, 1)) (kk : V M N1 (pc + 1) ls (zI (L : Int) :: st) N σ Q) : V M N1 pc ls (.retAddr 3 :: st) N σ Q :=
  V_scl hd (by rw [hs]; exact kk)
end LAW
theorem LI_s {scr : Nat × (Nat → Int32)} {S : Sto} {n : Int} (h : LI scr S n) : S.2.2 = scr := by
  obtain ⟨c, π, r, past, aside, sv, rf, text, read, len, spot, fat, fwy, many, h1, h2, h3, -⟩ := h
  exact h3.2.2.2.2.2
theorem LI_up {scr : Nat × (Nat → Int32)} {S : Sto} {n : Int} (h : LI scr S n) : LI scr S (n + 1) := by
  obtain ⟨c, π, r, past, aside, sv, rf, text, read, len, spot, fat, fwy, many, h1, h2, h3, h4, h5, h6, h7, h8, h9⟩ := h
  exact ⟨c, π, r, past, aside, sv, rf, text, read, len, spot, fat, fwy, many, h1, h2, h3, h4, h5, fun k a b => ⟨(h6 k a b).1, by have := (h6 k a b).2; omega, (h6 k a b).2.2⟩, h7, h8, by omega, h9.2⟩
theorem l_fill {L : Nat} {xs : Nat → Int32} (hL : L ≤ 3072) {S : Sto} {n i : Int} {Q : Option Value → Sto → Prop} (hn : 0 ≤ n ∧ n ≤ 600) (h : LI (L, xs) S n) (hi : 0 ≤ i ∧ i + 6 ≤ (L : Int)) (k : ∀ S2 : Sto, LI (L, xs) S2 (n + 1) → V M_L_law 150 803 [(0, .retAddr 3), (1, .ref 0), (2, .ref 144), (3, zI i)] [] 150 S2 Q) : V M_L_law 150 148 [(0, .retAddr 3), (1, .ref 0), (2, .ref 144), (3, zI i)] [] 150 S Q := by
  have hs := LI_s h
  refine V_aload_n (pc := 148) e_L_law_148 rfl (Or.inl ⟨_, rfl⟩) ?_
  refine V_aload_n (pc := 149) e_L_law_149 rfl (Or.inr (Or.inr ⟨_, rfl⟩)) ?_
  refine V_iload_n (pc := 150) e_L_law_150 rfl ?_
  refine V_iconst (pc := 151) e_L_law_151 ?_
  refine V_iadd (pc := 152) e_L_law_152 ?_
  refine V_scr2 (pc := 153) hs hL e_L_law_153 (by omega) (by omega) ?_
  refine V_aload_n (pc := 154) e_L_law_154 rfl (Or.inr (Or.inr ⟨_, rfl⟩)) ?_
  refine V_iload_n (pc := 155) e_L_law_155 rfl ?_
  refine V_iconst (pc := 156) e_L_law_156 ?_
  refine V_iadd (pc := 157) e_L_law_157 ?_
  refine V_scr2 (pc := 158) hs hL e_L_law_158 (by omega) (by omega) ?_
  refine V_callV (pc := 159) (b := 0) (As := [zI (xs (i + 1).toNat).toInt, zI (xs (i + 2).toNat).toInt]) (rest := []) ca_9_13 e_L_law_159 (by decide) rfl (Nat.le_of_ble_eq_true rfl) (by decide) rfl (by decide) (Nat.le_refl _) (p_fill hn h (zi_rg _) (zi_rg _)) (fun v S1 q => ?_)
  obtain ⟨x, rfl, hs1, hc1⟩ := q
  show V M_L_law 150 162 [(0, .retAddr 3), (1, .ref 0), (2, .ref 144), (3, zI i)] [zI x] 150 S1 Q
  refine V_aload_n (pc := 162) e_L_law_162 rfl (Or.inl ⟨_, rfl⟩) ?_
  refine V_aload_n (pc := 163) e_L_law_163 rfl (Or.inr (Or.inr ⟨_, rfl⟩)) ?_
  refine V_iload_n (pc := 164) e_L_law_164 rfl ?_
  refine V_iconst (pc := 165) e_L_law_165 ?_
  refine V_iadd (pc := 166) e_L_law_166 ?_
  refine V_scr2 (pc := 167) hs1 hL e_L_law_167 (by omega) (by omega) ?_
  refine V_aload_n (pc := 168) e_L_law_168 rfl (Or.inr (Or.inr ⟨_, rfl⟩)) ?_
  refine V_iload_n (pc := 169) e_L_law_169 rfl ?_
  refine V_iconst (pc := 170) e_L_law_170 ?_
  refine V_iadd (pc := 171) e_L_law_171 ?_
  refine V_scr2 (pc := 172) hs1 hL e_L_law_172 (by omega) (by omega) ?_
  refine V_callV (pc := 173) (b := 144) (As := [zI (xs (i + 1).toNat).toInt, zI (xs (i + 2).toNat).toInt]) (rest := [zI x]) ca_9_17 e_L_law_173 (by decide) rfl (Nat.le_of_ble_eq_true rfl) (by decide) rfl (by decide) (Nat.le_refl _) hc1 (fun v S2 q => ?_)
  obtain ⟨rfl, h2⟩ := q
  show V M_L_law 150 176 [(0, .retAddr 3), (1, .ref 0), (2, .ref 144), (3, zI i)] [zI x, zI x] 150 S2 Q
  have ex : zI x = zI (Int32.ofInt x).toInt := (congrArg Value.int (zi_of _)).symm
  rw [ex]
  refine V_icmp_eq (pc := 176) e_L_law_176 (by decide) (zi_rg _) (zi_rg _) (fun _ => ?_) (fun z => absurd rfl z)
  exact k S2 h2
theorem l_load {L : Nat} {xs : Nat → Int32} (hL : L ≤ 3072) {S : Sto} {n i : Int} {Q : Option Value → Sto → Prop} (hn : 0 ≤ n ∧ n ≤ 600) (h : LI (L, xs) S n) (hi : 0 ≤ i ∧ i + 6 ≤ (L : Int)) (k : ∀ S2 : Sto, LI (L, xs) S2 (n + 1) → V M_L_law 150 803 [(0, .retAddr 3), (1, .ref 0), (2, .ref 144), (3, zI i)] [] 150 S2 Q) : V M_L_law 150 181 [(0, .retAddr 3), (1, .ref 0), (2, .ref 144), (3, zI i)] [] 150 S Q := by
  have hs := LI_s h
  refine V_aload_n (pc := 181) e_L_law_181 rfl (Or.inl ⟨_, rfl⟩) ?_
  refine V_aload_n (pc := 182) e_L_law_182 rfl (Or.inr (Or.inr ⟨_, rfl⟩)) ?_
  refine V_iload_n (pc := 183) e_L_law_183 rfl ?_
  refine V_iconst (pc := 184) e_L_law_184 ?_
  refine V_iadd (pc := 185) e_L_law_185 ?_
  refine V_scr2 (pc := 186) hs hL e_L_law_186 (by omega) (by omega) ?_
  refine V_aload_n (pc := 187) e_L_law_187 rfl (Or.inr (Or.inr ⟨_, rfl⟩)) ?_
  refine V_iload_n (pc := 188) e_L_law_188 rfl ?_
  refine V_iconst (pc := 189) e_L_law_189 ?_
  refine V_iadd (pc := 190) e_L_law_190 ?_
  refine V_scr2 (pc := 191) hs hL e_L_law_191 (by omega) (by omega) ?_
  refine V_aload_n (pc := 192) e_L_law_192 rfl (Or.inr (Or.inr ⟨_, rfl⟩)) ?_
  refine V_iload_n (pc := 193) e_L_law_193 rfl ?_
  refine V_iconst (pc := 194) e_L_law_194 ?_
  refine V_iadd (pc := 195) e_L_law_195 ?_
  refine V_scr2 (pc := 196) hs hL e_L_law_196 (by omega) (by omega) ?_
  refine V_callV (pc := 197) (b := 0) (As := [zI (xs (i + 1).toNat).toInt, zI (xs (i + 2).toNat).toInt, zI (xs (i + 3).toNat).toInt]) (rest := []) ca_9_18 e_L_law_197 (by decide) rfl (Nat.le_of_ble_eq_true rfl) (by decide) rfl (by decide) (Nat.le_refl _) (p_load hn h (zi_rg _) (zi_rg _) (zi_rg _)) (fun v S1 q => ?_)
  obtain ⟨x, rfl, hs1, hc1⟩ := q
  show V M_L_law 150 200 [(0, .retAddr 3), (1, .ref 0), (2, .ref 144), (3, zI i)] [zI x] 150 S1 Q
  refine V_aload_n (pc := 200) e_L_law_200 rfl (Or.inl ⟨_, rfl⟩) ?_
  refine V_aload_n (pc := 201) e_L_law_201 rfl (Or.inr (Or.inr ⟨_, rfl⟩)) ?_
  refine V_iload_n (pc := 202) e_L_law_202 rfl ?_
  refine V_iconst (pc := 203) e_L_law_203 ?_
  refine V_iadd (pc := 204) e_L_law_204 ?_
  refine V_scr2 (pc := 205) hs1 hL e_L_law_205 (by omega) (by omega) ?_
  refine V_aload_n (pc := 206) e_L_law_206 rfl (Or.inr (Or.inr ⟨_, rfl⟩)) ?_
  refine V_iload_n (pc := 207) e_L_law_207 rfl ?_
  refine V_iconst (pc := 208) e_L_law_208 ?_
  refine V_iadd (pc := 209) e_L_law_209 ?_
  refine V_scr2 (pc := 210) hs1 hL e_L_law_210 (by omega) (by omega) ?_
  refine V_aload_n (pc := 211) e_L_law_211 rfl (Or.inr (Or.inr ⟨_, rfl⟩)) ?_
  refine V_iload_n (pc := 212) e_L_law_212 rfl ?_
  refine V_iconst (pc := 213) e_L_law_213 ?_
  refine V_iadd (pc := 214) e_L_law_214 ?_
  refine V_scr2 (pc := 215) hs1 hL e_L_law_215 (by omega) (by omega) ?_
  refine V_callV (pc := 216) (b := 144) (As := [zI (xs (i + 1).toNat).toInt, zI (xs (i + 2).toNat).toInt, zI (xs (i + 3).toNat).toInt]) (rest := [zI x]) ca_9_22 e_L_law_216 (by decide) rfl (Nat.le_of_ble_eq_true rfl) (by decide) rfl (by decide) (Nat.le_refl _) hc1 (fun v S2 q => ?_)
  obtain ⟨rfl, h2⟩ := q
  show V M_L_law 150 219 [(0, .retAddr 3), (1, .ref 0), (2, .ref 144), (3, zI i)] [zI x, zI x] 150 S2 Q
  have ex : zI x = zI (Int32.ofInt x).toInt := (congrArg Value.int (zi_of _)).symm
  rw [ex]
  refine V_icmp_eq (pc := 219) e_L_law_219 (by decide) (zi_rg _) (zi_rg _) (fun _ => ?_) (fun z => absurd rfl z)
  exact k S2 h2
theorem l_tray {L : Nat} {xs : Nat → Int32} (hL : L ≤ 3072) {S : Sto} {n i : Int} {Q : Option Value → Sto → Prop} (hn : 0 ≤ n ∧ n ≤ 600) (h : LI (L, xs) S n) (hi : 0 ≤ i ∧ i + 6 ≤ (L : Int)) (k : ∀ S2 : Sto, LI (L, xs) S2 (n + 1) → V M_L_law 150 803 [(0, .retAddr 3), (1, .ref 0), (2, .ref 144), (3, zI i)] [] 150 S2 Q) : V M_L_law 150 224 [(0, .retAddr 3), (1, .ref 0), (2, .ref 144), (3, zI i)] [] 150 S Q := by
  have hs := LI_s h
  refine V_aload_n (pc := 224) e_L_law_224 rfl (Or.inl ⟨_, rfl⟩) ?_
  refine V_aload_n (pc := 225) e_L_law_225 rfl (Or.inr (Or.inr ⟨_, rfl⟩)) ?_
  refine V_iload_n (pc := 226) e_L_law_226 rfl ?_
  refine V_iconst (pc := 227) e_L_law_227 ?_
  refine V_iadd (pc := 228) e_L_law_228 ?_
  refine V_scr2 (pc := 229) hs hL e_L_law_229 (by omega) (by omega) ?_
  refine V_aload_n (pc := 230) e_L_law_230 rfl (Or.inr (Or.inr ⟨_, rfl⟩)) ?_
  refine V_iload_n (pc := 231) e_L_law_231 rfl ?_
  refine V_iconst (pc := 232) e_L_law_232 ?_
  refine V_iadd (pc := 233) e_L_law_233 ?_
  refine V_scr2 (pc := 234) hs hL e_L_law_234 (by omega) (by omega) ?_
  refine V_callV (pc := 235) (b := 0) (As := [zI (xs (i + 1).toNat).toInt, zI (xs (i + 2).toNat).toInt]) (rest := []) ca_9_23 e_L_law_235 (by decide) rfl (Nat.le_of_ble_eq_true rfl) (by decide) rfl (by decide) (Nat.le_refl _) (p_tray hn h (zi_rg _) (zi_rg _)) (fun v S1 q => ?_)
  obtain ⟨x, rfl, hs1, hc1⟩ := q
  show V M_L_law 150 238 [(0, .retAddr 3), (1, .ref 0), (2, .ref 144), (3, zI i)] [zI x] 150 S1 Q
  refine V_aload_n (pc := 238) e_L_law_238 rfl (Or.inl ⟨_, rfl⟩) ?_
  refine V_aload_n (pc := 239) e_L_law_239 rfl (Or.inr (Or.inr ⟨_, rfl⟩)) ?_
  refine V_iload_n (pc := 240) e_L_law_240 rfl ?_
  refine V_iconst (pc := 241) e_L_law_241 ?_
  refine V_iadd (pc := 242) e_L_law_242 ?_
  refine V_scr2 (pc := 243) hs1 hL e_L_law_243 (by omega) (by omega) ?_
  refine V_aload_n (pc := 244) e_L_law_244 rfl (Or.inr (Or.inr ⟨_, rfl⟩)) ?_
  refine V_iload_n (pc := 245) e_L_law_245 rfl ?_
  refine V_iconst (pc := 246) e_L_law_246 ?_
  refine V_iadd (pc := 247) e_L_law_247 ?_
  refine V_scr2 (pc := 248) hs1 hL e_L_law_248 (by omega) (by omega) ?_
  refine V_callV (pc := 249) (b := 144) (As := [zI (xs (i + 1).toNat).toInt, zI (xs (i + 2).toNat).toInt]) (rest := [zI x]) ca_9_26 e_L_law_249 (by decide) rfl (Nat.le_of_ble_eq_true rfl) (by decide) rfl (by decide) (Nat.le_refl _) hc1 (fun v S2 q => ?_)
  obtain ⟨rfl, h2⟩ := q
  show V M_L_law 150 252 [(0, .retAddr 3), (1, .ref 0), (2, .ref 144), (3, zI i)] [zI x, zI x] 150 S2 Q
  have ex : zI x = zI (Int32.ofInt x).toInt := (congrArg Value.int (zi_of _)).symm
  rw [ex]
  refine V_icmp_eq (pc := 252) e_L_law_252 (by decide) (zi_rg _) (zi_rg _) (fun _ => ?_) (fun z => absurd rfl z)
  exact k S2 h2
theorem l_staples {L : Nat} {xs : Nat → Int32} (hL : L ≤ 3072) {S : Sto} {n i : Int} {Q : Option Value → Sto → Prop} (hn : 0 ≤ n ∧ n ≤ 600) (h : LI (L, xs) S n) (hi : 0 ≤ i ∧ i + 6 ≤ (L : Int)) (k : ∀ S2 : Sto, LI (L, xs) S2 (n + 1) → V M_L_law 150 803 [(0, .retAddr 3), (1, .ref 0), (2, .ref 144), (3, zI i)] [] 150 S2 Q) : V M_L_law 150 257 [(0, .retAddr 3), (1, .ref 0), (2, .ref 144), (3, zI i)] [] 150 S Q := by
  have hs := LI_s h
  refine V_aload_n (pc := 257) e_L_law_257 rfl (Or.inl ⟨_, rfl⟩) ?_
  refine V_aload_n (pc := 258) e_L_law_258 rfl (Or.inr (Or.inr ⟨_, rfl⟩)) ?_
  refine V_iload_n (pc := 259) e_L_law_259 rfl ?_
  refine V_iconst (pc := 260) e_L_law_260 ?_
  refine V_iadd (pc := 261) e_L_law_261 ?_
  refine V_scr2 (pc := 262) hs hL e_L_law_262 (by omega) (by omega) ?_
  refine V_callV (pc := 263) (b := 0) (As := [zI (xs (i + 1).toNat).toInt]) (rest := []) ca_9_27 e_L_law_263 (by decide) rfl (Nat.le_of_ble_eq_true rfl) (by decide) rfl (by decide) (Nat.le_refl _) (p_staples hn h (zi_rg _)) (fun v S1 q => ?_)
  obtain ⟨x, rfl, hs1, hc1⟩ := q
  show V M_L_law 150 266 [(0, .retAddr 3), (1, .ref 0), (2, .ref 144), (3, zI i)] [zI x] 150 S1 Q
  refine V_aload_n (pc := 266) e_L_law_266 rfl (Or.inl ⟨_, rfl⟩) ?_
  refine V_aload_n (pc := 267) e_L_law_267 rfl (Or.inr (Or.inr ⟨_, rfl⟩)) ?_
  refine V_iload_n (pc := 268) e_L_law_268 rfl ?_
  refine V_iconst (pc := 269) e_L_law_269 ?_
  refine V_iadd (pc := 270) e_L_law_270 ?_
  refine V_scr2 (pc := 271) hs1 hL e_L_law_271 (by omega) (by omega) ?_
  refine V_callV (pc := 272) (b := 144) (As := [zI (xs (i + 1).toNat).toInt]) (rest := [zI x]) ca_9_31 e_L_law_272 (by decide) rfl (Nat.le_of_ble_eq_true rfl) (by decide) rfl (by decide) (Nat.le_refl _) hc1 (fun v S2 q => ?_)
  obtain ⟨rfl, h2⟩ := q
  show V M_L_law 150 275 [(0, .retAddr 3), (1, .ref 0), (2, .ref 144), (3, zI i)] [zI x, zI x] 150 S2 Q
  have ex : zI x = zI (Int32.ofInt x).toInt := (congrArg Value.int (zi_of _)).symm
  rw [ex]
  refine V_icmp_eq (pc := 275) e_L_law_275 (by decide) (zi_rg _) (zi_rg _) (fun _ => ?_) (fun z => absurd rfl z)
  exact k S2 h2
theorem l_emptyBin {L : Nat} {xs : Nat → Int32} (hL : L ≤ 3072) {S : Sto} {n i : Int} {Q : Option Value → Sto → Prop} (hn : 0 ≤ n ∧ n ≤ 600) (h : LI (L, xs) S n) (hi : 0 ≤ i ∧ i + 6 ≤ (L : Int)) (k : ∀ S2 : Sto, LI (L, xs) S2 (n + 1) → V M_L_law 150 803 [(0, .retAddr 3), (1, .ref 0), (2, .ref 144), (3, zI i)] [] 150 S2 Q) : V M_L_law 150 280 [(0, .retAddr 3), (1, .ref 0), (2, .ref 144), (3, zI i)] [] 150 S Q := by
  have hs := LI_s h
  refine V_aload_n (pc := 280) e_L_law_280 rfl (Or.inl ⟨_, rfl⟩) ?_
  refine V_callV (pc := 281) (b := 0) (As := []) (rest := []) ca_9_32 e_L_law_281 (by decide) rfl (Nat.le_of_ble_eq_true rfl) (by decide) rfl (by decide) (Nat.le_refl _) (p_emptyBin hn h) (fun v S1 q => ?_)
  obtain ⟨x, rfl, hs1, hc1⟩ := q
  show V M_L_law 150 284 [(0, .retAddr 3), (1, .ref 0), (2, .ref 144), (3, zI i)] [zI x] 150 S1 Q
  refine V_aload_n (pc := 284) e_L_law_284 rfl (Or.inl ⟨_, rfl⟩) ?_
  refine V_callV (pc := 285) (b := 144) (As := []) (rest := [zI x]) ca_9_36 e_L_law_285 (by decide) rfl (Nat.le_of_ble_eq_true rfl) (by decide) rfl (by decide) (Nat.le_refl _) hc1 (fun v S2 q => ?_)
  obtain ⟨rfl, h2⟩ := q
  show V M_L_law 150 288 [(0, .retAddr 3), (1, .ref 0), (2, .ref 144), (3, zI i)] [zI x, zI x] 150 S2 Q
  have ex : zI x = zI (Int32.ofInt x).toInt := (congrArg Value.int (zi_of _)).symm
  rw [ex]
  refine V_icmp_eq (pc := 288) e_L_law_288 (by decide) (zi_rg _) (zi_rg _) (fun _ => ?_) (fun z => absurd rfl z)
  exact k S2 h2
theorem l_set {L : Nat} {xs : Nat → Int32} (hL : L ≤ 3072) {S : Sto} {n i : Int} {Q : Option Value → Sto → Prop} (hn : 0 ≤ n ∧ n ≤ 600) (h : LI (L, xs) S n) (hi : 0 ≤ i ∧ i + 6 ≤ (L : Int)) (k : ∀ S2 : Sto, LI (L, xs) S2 (n + 1) → V M_L_law 150 803 [(0, .retAddr 3), (1, .ref 0), (2, .ref 144), (3, zI i)] [] 150 S2 Q) : V M_L_law 150 293 [(0, .retAddr 3), (1, .ref 0), (2, .ref 144), (3, zI i)] [] 150 S Q := by
  have hs := LI_s h
  refine V_aload_n (pc := 293) e_L_law_293 rfl (Or.inl ⟨_, rfl⟩) ?_
  refine V_aload_n (pc := 294) e_L_law_294 rfl (Or.inr (Or.inr ⟨_, rfl⟩)) ?_
  refine V_iload_n (pc := 295) e_L_law_295 rfl ?_
  refine V_iconst (pc := 296) e_L_law_296 ?_
  refine V_iadd (pc := 297) e_L_law_297 ?_
  refine V_scr2 (pc := 298) hs hL e_L_law_298 (by omega) (by omega) ?_
  refine V_aload_n (pc := 299) e_L_law_299 rfl (Or.inr (Or.inr ⟨_, rfl⟩)) ?_
  refine V_iload_n (pc := 300) e_L_law_300 rfl ?_
  refine V_iconst (pc := 301) e_L_law_301 ?_
  refine V_iadd (pc := 302) e_L_law_302 ?_
  refine V_scr2 (pc := 303) hs hL e_L_law_303 (by omega) (by omega) ?_
  refine V_callV (pc := 304) (b := 0) (As := [zI (xs (i + 1).toNat).toInt, zI (xs (i + 2).toNat).toInt]) (rest := []) ca_9_37 e_L_law_304 (by decide) rfl (Nat.le_of_ble_eq_true rfl) (by decide) rfl (by decide) (Nat.le_refl _) (p_set hn h (zi_rg _) (zi_rg _)) (fun v S1 q => ?_)
  obtain ⟨x, rfl, hs1, hc1⟩ := q
  show V M_L_law 150 307 [(0, .retAddr 3), (1, .ref 0), (2, .ref 144), (3, zI i)] [zI x] 150 S1 Q
  refine V_aload_n (pc := 307) e_L_law_307 rfl (Or.inl ⟨_, rfl⟩) ?_
  refine V_aload_n (pc := 308) e_L_law_308 rfl (Or.inr (Or.inr ⟨_, rfl⟩)) ?_
  refine V_iload_n (pc := 309) e_L_law_309 rfl ?_
  refine V_iconst (pc := 310) e_L_law_310 ?_
  refine V_iadd (pc := 311) e_L_law_311 ?_
  refine V_scr2 (pc := 312) hs1 hL e_L_law_312 (by omega) (by omega) ?_
  refine V_aload_n (pc := 313) e_L_law_313 rfl (Or.inr (Or.inr ⟨_, rfl⟩)) ?_
  refine V_iload_n (pc := 314) e_L_law_314 rfl ?_
  refine V_iconst (pc := 315) e_L_law_315 ?_
  refine V_iadd (pc := 316) e_L_law_316 ?_
  refine V_scr2 (pc := 317) hs1 hL e_L_law_317 (by omega) (by omega) ?_
  refine V_callV (pc := 318) (b := 144) (As := [zI (xs (i + 1).toNat).toInt, zI (xs (i + 2).toNat).toInt]) (rest := [zI x]) ca_9_40 e_L_law_318 (by decide) rfl (Nat.le_of_ble_eq_true rfl) (by decide) rfl (by decide) (Nat.le_refl _) hc1 (fun v S2 q => ?_)
  obtain ⟨rfl, h2⟩ := q
  show V M_L_law 150 321 [(0, .retAddr 3), (1, .ref 0), (2, .ref 144), (3, zI i)] [zI x, zI x] 150 S2 Q
  have ex : zI x = zI (Int32.ofInt x).toInt := (congrArg Value.int (zi_of _)).symm
  rw [ex]
  refine V_icmp_eq (pc := 321) e_L_law_321 (by decide) (zi_rg _) (zi_rg _) (fun _ => ?_) (fun z => absurd rfl z)
  exact k S2 h2
theorem l_job {L : Nat} {xs : Nat → Int32} (hL : L ≤ 3072) {S : Sto} {n i : Int} {Q : Option Value → Sto → Prop} (hn : 0 ≤ n ∧ n ≤ 600) (h : LI (L, xs) S n) (hi : 0 ≤ i ∧ i + 6 ≤ (L : Int)) (k : ∀ S2 : Sto, LI (L, xs) S2 (n + 1) → V M_L_law 150 803 [(0, .retAddr 3), (1, .ref 0), (2, .ref 144), (3, zI i)] [] 150 S2 Q) : V M_L_law 150 326 [(0, .retAddr 3), (1, .ref 0), (2, .ref 144), (3, zI i)] [] 150 S Q := by
  have hs := LI_s h
  refine V_aload_n (pc := 326) e_L_law_326 rfl (Or.inl ⟨_, rfl⟩) ?_
  refine V_aload_n (pc := 327) e_L_law_327 rfl (Or.inr (Or.inr ⟨_, rfl⟩)) ?_
  refine V_iload_n (pc := 328) e_L_law_328 rfl ?_
  refine V_iconst (pc := 329) e_L_law_329 ?_
  refine V_iadd (pc := 330) e_L_law_330 ?_
  refine V_scr2 (pc := 331) hs hL e_L_law_331 (by omega) (by omega) ?_
  refine V_aload_n (pc := 332) e_L_law_332 rfl (Or.inr (Or.inr ⟨_, rfl⟩)) ?_
  refine V_iload_n (pc := 333) e_L_law_333 rfl ?_
  refine V_iconst (pc := 334) e_L_law_334 ?_
  refine V_iadd (pc := 335) e_L_law_335 ?_
  refine V_scr2 (pc := 336) hs hL e_L_law_336 (by omega) (by omega) ?_
  refine V_aload_n (pc := 337) e_L_law_337 rfl (Or.inr (Or.inr ⟨_, rfl⟩)) ?_
  refine V_iload_n (pc := 338) e_L_law_338 rfl ?_
  refine V_iconst (pc := 339) e_L_law_339 ?_
  refine V_iadd (pc := 340) e_L_law_340 ?_
  refine V_scr2 (pc := 341) hs hL e_L_law_341 (by omega) (by omega) ?_
  refine V_aload_n (pc := 342) e_L_law_342 rfl (Or.inr (Or.inr ⟨_, rfl⟩)) ?_
  refine V_iload_n (pc := 343) e_L_law_343 rfl ?_
  refine V_iconst (pc := 344) e_L_law_344 ?_
  refine V_iadd (pc := 345) e_L_law_345 ?_
  refine V_scr2 (pc := 346) hs hL e_L_law_346 (by omega) (by omega) ?_
  refine V_aload_n (pc := 347) e_L_law_347 rfl (Or.inr (Or.inr ⟨_, rfl⟩)) ?_
  refine V_iload_n (pc := 348) e_L_law_348 rfl ?_
  refine V_iconst (pc := 349) e_L_law_349 ?_
  refine V_iadd (pc := 350) e_L_law_350 ?_
  refine V_scr2 (pc := 351) hs hL e_L_law_351 (by omega) (by omega) ?_
  refine V_callV (pc := 352) (b := 0) (As := [zI (xs (i + 1).toNat).toInt, zI (xs (i + 2).toNat).toInt, zI (xs (i + 3).toNat).toInt, zI (xs (i + 4).toNat).toInt, zI (xs (i + 5).toNat).toInt]) (rest := []) ca_9_41 e_L_law_352 (by decide) rfl (Nat.le_of_ble_eq_true rfl) (by decide) rfl (by decide) (Nat.le_refl _) (p_job hn h (zi_rg _) (zi_rg _) (zi_rg _) (zi_rg _) (zi_rg _)) (fun v S1 q => ?_)
  obtain ⟨x, rfl, hs1, hc1⟩ := q
  show V M_L_law 150 355 [(0, .retAddr 3), (1, .ref 0), (2, .ref 144), (3, zI i)] [zI x] 150 S1 Q
  refine V_aload_n (pc := 355) e_L_law_355 rfl (Or.inl ⟨_, rfl⟩) ?_
  refine V_aload_n (pc := 356) e_L_law_356 rfl (Or.inr (Or.inr ⟨_, rfl⟩)) ?_
  refine V_iload_n (pc := 357) e_L_law_357 rfl ?_
  refine V_iconst (pc := 358) e_L_law_358 ?_
  refine V_iadd (pc := 359) e_L_law_359 ?_
  refine V_scr2 (pc := 360) hs1 hL e_L_law_360 (by omega) (by omega) ?_
  refine V_aload_n (pc := 361) e_L_law_361 rfl (Or.inr (Or.inr ⟨_, rfl⟩)) ?_
  refine V_iload_n (pc := 362) e_L_law_362 rfl ?_
  refine V_iconst (pc := 363) e_L_law_363 ?_
  refine V_iadd (pc := 364) e_L_law_364 ?_
  refine V_scr2 (pc := 365) hs1 hL e_L_law_365 (by omega) (by omega) ?_
  refine V_aload_n (pc := 366) e_L_law_366 rfl (Or.inr (Or.inr ⟨_, rfl⟩)) ?_
  refine V_iload_n (pc := 367) e_L_law_367 rfl ?_
  refine V_iconst (pc := 368) e_L_law_368 ?_
  refine V_iadd (pc := 369) e_L_law_369 ?_
  refine V_scr2 (pc := 370) hs1 hL e_L_law_370 (by omega) (by omega) ?_
  refine V_aload_n (pc := 371) e_L_law_371 rfl (Or.inr (Or.inr ⟨_, rfl⟩)) ?_
  refine V_iload_n (pc := 372) e_L_law_372 rfl ?_
  refine V_iconst (pc := 373) e_L_law_373 ?_
  refine V_iadd (pc := 374) e_L_law_374 ?_
  refine V_scr2 (pc := 375) hs1 hL e_L_law_375 (by omega) (by omega) ?_
  refine V_aload_n (pc := 376) e_L_law_376 rfl (Or.inr (Or.inr ⟨_, rfl⟩)) ?_
  refine V_iload_n (pc := 377) e_L_law_377 rfl ?_
  refine V_iconst (pc := 378) e_L_law_378 ?_
  refine V_iadd (pc := 379) e_L_law_379 ?_
  refine V_scr2 (pc := 380) hs1 hL e_L_law_380 (by omega) (by omega) ?_
  refine V_callV (pc := 381) (b := 144) (As := [zI (xs (i + 1).toNat).toInt, zI (xs (i + 2).toNat).toInt, zI (xs (i + 3).toNat).toInt, zI (xs (i + 4).toNat).toInt, zI (xs (i + 5).toNat).toInt]) (rest := [zI x]) ca_9_45 e_L_law_381 (by decide) rfl (Nat.le_of_ble_eq_true rfl) (by decide) rfl (by decide) (Nat.le_refl _) hc1 (fun v S2 q => ?_)
  obtain ⟨rfl, h2⟩ := q
  show V M_L_law 150 384 [(0, .retAddr 3), (1, .ref 0), (2, .ref 144), (3, zI i)] [zI x, zI x] 150 S2 Q
  have ex : zI x = zI (Int32.ofInt x).toInt := (congrArg Value.int (zi_of _)).symm
  rw [ex]
  refine V_icmp_eq (pc := 384) e_L_law_384 (by decide) (zi_rg _) (zi_rg _) (fun _ => ?_) (fun z => absurd rfl z)
  exact k S2 h2
theorem l_refusal {L : Nat} {xs : Nat → Int32} (hL : L ≤ 3072) {S : Sto} {n i : Int} {Q : Option Value → Sto → Prop} (hn : 0 ≤ n ∧ n ≤ 600) (h : LI (L, xs) S n) (hi : 0 ≤ i ∧ i + 6 ≤ (L : Int)) (k : ∀ S2 : Sto, LI (L, xs) S2 (n + 1) → V M_L_law 150 803 [(0, .retAddr 3), (1, .ref 0), (2, .ref 144), (3, zI i)] [] 150 S2 Q) : V M_L_law 150 389 [(0, .retAddr 3), (1, .ref 0), (2, .ref 144), (3, zI i)] [] 150 S Q := by
  have hs := LI_s h
  refine V_aload_n (pc := 389) e_L_law_389 rfl (Or.inl ⟨_, rfl⟩) ?_
  refine V_callV (pc := 390) (b := 0) (As := []) (rest := []) ca_9_46 e_L_law_390 (by decide) rfl (Nat.le_of_ble_eq_true rfl) (by decide) rfl (by decide) (Nat.le_refl _) (p_refusal hn h) (fun v S1 q => ?_)
  obtain ⟨x, rfl, hs1, hc1⟩ := q
  show V M_L_law 150 393 [(0, .retAddr 3), (1, .ref 0), (2, .ref 144), (3, zI i)] [zI x] 150 S1 Q
  refine V_aload_n (pc := 393) e_L_law_393 rfl (Or.inl ⟨_, rfl⟩) ?_
  refine V_callV (pc := 394) (b := 144) (As := []) (rest := [zI x]) ca_9_49 e_L_law_394 (by decide) rfl (Nat.le_of_ble_eq_true rfl) (by decide) rfl (by decide) (Nat.le_refl _) hc1 (fun v S2 q => ?_)
  obtain ⟨rfl, h2⟩ := q
  show V M_L_law 150 397 [(0, .retAddr 3), (1, .ref 0), (2, .ref 144), (3, zI i)] [zI x, zI x] 150 S2 Q
  have ex : zI x = zI (Int32.ofInt x).toInt := (congrArg Value.int (zi_of _)).symm
  rw [ex]
  refine V_icmp_eq (pc := 397) e_L_law_397 (by decide) (zi_rg _) (zi_rg _) (fun _ => ?_) (fun z => absurd rfl z)
  exact k S2 h2
theorem l_hold {L : Nat} {xs : Nat → Int32} (hL : L ≤ 3072) {S : Sto} {n i : Int} {Q : Option Value → Sto → Prop} (hn : 0 ≤ n ∧ n ≤ 600) (h : LI (L, xs) S n) (hi : 0 ≤ i ∧ i + 6 ≤ (L : Int)) (k : ∀ S2 : Sto, LI (L, xs) S2 (n + 1) → V M_L_law 150 803 [(0, .retAddr 3), (1, .ref 0), (2, .ref 144), (3, zI i)] [] 150 S2 Q) : V M_L_law 150 402 [(0, .retAddr 3), (1, .ref 0), (2, .ref 144), (3, zI i)] [] 150 S Q := by
  have hs := LI_s h
  refine V_aload_n (pc := 402) e_L_law_402 rfl (Or.inl ⟨_, rfl⟩) ?_
  refine V_aload_n (pc := 403) e_L_law_403 rfl (Or.inr (Or.inr ⟨_, rfl⟩)) ?_
  refine V_iload_n (pc := 404) e_L_law_404 rfl ?_
  refine V_iconst (pc := 405) e_L_law_405 ?_
  refine V_iadd (pc := 406) e_L_law_406 ?_
  refine V_scr2 (pc := 407) hs hL e_L_law_407 (by omega) (by omega) ?_
  refine V_aload_n (pc := 408) e_L_law_408 rfl (Or.inr (Or.inr ⟨_, rfl⟩)) ?_
  refine V_iload_n (pc := 409) e_L_law_409 rfl ?_
  refine V_iconst (pc := 410) e_L_law_410 ?_
  refine V_iadd (pc := 411) e_L_law_411 ?_
  refine V_scr2 (pc := 412) hs hL e_L_law_412 (by omega) (by omega) ?_
  refine V_callV (pc := 413) (b := 0) (As := [zI (xs (i + 1).toNat).toInt, zI (xs (i + 2).toNat).toInt]) (rest := []) ca_9_50 e_L_law_413 (by decide) rfl (Nat.le_of_ble_eq_true rfl) (by decide) rfl (by decide) (Nat.le_refl _) (p_hold hn h (zi_rg _) (zi_rg _)) (fun v S1 q => ?_)
  obtain ⟨x, rfl, hs1, hc1⟩ := q
  show V M_L_law 150 416 [(0, .retAddr 3), (1, .ref 0), (2, .ref 144), (3, zI i)] [zI x] 150 S1 Q
  refine V_aload_n (pc := 416) e_L_law_416 rfl (Or.inl ⟨_, rfl⟩) ?_
  refine V_aload_n (pc := 417) e_L_law_417 rfl (Or.inr (Or.inr ⟨_, rfl⟩)) ?_
  refine V_iload_n (pc := 418) e_L_law_418 rfl ?_
  refine V_iconst (pc := 419) e_L_law_419 ?_
  refine V_iadd (pc := 420) e_L_law_420 ?_
  refine V_scr2 (pc := 421) hs1 hL e_L_law_421 (by omega) (by omega) ?_
  refine V_aload_n (pc := 422) e_L_law_422 rfl (Or.inr (Or.inr ⟨_, rfl⟩)) ?_
  refine V_iload_n (pc := 423) e_L_law_423 rfl ?_
  refine V_iconst (pc := 424) e_L_law_424 ?_
  refine V_iadd (pc := 425) e_L_law_425 ?_
  refine V_scr2 (pc := 426) hs1 hL e_L_law_426 (by omega) (by omega) ?_
  refine V_callV (pc := 427) (b := 144) (As := [zI (xs (i + 1).toNat).toInt, zI (xs (i + 2).toNat).toInt]) (rest := [zI x]) ca_9_53 e_L_law_427 (by decide) rfl (Nat.le_of_ble_eq_true rfl) (by decide) rfl (by decide) (Nat.le_refl _) hc1 (fun v S2 q => ?_)
  obtain ⟨rfl, h2⟩ := q
  show V M_L_law 150 430 [(0, .retAddr 3), (1, .ref 0), (2, .ref 144), (3, zI i)] [zI x, zI x] 150 S2 Q
  have ex : zI x = zI (Int32.ofInt x).toInt := (congrArg Value.int (zi_of _)).symm
  rw [ex]
  refine V_icmp_eq (pc := 430) e_L_law_430 (by decide) (zi_rg _) (zi_rg _) (fun _ => ?_) (fun z => absurd rfl z)
  exact k S2 h2
theorem l_cancel {L : Nat} {xs : Nat → Int32} (hL : L ≤ 3072) {S : Sto} {n i : Int} {Q : Option Value → Sto → Prop} (hn : 0 ≤ n ∧ n ≤ 600) (h : LI (L, xs) S n) (hi : 0 ≤ i ∧ i + 6 ≤ (L : Int)) (k : ∀ S2 : Sto, LI (L, xs) S2 (n + 1) → V M_L_law 150 803 [(0, .retAddr 3), (1, .ref 0), (2, .ref 144), (3, zI i)] [] 150 S2 Q) : V M_L_law 150 435 [(0, .retAddr 3), (1, .ref 0), (2, .ref 144), (3, zI i)] [] 150 S Q := by
  have hs := LI_s h
  refine V_aload_n (pc := 435) e_L_law_435 rfl (Or.inl ⟨_, rfl⟩) ?_
  refine V_aload_n (pc := 436) e_L_law_436 rfl (Or.inr (Or.inr ⟨_, rfl⟩)) ?_
  refine V_iload_n (pc := 437) e_L_law_437 rfl ?_
  refine V_iconst (pc := 438) e_L_law_438 ?_
  refine V_iadd (pc := 439) e_L_law_439 ?_
  refine V_scr2 (pc := 440) hs hL e_L_law_440 (by omega) (by omega) ?_
  refine V_callV (pc := 441) (b := 0) (As := [zI (xs (i + 1).toNat).toInt]) (rest := []) ca_9_54 e_L_law_441 (by decide) rfl (Nat.le_of_ble_eq_true rfl) (by decide) rfl (by decide) (Nat.le_refl _) (p_cancel hn h (zi_rg _)) (fun v S1 q => ?_)
  obtain ⟨x, rfl, hs1, hc1⟩ := q
  show V M_L_law 150 444 [(0, .retAddr 3), (1, .ref 0), (2, .ref 144), (3, zI i)] [zI x] 150 S1 Q
  refine V_aload_n (pc := 444) e_L_law_444 rfl (Or.inl ⟨_, rfl⟩) ?_
  refine V_aload_n (pc := 445) e_L_law_445 rfl (Or.inr (Or.inr ⟨_, rfl⟩)) ?_
  refine V_iload_n (pc := 446) e_L_law_446 rfl ?_
  refine V_iconst (pc := 447) e_L_law_447 ?_
  refine V_iadd (pc := 448) e_L_law_448 ?_
  refine V_scr2 (pc := 449) hs1 hL e_L_law_449 (by omega) (by omega) ?_
  refine V_callV (pc := 450) (b := 144) (As := [zI (xs (i + 1).toNat).toInt]) (rest := [zI x]) ca_9_57 e_L_law_450 (by decide) rfl (Nat.le_of_ble_eq_true rfl) (by decide) rfl (by decide) (Nat.le_refl _) hc1 (fun v S2 q => ?_)
  obtain ⟨rfl, h2⟩ := q
  show V M_L_law 150 453 [(0, .retAddr 3), (1, .ref 0), (2, .ref 144), (3, zI i)] [zI x, zI x] 150 S2 Q
  have ex : zI x = zI (Int32.ofInt x).toInt := (congrArg Value.int (zi_of _)).symm
  rw [ex]
  refine V_icmp_eq (pc := 453) e_L_law_453 (by decide) (zi_rg _) (zi_rg _) (fun _ => ?_) (fun z => absurd rfl z)
  exact k S2 h2
theorem l_priority {L : Nat} {xs : Nat → Int32} (hL : L ≤ 3072) {S : Sto} {n i : Int} {Q : Option Value → Sto → Prop} (hn : 0 ≤ n ∧ n ≤ 600) (h : LI (L, xs) S n) (hi : 0 ≤ i ∧ i + 6 ≤ (L : Int)) (k : ∀ S2 : Sto, LI (L, xs) S2 (n + 1) → V M_L_law 150 803 [(0, .retAddr 3), (1, .ref 0), (2, .ref 144), (3, zI i)] [] 150 S2 Q) : V M_L_law 150 458 [(0, .retAddr 3), (1, .ref 0), (2, .ref 144), (3, zI i)] [] 150 S Q := by
  have hs := LI_s h
  refine V_aload_n (pc := 458) e_L_law_458 rfl (Or.inl ⟨_, rfl⟩) ?_
  refine V_aload_n (pc := 459) e_L_law_459 rfl (Or.inr (Or.inr ⟨_, rfl⟩)) ?_
  refine V_iload_n (pc := 460) e_L_law_460 rfl ?_
  refine V_iconst (pc := 461) e_L_law_461 ?_
  refine V_iadd (pc := 462) e_L_law_462 ?_
  refine V_scr2 (pc := 463) hs hL e_L_law_463 (by omega) (by omega) ?_
  refine V_aload_n (pc := 464) e_L_law_464 rfl (Or.inr (Or.inr ⟨_, rfl⟩)) ?_
  refine V_iload_n (pc := 465) e_L_law_465 rfl ?_
  refine V_iconst (pc := 466) e_L_law_466 ?_
  refine V_iadd (pc := 467) e_L_law_467 ?_
  refine V_scr2 (pc := 468) hs hL e_L_law_468 (by omega) (by omega) ?_
  refine V_callV (pc := 469) (b := 0) (As := [zI (xs (i + 1).toNat).toInt, zI (xs (i + 2).toNat).toInt]) (rest := []) ca_9_58 e_L_law_469 (by decide) rfl (Nat.le_of_ble_eq_true rfl) (by decide) rfl (by decide) (Nat.le_refl _) (p_priority hn h (zi_rg _) (zi_rg _)) (fun v S1 q => ?_)
  obtain ⟨x, rfl, hs1, hc1⟩ := q
  show V M_L_law 150 472 [(0, .retAddr 3), (1, .ref 0), (2, .ref 144), (3, zI i)] [zI x] 150 S1 Q
  refine V_aload_n (pc := 472) e_L_law_472 rfl (Or.inl ⟨_, rfl⟩) ?_
  refine V_aload_n (pc := 473) e_L_law_473 rfl (Or.inr (Or.inr ⟨_, rfl⟩)) ?_
  refine V_iload_n (pc := 474) e_L_law_474 rfl ?_
  refine V_iconst (pc := 475) e_L_law_475 ?_
  refine V_iadd (pc := 476) e_L_law_476 ?_
  refine V_scr2 (pc := 477) hs1 hL e_L_law_477 (by omega) (by omega) ?_
  refine V_aload_n (pc := 478) e_L_law_478 rfl (Or.inr (Or.inr ⟨_, rfl⟩)) ?_
  refine V_iload_n (pc := 479) e_L_law_479 rfl ?_
  refine V_iconst (pc := 480) e_L_law_480 ?_
  refine V_iadd (pc := 481) e_L_law_481 ?_
  refine V_scr2 (pc := 482) hs1 hL e_L_law_482 (by omega) (by omega) ?_
  refine V_callV (pc := 483) (b := 144) (As := [zI (xs (i + 1).toNat).toInt, zI (xs (i + 2).toNat).toInt]) (rest := [zI x]) ca_9_61 e_L_law_483 (by decide) rfl (Nat.le_of_ble_eq_true rfl) (by decide) rfl (by decide) (Nat.le_refl _) hc1 (fun v S2 q => ?_)
  obtain ⟨rfl, h2⟩ := q
  show V M_L_law 150 486 [(0, .retAddr 3), (1, .ref 0), (2, .ref 144), (3, zI i)] [zI x, zI x] 150 S2 Q
  have ex : zI x = zI (Int32.ofInt x).toInt := (congrArg Value.int (zi_of _)).symm
  rw [ex]
  refine V_icmp_eq (pc := 486) e_L_law_486 (by decide) (zi_rg _) (zi_rg _) (fun _ => ?_) (fun z => absurd rfl z)
  exact k S2 h2
theorem l_jobInfo {L : Nat} {xs : Nat → Int32} (hL : L ≤ 3072) {S : Sto} {n i : Int} {Q : Option Value → Sto → Prop} (hn : 0 ≤ n ∧ n ≤ 600) (h : LI (L, xs) S n) (hi : 0 ≤ i ∧ i + 6 ≤ (L : Int)) (k : ∀ S2 : Sto, LI (L, xs) S2 (n + 1) → V M_L_law 150 803 [(0, .retAddr 3), (1, .ref 0), (2, .ref 144), (3, zI i)] [] 150 S2 Q) : V M_L_law 150 491 [(0, .retAddr 3), (1, .ref 0), (2, .ref 144), (3, zI i)] [] 150 S Q := by
  have hs := LI_s h
  refine V_aload_n (pc := 491) e_L_law_491 rfl (Or.inl ⟨_, rfl⟩) ?_
  refine V_aload_n (pc := 492) e_L_law_492 rfl (Or.inr (Or.inr ⟨_, rfl⟩)) ?_
  refine V_iload_n (pc := 493) e_L_law_493 rfl ?_
  refine V_iconst (pc := 494) e_L_law_494 ?_
  refine V_iadd (pc := 495) e_L_law_495 ?_
  refine V_scr2 (pc := 496) hs hL e_L_law_496 (by omega) (by omega) ?_
  refine V_aload_n (pc := 497) e_L_law_497 rfl (Or.inr (Or.inr ⟨_, rfl⟩)) ?_
  refine V_iload_n (pc := 498) e_L_law_498 rfl ?_
  refine V_iconst (pc := 499) e_L_law_499 ?_
  refine V_iadd (pc := 500) e_L_law_500 ?_
  refine V_scr2 (pc := 501) hs hL e_L_law_501 (by omega) (by omega) ?_
  refine V_callV (pc := 502) (b := 0) (As := [zI (xs (i + 1).toNat).toInt, zI (xs (i + 2).toNat).toInt]) (rest := []) ca_9_62 e_L_law_502 (by decide) rfl (Nat.le_of_ble_eq_true rfl) (by decide) rfl (by decide) (Nat.le_refl _) (p_jobInfo hn h (zi_rg _) (zi_rg _)) (fun v S1 q => ?_)
  obtain ⟨x, rfl, hs1, hc1⟩ := q
  show V M_L_law 150 505 [(0, .retAddr 3), (1, .ref 0), (2, .ref 144), (3, zI i)] [zI x] 150 S1 Q
  refine V_aload_n (pc := 505) e_L_law_505 rfl (Or.inl ⟨_, rfl⟩) ?_
  refine V_aload_n (pc := 506) e_L_law_506 rfl (Or.inr (Or.inr ⟨_, rfl⟩)) ?_
  refine V_iload_n (pc := 507) e_L_law_507 rfl ?_
  refine V_iconst (pc := 508) e_L_law_508 ?_
  refine V_iadd (pc := 509) e_L_law_509 ?_
  refine V_scr2 (pc := 510) hs1 hL e_L_law_510 (by omega) (by omega) ?_
  refine V_aload_n (pc := 511) e_L_law_511 rfl (Or.inr (Or.inr ⟨_, rfl⟩)) ?_
  refine V_iload_n (pc := 512) e_L_law_512 rfl ?_
  refine V_iconst (pc := 513) e_L_law_513 ?_
  refine V_iadd (pc := 514) e_L_law_514 ?_
  refine V_scr2 (pc := 515) hs1 hL e_L_law_515 (by omega) (by omega) ?_
  refine V_callV (pc := 516) (b := 144) (As := [zI (xs (i + 1).toNat).toInt, zI (xs (i + 2).toNat).toInt]) (rest := [zI x]) ca_9_65 e_L_law_516 (by decide) rfl (Nat.le_of_ble_eq_true rfl) (by decide) rfl (by decide) (Nat.le_refl _) hc1 (fun v S2 q => ?_)
  obtain ⟨rfl, h2⟩ := q
  show V M_L_law 150 519 [(0, .retAddr 3), (1, .ref 0), (2, .ref 144), (3, zI i)] [zI x, zI x] 150 S2 Q
  have ex : zI x = zI (Int32.ofInt x).toInt := (congrArg Value.int (zi_of _)).symm
  rw [ex]
  refine V_icmp_eq (pc := 519) e_L_law_519 (by decide) (zi_rg _) (zi_rg _) (fun _ => ?_) (fun z => absurd rfl z)
  exact k S2 h2
theorem l_queued {L : Nat} {xs : Nat → Int32} (hL : L ≤ 3072) {S : Sto} {n i : Int} {Q : Option Value → Sto → Prop} (hn : 0 ≤ n ∧ n ≤ 600) (h : LI (L, xs) S n) (hi : 0 ≤ i ∧ i + 6 ≤ (L : Int)) (k : ∀ S2 : Sto, LI (L, xs) S2 (n + 1) → V M_L_law 150 803 [(0, .retAddr 3), (1, .ref 0), (2, .ref 144), (3, zI i)] [] 150 S2 Q) : V M_L_law 150 524 [(0, .retAddr 3), (1, .ref 0), (2, .ref 144), (3, zI i)] [] 150 S Q := by
  have hs := LI_s h
  refine V_aload_n (pc := 524) e_L_law_524 rfl (Or.inl ⟨_, rfl⟩) ?_
  refine V_aload_n (pc := 525) e_L_law_525 rfl (Or.inr (Or.inr ⟨_, rfl⟩)) ?_
  refine V_iload_n (pc := 526) e_L_law_526 rfl ?_
  refine V_iconst (pc := 527) e_L_law_527 ?_
  refine V_iadd (pc := 528) e_L_law_528 ?_
  refine V_scr2 (pc := 529) hs hL e_L_law_529 (by omega) (by omega) ?_
  refine V_callV (pc := 530) (b := 0) (As := [zI (xs (i + 1).toNat).toInt]) (rest := []) ca_9_66 e_L_law_530 (by decide) rfl (Nat.le_of_ble_eq_true rfl) (by decide) rfl (by decide) (Nat.le_refl _) (p_queued hn h (zi_rg _)) (fun v S1 q => ?_)
  obtain ⟨x, rfl, hs1, hc1⟩ := q
  show V M_L_law 150 533 [(0, .retAddr 3), (1, .ref 0), (2, .ref 144), (3, zI i)] [zI x] 150 S1 Q
  refine V_aload_n (pc := 533) e_L_law_533 rfl (Or.inl ⟨_, rfl⟩) ?_
  refine V_aload_n (pc := 534) e_L_law_534 rfl (Or.inr (Or.inr ⟨_, rfl⟩)) ?_
  refine V_iload_n (pc := 535) e_L_law_535 rfl ?_
  refine V_iconst (pc := 536) e_L_law_536 ?_
  refine V_iadd (pc := 537) e_L_law_537 ?_
  refine V_scr2 (pc := 538) hs1 hL e_L_law_538 (by omega) (by omega) ?_
  refine V_callV (pc := 539) (b := 144) (As := [zI (xs (i + 1).toNat).toInt]) (rest := [zI x]) ca_9_69 e_L_law_539 (by decide) rfl (Nat.le_of_ble_eq_true rfl) (by decide) rfl (by decide) (Nat.le_refl _) hc1 (fun v S2 q => ?_)
  obtain ⟨rfl, h2⟩ := q
  show V M_L_law 150 542 [(0, .retAddr 3), (1, .ref 0), (2, .ref 144), (3, zI i)] [zI x, zI x] 150 S2 Q
  have ex : zI x = zI (Int32.ofInt x).toInt := (congrArg Value.int (zi_of _)).symm
  rw [ex]
  refine V_icmp_eq (pc := 542) e_L_law_542 (by decide) (zi_rg _) (zi_rg _) (fun _ => ?_) (fun z => absurd rfl z)
  exact k S2 h2
theorem l_run {L : Nat} {xs : Nat → Int32} (hL : L ≤ 3072) {S : Sto} {n i : Int} {Q : Option Value → Sto → Prop} (hn : 0 ≤ n ∧ n ≤ 600) (h : LI (L, xs) S n) (hi : 0 ≤ i ∧ i + 6 ≤ (L : Int)) (k : ∀ S2 : Sto, LI (L, xs) S2 (n + 1) → V M_L_law 150 803 [(0, .retAddr 3), (1, .ref 0), (2, .ref 144), (3, zI i)] [] 150 S2 Q) : V M_L_law 150 547 [(0, .retAddr 3), (1, .ref 0), (2, .ref 144), (3, zI i)] [] 150 S Q := by
  have hs := LI_s h
  refine V_aload_n (pc := 547) e_L_law_547 rfl (Or.inl ⟨_, rfl⟩) ?_
  refine V_aload_n (pc := 548) e_L_law_548 rfl (Or.inr (Or.inr ⟨_, rfl⟩)) ?_
  refine V_iload_n (pc := 549) e_L_law_549 rfl ?_
  refine V_iconst (pc := 550) e_L_law_550 ?_
  refine V_iadd (pc := 551) e_L_law_551 ?_
  refine V_scr2 (pc := 552) hs hL e_L_law_552 (by omega) (by omega) ?_
  refine V_callV (pc := 553) (b := 0) (As := [zI (xs (i + 1).toNat).toInt]) (rest := []) ca_9_70 e_L_law_553 (by decide) rfl (Nat.le_of_ble_eq_true rfl) (by decide) rfl (by decide) (Nat.le_refl _) (p_run hn h (zi_rg _)) (fun v S1 q => ?_)
  obtain ⟨x, rfl, hs1, hc1⟩ := q
  show V M_L_law 150 556 [(0, .retAddr 3), (1, .ref 0), (2, .ref 144), (3, zI i)] [zI x] 150 S1 Q
  refine V_aload_n (pc := 556) e_L_law_556 rfl (Or.inl ⟨_, rfl⟩) ?_
  refine V_aload_n (pc := 557) e_L_law_557 rfl (Or.inr (Or.inr ⟨_, rfl⟩)) ?_
  refine V_iload_n (pc := 558) e_L_law_558 rfl ?_
  refine V_iconst (pc := 559) e_L_law_559 ?_
  refine V_iadd (pc := 560) e_L_law_560 ?_
  refine V_scr2 (pc := 561) hs1 hL e_L_law_561 (by omega) (by omega) ?_
  refine V_callV (pc := 562) (b := 144) (As := [zI (xs (i + 1).toNat).toInt]) (rest := [zI x]) ca_9_73 e_L_law_562 (by decide) rfl (Nat.le_of_ble_eq_true rfl) (by decide) rfl (by decide) (Nat.le_refl _) hc1 (fun v S2 q => ?_)
  obtain ⟨rfl, h2⟩ := q
  show V M_L_law 150 565 [(0, .retAddr 3), (1, .ref 0), (2, .ref 144), (3, zI i)] [zI x, zI x] 150 S2 Q
  have ex : zI x = zI (Int32.ofInt x).toInt := (congrArg Value.int (zi_of _)).symm
  rw [ex]
  refine V_icmp_eq (pc := 565) e_L_law_565 (by decide) (zi_rg _) (zi_rg _) (fun _ => ?_) (fun z => absurd rfl z)
  exact k S2 h2
theorem l_stop {L : Nat} {xs : Nat → Int32} (hL : L ≤ 3072) {S : Sto} {n i : Int} {Q : Option Value → Sto → Prop} (hn : 0 ≤ n ∧ n ≤ 600) (h : LI (L, xs) S n) (hi : 0 ≤ i ∧ i + 6 ≤ (L : Int)) (k : ∀ S2 : Sto, LI (L, xs) S2 (n + 1) → V M_L_law 150 803 [(0, .retAddr 3), (1, .ref 0), (2, .ref 144), (3, zI i)] [] 150 S2 Q) : V M_L_law 150 570 [(0, .retAddr 3), (1, .ref 0), (2, .ref 144), (3, zI i)] [] 150 S Q := by
  have hs := LI_s h
  refine V_aload_n (pc := 570) e_L_law_570 rfl (Or.inl ⟨_, rfl⟩) ?_
  refine V_callV (pc := 571) (b := 0) (As := []) (rest := []) ca_9_74 e_L_law_571 (by decide) rfl (Nat.le_of_ble_eq_true rfl) (by decide) rfl (by decide) (Nat.le_refl _) (p_stop hn h) (fun v S1 q => ?_)
  obtain ⟨x, rfl, hs1, hc1⟩ := q
  show V M_L_law 150 574 [(0, .retAddr 3), (1, .ref 0), (2, .ref 144), (3, zI i)] [zI x] 150 S1 Q
  refine V_aload_n (pc := 574) e_L_law_574 rfl (Or.inl ⟨_, rfl⟩) ?_
  refine V_callV (pc := 575) (b := 144) (As := []) (rest := [zI x]) ca_9_77 e_L_law_575 (by decide) rfl (Nat.le_of_ble_eq_true rfl) (by decide) rfl (by decide) (Nat.le_refl _) hc1 (fun v S2 q => ?_)
  obtain ⟨rfl, h2⟩ := q
  show V M_L_law 150 578 [(0, .retAddr 3), (1, .ref 0), (2, .ref 144), (3, zI i)] [zI x, zI x] 150 S2 Q
  have ex : zI x = zI (Int32.ofInt x).toInt := (congrArg Value.int (zi_of _)).symm
  rw [ex]
  refine V_icmp_eq (pc := 578) e_L_law_578 (by decide) (zi_rg _) (zi_rg _) (fun _ => ?_) (fun z => absurd rfl z)
  exact k S2 h2
theorem l_count {L : Nat} {xs : Nat → Int32} (hL : L ≤ 3072) {S : Sto} {n i : Int} {Q : Option Value → Sto → Prop} (hn : 0 ≤ n ∧ n ≤ 600) (h : LI (L, xs) S n) (hi : 0 ≤ i ∧ i + 6 ≤ (L : Int)) (k : ∀ S2 : Sto, LI (L, xs) S2 (n + 1) → V M_L_law 150 803 [(0, .retAddr 3), (1, .ref 0), (2, .ref 144), (3, zI i)] [] 150 S2 Q) : V M_L_law 150 583 [(0, .retAddr 3), (1, .ref 0), (2, .ref 144), (3, zI i)] [] 150 S Q := by
  have hs := LI_s h
  refine V_aload_n (pc := 583) e_L_law_583 rfl (Or.inl ⟨_, rfl⟩) ?_
  refine V_aload_n (pc := 584) e_L_law_584 rfl (Or.inr (Or.inr ⟨_, rfl⟩)) ?_
  refine V_iload_n (pc := 585) e_L_law_585 rfl ?_
  refine V_iconst (pc := 586) e_L_law_586 ?_
  refine V_iadd (pc := 587) e_L_law_587 ?_
  refine V_scr2 (pc := 588) hs hL e_L_law_588 (by omega) (by omega) ?_
  refine V_callV (pc := 589) (b := 0) (As := [zI (xs (i + 1).toNat).toInt]) (rest := []) ca_9_78 e_L_law_589 (by decide) rfl (Nat.le_of_ble_eq_true rfl) (by decide) rfl (by decide) (Nat.le_refl _) (p_count hn h (zi_rg _)) (fun v S1 q => ?_)
  obtain ⟨x, rfl, hs1, hc1⟩ := q
  show V M_L_law 150 592 [(0, .retAddr 3), (1, .ref 0), (2, .ref 144), (3, zI i)] [zI x] 150 S1 Q
  refine V_aload_n (pc := 592) e_L_law_592 rfl (Or.inl ⟨_, rfl⟩) ?_
  refine V_aload_n (pc := 593) e_L_law_593 rfl (Or.inr (Or.inr ⟨_, rfl⟩)) ?_
  refine V_iload_n (pc := 594) e_L_law_594 rfl ?_
  refine V_iconst (pc := 595) e_L_law_595 ?_
  refine V_iadd (pc := 596) e_L_law_596 ?_
  refine V_scr2 (pc := 597) hs1 hL e_L_law_597 (by omega) (by omega) ?_
  refine V_callV (pc := 598) (b := 144) (As := [zI (xs (i + 1).toNat).toInt]) (rest := [zI x]) ca_9_81 e_L_law_598 (by decide) rfl (Nat.le_of_ble_eq_true rfl) (by decide) rfl (by decide) (Nat.le_refl _) hc1 (fun v S2 q => ?_)
  obtain ⟨rfl, h2⟩ := q
  show V M_L_law 150 601 [(0, .retAddr 3), (1, .ref 0), (2, .ref 144), (3, zI i)] [zI x, zI x] 150 S2 Q
  have ex : zI x = zI (Int32.ofInt x).toInt := (congrArg Value.int (zi_of _)).symm
  rw [ex]
  refine V_icmp_eq (pc := 601) e_L_law_601 (by decide) (zi_rg _) (zi_rg _) (fun _ => ?_) (fun z => absurd rfl z)
  exact k S2 h2
theorem l_account {L : Nat} {xs : Nat → Int32} (hL : L ≤ 3072) {S : Sto} {n i : Int} {Q : Option Value → Sto → Prop} (hn : 0 ≤ n ∧ n ≤ 600) (h : LI (L, xs) S n) (hi : 0 ≤ i ∧ i + 6 ≤ (L : Int)) (k : ∀ S2 : Sto, LI (L, xs) S2 (n + 1) → V M_L_law 150 803 [(0, .retAddr 3), (1, .ref 0), (2, .ref 144), (3, zI i)] [] 150 S2 Q) : V M_L_law 150 606 [(0, .retAddr 3), (1, .ref 0), (2, .ref 144), (3, zI i)] [] 150 S Q := by
  have hs := LI_s h
  refine V_aload_n (pc := 606) e_L_law_606 rfl (Or.inl ⟨_, rfl⟩) ?_
  refine V_aload_n (pc := 607) e_L_law_607 rfl (Or.inr (Or.inr ⟨_, rfl⟩)) ?_
  refine V_iload_n (pc := 608) e_L_law_608 rfl ?_
  refine V_iconst (pc := 609) e_L_law_609 ?_
  refine V_iadd (pc := 610) e_L_law_610 ?_
  refine V_scr2 (pc := 611) hs hL e_L_law_611 (by omega) (by omega) ?_
  refine V_callV (pc := 612) (b := 0) (As := [zI (xs (i + 1).toNat).toInt]) (rest := []) ca_9_82 e_L_law_612 (by decide) rfl (Nat.le_of_ble_eq_true rfl) (by decide) rfl (by decide) (Nat.le_refl _) (p_account hn h (zi_rg _)) (fun v S1 q => ?_)
  obtain ⟨x, rfl, hs1, hc1⟩ := q
  show V M_L_law 150 615 [(0, .retAddr 3), (1, .ref 0), (2, .ref 144), (3, zI i)] [zI x] 150 S1 Q
  refine V_aload_n (pc := 615) e_L_law_615 rfl (Or.inl ⟨_, rfl⟩) ?_
  refine V_aload_n (pc := 616) e_L_law_616 rfl (Or.inr (Or.inr ⟨_, rfl⟩)) ?_
  refine V_iload_n (pc := 617) e_L_law_617 rfl ?_
  refine V_iconst (pc := 618) e_L_law_618 ?_
  refine V_iadd (pc := 619) e_L_law_619 ?_
  refine V_scr2 (pc := 620) hs1 hL e_L_law_620 (by omega) (by omega) ?_
  refine V_callV (pc := 621) (b := 144) (As := [zI (xs (i + 1).toNat).toInt]) (rest := [zI x]) ca_9_85 e_L_law_621 (by decide) rfl (Nat.le_of_ble_eq_true rfl) (by decide) rfl (by decide) (Nat.le_refl _) hc1 (fun v S2 q => ?_)
  obtain ⟨rfl, h2⟩ := q
  show V M_L_law 150 624 [(0, .retAddr 3), (1, .ref 0), (2, .ref 144), (3, zI i)] [zI x, zI x] 150 S2 Q
  have ex : zI x = zI (Int32.ofInt x).toInt := (congrArg Value.int (zi_of _)).symm
  rw [ex]
  refine V_icmp_eq (pc := 624) e_L_law_624 (by decide) (zi_rg _) (zi_rg _) (fun _ => ?_) (fun z => absurd rfl z)
  exact k S2 h2
theorem l_paper {L : Nat} {xs : Nat → Int32} (hL : L ≤ 3072) {S : Sto} {n i : Int} {Q : Option Value → Sto → Prop} (hn : 0 ≤ n ∧ n ≤ 600) (h : LI (L, xs) S n) (hi : 0 ≤ i ∧ i + 6 ≤ (L : Int)) (k : ∀ S2 : Sto, LI (L, xs) S2 (n + 1) → V M_L_law 150 803 [(0, .retAddr 3), (1, .ref 0), (2, .ref 144), (3, zI i)] [] 150 S2 Q) : V M_L_law 150 629 [(0, .retAddr 3), (1, .ref 0), (2, .ref 144), (3, zI i)] [] 150 S Q := by
  have hs := LI_s h
  refine V_aload_n (pc := 629) e_L_law_629 rfl (Or.inl ⟨_, rfl⟩) ?_
  refine V_aload_n (pc := 630) e_L_law_630 rfl (Or.inr (Or.inr ⟨_, rfl⟩)) ?_
  refine V_iload_n (pc := 631) e_L_law_631 rfl ?_
  refine V_iconst (pc := 632) e_L_law_632 ?_
  refine V_iadd (pc := 633) e_L_law_633 ?_
  refine V_scr2 (pc := 634) hs hL e_L_law_634 (by omega) (by omega) ?_
  refine V_aload_n (pc := 635) e_L_law_635 rfl (Or.inr (Or.inr ⟨_, rfl⟩)) ?_
  refine V_iload_n (pc := 636) e_L_law_636 rfl ?_
  refine V_iconst (pc := 637) e_L_law_637 ?_
  refine V_iadd (pc := 638) e_L_law_638 ?_
  refine V_scr2 (pc := 639) hs hL e_L_law_639 (by omega) (by omega) ?_
  refine V_callV (pc := 640) (b := 0) (As := [zI (xs (i + 1).toNat).toInt, zI (xs (i + 2).toNat).toInt]) (rest := []) ca_9_86 e_L_law_640 (by decide) rfl (Nat.le_of_ble_eq_true rfl) (by decide) rfl (by decide) (Nat.le_refl _) (p_paper hn h (zi_rg _) (zi_rg _)) (fun v S1 q => ?_)
  obtain ⟨x, rfl, hs1, hc1⟩ := q
  show V M_L_law 150 643 [(0, .retAddr 3), (1, .ref 0), (2, .ref 144), (3, zI i)] [zI x] 150 S1 Q
  refine V_aload_n (pc := 643) e_L_law_643 rfl (Or.inl ⟨_, rfl⟩) ?_
  refine V_aload_n (pc := 644) e_L_law_644 rfl (Or.inr (Or.inr ⟨_, rfl⟩)) ?_
  refine V_iload_n (pc := 645) e_L_law_645 rfl ?_
  refine V_iconst (pc := 646) e_L_law_646 ?_
  refine V_iadd (pc := 647) e_L_law_647 ?_
  refine V_scr2 (pc := 648) hs1 hL e_L_law_648 (by omega) (by omega) ?_
  refine V_aload_n (pc := 649) e_L_law_649 rfl (Or.inr (Or.inr ⟨_, rfl⟩)) ?_
  refine V_iload_n (pc := 650) e_L_law_650 rfl ?_
  refine V_iconst (pc := 651) e_L_law_651 ?_
  refine V_iadd (pc := 652) e_L_law_652 ?_
  refine V_scr2 (pc := 653) hs1 hL e_L_law_653 (by omega) (by omega) ?_
  refine V_callV (pc := 654) (b := 144) (As := [zI (xs (i + 1).toNat).toInt, zI (xs (i + 2).toNat).toInt]) (rest := [zI x]) ca_9_89 e_L_law_654 (by decide) rfl (Nat.le_of_ble_eq_true rfl) (by decide) rfl (by decide) (Nat.le_refl _) hc1 (fun v S2 q => ?_)
  obtain ⟨rfl, h2⟩ := q
  show V M_L_law 150 657 [(0, .retAddr 3), (1, .ref 0), (2, .ref 144), (3, zI i)] [zI x, zI x] 150 S2 Q
  have ex : zI x = zI (Int32.ofInt x).toInt := (congrArg Value.int (zi_of _)).symm
  rw [ex]
  refine V_icmp_eq (pc := 657) e_L_law_657 (by decide) (zi_rg _) (zi_rg _) (fun _ => ?_) (fun z => absurd rfl z)
  exact k S2 h2
theorem l_lacking {L : Nat} {xs : Nat → Int32} (hL : L ≤ 3072) {S : Sto} {n i : Int} {Q : Option Value → Sto → Prop} (hn : 0 ≤ n ∧ n ≤ 600) (h : LI (L, xs) S n) (hi : 0 ≤ i ∧ i + 6 ≤ (L : Int)) (k : ∀ S2 : Sto, LI (L, xs) S2 (n + 1) → V M_L_law 150 803 [(0, .retAddr 3), (1, .ref 0), (2, .ref 144), (3, zI i)] [] 150 S2 Q) : V M_L_law 150 662 [(0, .retAddr 3), (1, .ref 0), (2, .ref 144), (3, zI i)] [] 150 S Q := by
  have hs := LI_s h
  refine V_aload_n (pc := 662) e_L_law_662 rfl (Or.inl ⟨_, rfl⟩) ?_
  refine V_aload_n (pc := 663) e_L_law_663 rfl (Or.inr (Or.inr ⟨_, rfl⟩)) ?_
  refine V_iload_n (pc := 664) e_L_law_664 rfl ?_
  refine V_iconst (pc := 665) e_L_law_665 ?_
  refine V_iadd (pc := 666) e_L_law_666 ?_
  refine V_scr2 (pc := 667) hs hL e_L_law_667 (by omega) (by omega) ?_
  refine V_aload_n (pc := 668) e_L_law_668 rfl (Or.inr (Or.inr ⟨_, rfl⟩)) ?_
  refine V_iload_n (pc := 669) e_L_law_669 rfl ?_
  refine V_iconst (pc := 670) e_L_law_670 ?_
  refine V_iadd (pc := 671) e_L_law_671 ?_
  refine V_scr2 (pc := 672) hs hL e_L_law_672 (by omega) (by omega) ?_
  refine V_callV (pc := 673) (b := 0) (As := [zI (xs (i + 1).toNat).toInt, zI (xs (i + 2).toNat).toInt]) (rest := []) ca_9_90 e_L_law_673 (by decide) rfl (Nat.le_of_ble_eq_true rfl) (by decide) rfl (by decide) (Nat.le_refl _) (p_lacking hn h (zi_rg _) (zi_rg _)) (fun v S1 q => ?_)
  obtain ⟨x, rfl, hs1, hc1⟩ := q
  show V M_L_law 150 676 [(0, .retAddr 3), (1, .ref 0), (2, .ref 144), (3, zI i)] [zI x] 150 S1 Q
  refine V_aload_n (pc := 676) e_L_law_676 rfl (Or.inl ⟨_, rfl⟩) ?_
  refine V_aload_n (pc := 677) e_L_law_677 rfl (Or.inr (Or.inr ⟨_, rfl⟩)) ?_
  refine V_iload_n (pc := 678) e_L_law_678 rfl ?_
  refine V_iconst (pc := 679) e_L_law_679 ?_
  refine V_iadd (pc := 680) e_L_law_680 ?_
  refine V_scr2 (pc := 681) hs1 hL e_L_law_681 (by omega) (by omega) ?_
  refine V_aload_n (pc := 682) e_L_law_682 rfl (Or.inr (Or.inr ⟨_, rfl⟩)) ?_
  refine V_iload_n (pc := 683) e_L_law_683 rfl ?_
  refine V_iconst (pc := 684) e_L_law_684 ?_
  refine V_iadd (pc := 685) e_L_law_685 ?_
  refine V_scr2 (pc := 686) hs1 hL e_L_law_686 (by omega) (by omega) ?_
  refine V_callV (pc := 687) (b := 144) (As := [zI (xs (i + 1).toNat).toInt, zI (xs (i + 2).toNat).toInt]) (rest := [zI x]) ca_9_93 e_L_law_687 (by decide) rfl (Nat.le_of_ble_eq_true rfl) (by decide) rfl (by decide) (Nat.le_refl _) hc1 (fun v S2 q => ?_)
  obtain ⟨rfl, h2⟩ := q
  show V M_L_law 150 690 [(0, .retAddr 3), (1, .ref 0), (2, .ref 144), (3, zI i)] [zI x, zI x] 150 S2 Q
  have ex : zI x = zI (Int32.ofInt x).toInt := (congrArg Value.int (zi_of _)).symm
  rw [ex]
  refine V_icmp_eq (pc := 690) e_L_law_690 (by decide) (zi_rg _) (zi_rg _) (fun _ => ?_) (fun z => absurd rfl z)
  exact k S2 h2
theorem l_ticksTo {L : Nat} {xs : Nat → Int32} (hL : L ≤ 3072) {S : Sto} {n i : Int} {Q : Option Value → Sto → Prop} (hn : 0 ≤ n ∧ n ≤ 600) (h : LI (L, xs) S n) (hi : 0 ≤ i ∧ i + 6 ≤ (L : Int)) (k : ∀ S2 : Sto, LI (L, xs) S2 (n + 1) → V M_L_law 150 803 [(0, .retAddr 3), (1, .ref 0), (2, .ref 144), (3, zI i)] [] 150 S2 Q) : V M_L_law 150 695 [(0, .retAddr 3), (1, .ref 0), (2, .ref 144), (3, zI i)] [] 150 S Q := by
  have hs := LI_s h
  refine V_aload_n (pc := 695) e_L_law_695 rfl (Or.inl ⟨_, rfl⟩) ?_
  refine V_aload_n (pc := 696) e_L_law_696 rfl (Or.inr (Or.inr ⟨_, rfl⟩)) ?_
  refine V_iload_n (pc := 697) e_L_law_697 rfl ?_
  refine V_iconst (pc := 698) e_L_law_698 ?_
  refine V_iadd (pc := 699) e_L_law_699 ?_
  refine V_scr2 (pc := 700) hs hL e_L_law_700 (by omega) (by omega) ?_
  refine V_callV (pc := 701) (b := 0) (As := [zI (xs (i + 1).toNat).toInt]) (rest := []) ca_9_94 e_L_law_701 (by decide) rfl (Nat.le_of_ble_eq_true rfl) (by decide) rfl (by decide) (Nat.le_refl _) (p_ticksTo hn h (zi_rg _)) (fun v S1 q => ?_)
  obtain ⟨x, rfl, hs1, hc1⟩ := q
  show V M_L_law 150 704 [(0, .retAddr 3), (1, .ref 0), (2, .ref 144), (3, zI i)] [zI x] 150 S1 Q
  refine V_aload_n (pc := 704) e_L_law_704 rfl (Or.inl ⟨_, rfl⟩) ?_
  refine V_aload_n (pc := 705) e_L_law_705 rfl (Or.inr (Or.inr ⟨_, rfl⟩)) ?_
  refine V_iload_n (pc := 706) e_L_law_706 rfl ?_
  refine V_iconst (pc := 707) e_L_law_707 ?_
  refine V_iadd (pc := 708) e_L_law_708 ?_
  refine V_scr2 (pc := 709) hs1 hL e_L_law_709 (by omega) (by omega) ?_
  refine V_callV (pc := 710) (b := 144) (As := [zI (xs (i + 1).toNat).toInt]) (rest := [zI x]) ca_9_97 e_L_law_710 (by decide) rfl (Nat.le_of_ble_eq_true rfl) (by decide) rfl (by decide) (Nat.le_refl _) hc1 (fun v S2 q => ?_)
  obtain ⟨rfl, h2⟩ := q
  show V M_L_law 150 713 [(0, .retAddr 3), (1, .ref 0), (2, .ref 144), (3, zI i)] [zI x, zI x] 150 S2 Q
  have ex : zI x = zI (Int32.ofInt x).toInt := (congrArg Value.int (zi_of _)).symm
  rw [ex]
  refine V_icmp_eq (pc := 713) e_L_law_713 (by decide) (zi_rg _) (zi_rg _) (fun _ => ?_) (fun z => absurd rfl z)
  exact k S2 h2
theorem l_undo {L : Nat} {xs : Nat → Int32} (hL : L ≤ 3072) {S : Sto} {n i : Int} {Q : Option Value → Sto → Prop} (hn : 0 ≤ n ∧ n ≤ 600) (h : LI (L, xs) S n) (hi : 0 ≤ i ∧ i + 6 ≤ (L : Int)) (k : ∀ S2 : Sto, LI (L, xs) S2 (n + 1) → V M_L_law 150 803 [(0, .retAddr 3), (1, .ref 0), (2, .ref 144), (3, zI i)] [] 150 S2 Q) : V M_L_law 150 718 [(0, .retAddr 3), (1, .ref 0), (2, .ref 144), (3, zI i)] [] 150 S Q := by
  have hs := LI_s h
  refine V_aload_n (pc := 718) e_L_law_718 rfl (Or.inl ⟨_, rfl⟩) ?_
  refine V_callV (pc := 719) (b := 0) (As := []) (rest := []) ca_9_98 e_L_law_719 (by decide) rfl (Nat.le_of_ble_eq_true rfl) (by decide) rfl (by decide) (Nat.le_refl _) (p_undo hn h) (fun v S1 q => ?_)
  obtain ⟨x, rfl, hs1, hc1⟩ := q
  show V M_L_law 150 722 [(0, .retAddr 3), (1, .ref 0), (2, .ref 144), (3, zI i)] [zI x] 150 S1 Q
  refine V_aload_n (pc := 722) e_L_law_722 rfl (Or.inl ⟨_, rfl⟩) ?_
  refine V_callV (pc := 723) (b := 144) (As := []) (rest := [zI x]) ca_9_101 e_L_law_723 (by decide) rfl (Nat.le_of_ble_eq_true rfl) (by decide) rfl (by decide) (Nat.le_refl _) hc1 (fun v S2 q => ?_)
  obtain ⟨rfl, h2⟩ := q
  show V M_L_law 150 726 [(0, .retAddr 3), (1, .ref 0), (2, .ref 144), (3, zI i)] [zI x, zI x] 150 S2 Q
  have ex : zI x = zI (Int32.ofInt x).toInt := (congrArg Value.int (zi_of _)).symm
  rw [ex]
  refine V_icmp_eq (pc := 726) e_L_law_726 (by decide) (zi_rg _) (zi_rg _) (fun _ => ?_) (fun z => absurd rfl z)
  exact k S2 h2
theorem l_type {L : Nat} {xs : Nat → Int32} (hL : L ≤ 3072) {S : Sto} {n i : Int} {Q : Option Value → Sto → Prop} (hn : 0 ≤ n ∧ n ≤ 600) (h : LI (L, xs) S n) (hi : 0 ≤ i ∧ i + 6 ≤ (L : Int)) (k : ∀ S2 : Sto, LI (L, xs) S2 (n + 1) → V M_L_law 150 803 [(0, .retAddr 3), (1, .ref 0), (2, .ref 144), (3, zI i)] [] 150 S2 Q) : V M_L_law 150 731 [(0, .retAddr 3), (1, .ref 0), (2, .ref 144), (3, zI i)] [] 150 S Q := by
  have hs := LI_s h
  refine V_aload_n (pc := 731) e_L_law_731 rfl (Or.inl ⟨_, rfl⟩) ?_
  refine V_aload_n (pc := 732) e_L_law_732 rfl (Or.inr (Or.inr ⟨_, rfl⟩)) ?_
  refine V_iload_n (pc := 733) e_L_law_733 rfl ?_
  refine V_iconst (pc := 734) e_L_law_734 ?_
  refine V_iadd (pc := 735) e_L_law_735 ?_
  refine V_scr2 (pc := 736) hs hL e_L_law_736 (by omega) (by omega) ?_
  refine V_callV (pc := 737) (b := 0) (As := [zI (xs (i + 1).toNat).toInt]) (rest := []) ca_9_102 e_L_law_737 (by decide) rfl (Nat.le_of_ble_eq_true rfl) (by decide) rfl (by decide) (Nat.le_refl _) (p_type hn h (zi_rg _)) (fun v S1 q => ?_)
  obtain ⟨x, rfl, hs1, hc1⟩ := q
  show V M_L_law 150 740 [(0, .retAddr 3), (1, .ref 0), (2, .ref 144), (3, zI i)] [zI x] 150 S1 Q
  refine V_aload_n (pc := 740) e_L_law_740 rfl (Or.inl ⟨_, rfl⟩) ?_
  refine V_aload_n (pc := 741) e_L_law_741 rfl (Or.inr (Or.inr ⟨_, rfl⟩)) ?_
  refine V_iload_n (pc := 742) e_L_law_742 rfl ?_
  refine V_iconst (pc := 743) e_L_law_743 ?_
  refine V_iadd (pc := 744) e_L_law_744 ?_
  refine V_scr2 (pc := 745) hs1 hL e_L_law_745 (by omega) (by omega) ?_
  refine V_callV (pc := 746) (b := 144) (As := [zI (xs (i + 1).toNat).toInt]) (rest := [zI x]) ca_9_105 e_L_law_746 (by decide) rfl (Nat.le_of_ble_eq_true rfl) (by decide) rfl (by decide) (Nat.le_refl _) hc1 (fun v S2 q => ?_)
  obtain ⟨rfl, h2⟩ := q
  show V M_L_law 150 749 [(0, .retAddr 3), (1, .ref 0), (2, .ref 144), (3, zI i)] [zI x, zI x] 150 S2 Q
  have ex : zI x = zI (Int32.ofInt x).toInt := (congrArg Value.int (zi_of _)).symm
  rw [ex]
  refine V_icmp_eq (pc := 749) e_L_law_749 (by decide) (zi_rg _) (zi_rg _) (fun _ => ?_) (fun z => absurd rfl z)
  exact k S2 h2
theorem l_clearText {L : Nat} {xs : Nat → Int32} (hL : L ≤ 3072) {S : Sto} {n i : Int} {Q : Option Value → Sto → Prop} (hn : 0 ≤ n ∧ n ≤ 600) (h : LI (L, xs) S n) (hi : 0 ≤ i ∧ i + 6 ≤ (L : Int)) (k : ∀ S2 : Sto, LI (L, xs) S2 (n + 1) → V M_L_law 150 803 [(0, .retAddr 3), (1, .ref 0), (2, .ref 144), (3, zI i)] [] 150 S2 Q) : V M_L_law 150 754 [(0, .retAddr 3), (1, .ref 0), (2, .ref 144), (3, zI i)] [] 150 S Q := by
  have hs := LI_s h
  refine V_aload_n (pc := 754) e_L_law_754 rfl (Or.inl ⟨_, rfl⟩) ?_
  refine V_callV (pc := 755) (b := 0) (As := []) (rest := []) ca_9_106 e_L_law_755 (by decide) rfl (Nat.le_of_ble_eq_true rfl) (by decide) rfl (by decide) (Nat.le_refl _) (p_clearText hn h) (fun v S1 q => ?_)
  obtain ⟨x, rfl, hs1, hc1⟩ := q
  show V M_L_law 150 758 [(0, .retAddr 3), (1, .ref 0), (2, .ref 144), (3, zI i)] [zI x] 150 S1 Q
  refine V_aload_n (pc := 758) e_L_law_758 rfl (Or.inl ⟨_, rfl⟩) ?_
  refine V_callV (pc := 759) (b := 144) (As := []) (rest := [zI x]) ca_9_109 e_L_law_759 (by decide) rfl (Nat.le_of_ble_eq_true rfl) (by decide) rfl (by decide) (Nat.le_refl _) hc1 (fun v S2 q => ?_)
  obtain ⟨rfl, h2⟩ := q
  show V M_L_law 150 762 [(0, .retAddr 3), (1, .ref 0), (2, .ref 144), (3, zI i)] [zI x, zI x] 150 S2 Q
  have ex : zI x = zI (Int32.ofInt x).toInt := (congrArg Value.int (zi_of _)).symm
  rw [ex]
  refine V_icmp_eq (pc := 762) e_L_law_762 (by decide) (zi_rg _) (zi_rg _) (fun _ => ?_) (fun z => absurd rfl z)
  exact k S2 h2
theorem l_fault {L : Nat} {xs : Nat → Int32} (hL : L ≤ 3072) {S : Sto} {n i : Int} {Q : Option Value → Sto → Prop} (hn : 0 ≤ n ∧ n ≤ 600) (h : LI (L, xs) S n) (hi : 0 ≤ i ∧ i + 6 ≤ (L : Int)) (k : ∀ S2 : Sto, LI (L, xs) S2 (n + 1) → V M_L_law 150 803 [(0, .retAddr 3), (1, .ref 0), (2, .ref 144), (3, zI i)] [] 150 S2 Q) : V M_L_law 150 767 [(0, .retAddr 3), (1, .ref 0), (2, .ref 144), (3, zI i)] [] 150 S Q := by
  have hs := LI_s h
  refine V_aload_n (pc := 767) e_L_law_767 rfl (Or.inl ⟨_, rfl⟩) ?_
  refine V_aload_n (pc := 768) e_L_law_768 rfl (Or.inr (Or.inr ⟨_, rfl⟩)) ?_
  refine V_iload_n (pc := 769) e_L_law_769 rfl ?_
  refine V_iconst (pc := 770) e_L_law_770 ?_
  refine V_iadd (pc := 771) e_L_law_771 ?_
  refine V_scr2 (pc := 772) hs hL e_L_law_772 (by omega) (by omega) ?_
  refine V_callV (pc := 773) (b := 0) (As := [zI (xs (i + 1).toNat).toInt]) (rest := []) ca_9_110 e_L_law_773 (by decide) rfl (Nat.le_of_ble_eq_true rfl) (by decide) rfl (by decide) (Nat.le_refl _) (p_fault hn h (zi_rg _)) (fun v S1 q => ?_)
  obtain ⟨x, rfl, hs1, hc1⟩ := q
  show V M_L_law 150 776 [(0, .retAddr 3), (1, .ref 0), (2, .ref 144), (3, zI i)] [zI x] 150 S1 Q
  refine V_aload_n (pc := 776) e_L_law_776 rfl (Or.inl ⟨_, rfl⟩) ?_
  refine V_aload_n (pc := 777) e_L_law_777 rfl (Or.inr (Or.inr ⟨_, rfl⟩)) ?_
  refine V_iload_n (pc := 778) e_L_law_778 rfl ?_
  refine V_iconst (pc := 779) e_L_law_779 ?_
  refine V_iadd (pc := 780) e_L_law_780 ?_
  refine V_scr2 (pc := 781) hs1 hL e_L_law_781 (by omega) (by omega) ?_
  refine V_callV (pc := 782) (b := 144) (As := [zI (xs (i + 1).toNat).toInt]) (rest := [zI x]) ca_9_113 e_L_law_782 (by decide) rfl (Nat.le_of_ble_eq_true rfl) (by decide) rfl (by decide) (Nat.le_refl _) hc1 (fun v S2 q => ?_)
  obtain ⟨rfl, h2⟩ := q
  show V M_L_law 150 785 [(0, .retAddr 3), (1, .ref 0), (2, .ref 144), (3, zI i)] [zI x, zI x] 150 S2 Q
  have ex : zI x = zI (Int32.ofInt x).toInt := (congrArg Value.int (zi_of _)).symm
  rw [ex]
  refine V_icmp_eq (pc := 785) e_L_law_785 (by decide) (zi_rg _) (zi_rg _) (fun _ => ?_) (fun z => absurd rfl z)
  exact k S2 h2
theorem l_enter {L : Nat} {xs : Nat → Int32} (hL : L ≤ 3072) {S : Sto} {n i : Int} {Q : Option Value → Sto → Prop} (hn : 0 ≤ n ∧ n ≤ 600) (h : LI (L, xs) S n) (hi : 0 ≤ i ∧ i + 6 ≤ (L : Int)) (k : ∀ S2 : Sto, LI (L, xs) S2 (n + 1) → V M_L_law 150 803 [(0, .retAddr 3), (1, .ref 0), (2, .ref 144), (3, zI i)] [] 150 S2 Q) : V M_L_law 150 790 [(0, .retAddr 3), (1, .ref 0), (2, .ref 144), (3, zI i)] [] 150 S Q := by
  have hs := LI_s h
  refine V_aload_n (pc := 790) e_L_law_790 rfl (Or.inl ⟨_, rfl⟩) ?_
  refine V_callV (pc := 791) (b := 0) (As := []) (rest := []) ca_9_114 e_L_law_791 (by decide) rfl (Nat.le_of_ble_eq_true rfl) (by decide) rfl (by decide) (Nat.le_refl _) (p_enter hn h) (fun v S1 q => ?_)
  obtain ⟨x, rfl, hs1, hc1⟩ := q
  show V M_L_law 150 794 [(0, .retAddr 3), (1, .ref 0), (2, .ref 144), (3, zI i)] [zI x] 150 S1 Q
  refine V_aload_n (pc := 794) e_L_law_794 rfl (Or.inl ⟨_, rfl⟩) ?_
  refine V_callV (pc := 795) (b := 144) (As := []) (rest := [zI x]) ca_9_117 e_L_law_795 (by decide) rfl (Nat.le_of_ble_eq_true rfl) (by decide) rfl (by decide) (Nat.le_refl _) hc1 (fun v S2 q => ?_)
  obtain ⟨rfl, h2⟩ := q
  show V M_L_law 150 798 [(0, .retAddr 3), (1, .ref 0), (2, .ref 144), (3, zI i)] [zI x, zI x] 150 S2 Q
  have ex : zI x = zI (Int32.ofInt x).toInt := (congrArg Value.int (zi_of _)).symm
  rw [ex]
  refine V_icmp_eq (pc := 798) e_L_law_798 (by decide) (zi_rg _) (zi_rg _) (fun _ => ?_) (fun z => absurd rfl z)
  exact k S2 h2
theorem L_L_law {L : Nat} {xs : Nat → Int32} (hL : L ≤ 3072) : ∀ (m n : Nat) (S : Sto), L ≤ 6 * (n + m) → n ≤ 513 → LI (L, xs) S (n : Int) → V M_L_law 150 18 [(0, .retAddr 3), (1, .ref 0), (2, .ref 144), (3, zI (6 * (n : Int)))] [] 150 S (fun v _ => v = some (zI 1)) := by
  intro m
  induction m with
  | zero =>
    intro n S hm hnn h
    have hs := LI_s h
    refine V_iload_n (pc := 18) e_L_law_18 rfl ?_
    refine V_aload_n (pc := 19) e_L_law_19 rfl (Or.inr (Or.inr ⟨_, rfl⟩)) ?_
    refine V_scl2 (pc := 20) hs e_L_law_20 ?_
    refine V_bipush (pc := 21) (by decide) e_L_law_21 ?_
    refine V_isub (pc := 23) e_L_law_23 ?_
    refine V_icmp_gt (pc := 24) e_L_law_24 (by decide) (by omega) (by omega) (fun _ => ?_) (fun z => absurd z (by omega))
    refine V_iconst (pc := 809) e_L_law_809 ?_
    exact V_ret (pc := 810) (v := some (zI 1)) ⟨e_L_law_810, _, rfl, by decide⟩ rfl
  | succ m ih =>
    intro n S hm hnn h
    have hs := LI_s h
    refine V_iload_n (pc := 18) e_L_law_18 rfl ?_
    refine V_aload_n (pc := 19) e_L_law_19 rfl (Or.inr (Or.inr ⟨_, rfl⟩)) ?_
    refine V_scl2 (pc := 20) hs e_L_law_20 ?_
    refine V_bipush (pc := 21) (by decide) e_L_law_21 ?_
    refine V_isub (pc := 23) e_L_law_23 ?_
    refine V_icmp_gt (pc := 24) e_L_law_24 (by decide) (by omega) (by omega) (fun _ => ?_) (fun h24 => ?_)
    · refine V_iconst (pc := 809) e_L_law_809 ?_
      exact V_ret (pc := 810) (v := some (zI 1)) ⟨e_L_law_810, _, rfl, by decide⟩ rfl
    · have go : ∀ S2 : Sto, LI (L, xs) S2 ((n : Int) + 1) → V M_L_law 150 803 [(0, .retAddr 3), (1, .ref 0), (2, .ref 144), (3, zI (6 * (n : Int)))] [] 150 S2 (fun v _ => v = some (zI 1)) := fun S2 h2 => by
        refine V_iinc (pc := 803) e_L_law_803 rfl (by decide) ?_
        refine V_goto (pc := 806) e_L_law_806 (by decide) ?_
        exact V_lq [(0, .retAddr 3), (1, .ref 0), (2, .ref 144), (3, zI (6 * ((n + 1 : Nat) : Int)))] ⟨⟨_, rfl, rfl⟩, ⟨_, rfl, rfl⟩, ⟨_, rfl, rfl⟩, ⟨_, rfl, congrArg (fun e : Int => zI e) (by omega)⟩, trivial⟩ (ih (n + 1) S2 (by omega) (by omega) (by rw [show ((n + 1 : Nat) : Int) = (n : Int) + 1 by omega]; exact h2))
      have hn : 0 ≤ (n : Int) ∧ (n : Int) ≤ 600 := by omega
      have hi : 0 ≤ 6 * (n : Int) ∧ 6 * (n : Int) + 6 ≤ (L : Int) := by omega
      refine V_aload_n (pc := 27) e_L_law_27 rfl (Or.inr (Or.inr ⟨_, rfl⟩)) ?_
      refine V_iload_n (pc := 28) e_L_law_28 rfl ?_
      refine V_scr2 (pc := 29) hs hL e_L_law_29 (by omega) (by omega) ?_
      refine V_bipush (pc := 30) (by decide) e_L_law_30 ?_
      refine V_iand (pc := 32) e_L_law_32 ?_
      refine V_table (pc := 33) e_L_law_33 (by decide) (by decide) (by decide) (by unfold ba; exact zi_rg _) (fun _ => ?_) (fun j o hj ho => ?_)
      · exact go S (LI_up h)
      · match j, ho with
        | 0, ho =>
          obtain rfl := Option.some.inj ho
          exact l_fill hL hn h hi go
        | 1, ho =>
          obtain rfl := Option.some.inj ho
          exact l_load hL hn h hi go
        | 2, ho =>
          obtain rfl := Option.some.inj ho
          exact l_tray hL hn h hi go
        | 3, ho =>
          obtain rfl := Option.some.inj ho
          exact l_staples hL hn h hi go
        | 4, ho =>
          obtain rfl := Option.some.inj ho
          exact l_emptyBin hL hn h hi go
        | 5, ho =>
          obtain rfl := Option.some.inj ho
          exact l_set hL hn h hi go
        | 6, ho =>
          obtain rfl := Option.some.inj ho
          exact l_job hL hn h hi go
        | 7, ho =>
          obtain rfl := Option.some.inj ho
          exact l_refusal hL hn h hi go
        | 8, ho =>
          obtain rfl := Option.some.inj ho
          exact l_hold hL hn h hi go
        | 9, ho =>
          obtain rfl := Option.some.inj ho
          exact l_cancel hL hn h hi go
        | 10, ho =>
          obtain rfl := Option.some.inj ho
          exact l_priority hL hn h hi go
        | 11, ho =>
          obtain rfl := Option.some.inj ho
          exact l_jobInfo hL hn h hi go
        | 12, ho =>
          obtain rfl := Option.some.inj ho
          exact l_queued hL hn h hi go
        | 13, ho =>
          obtain rfl := Option.some.inj ho
          exact l_run hL hn h hi go
        | 14, ho =>
          obtain rfl := Option.some.inj ho
          exact l_stop hL hn h hi go
        | 15, ho =>
          obtain rfl := Option.some.inj ho
          exact l_count hL hn h hi go
        | 16, ho =>
          obtain rfl := Option.some.inj ho
          exact l_account hL hn h hi go
        | 17, ho =>
          obtain rfl := Option.some.inj ho
          exact l_paper hL hn h hi go
        | 18, ho =>
          obtain rfl := Option.some.inj ho
          exact l_lacking hL hn h hi go
        | 19, ho =>
          obtain rfl := Option.some.inj ho
          exact l_ticksTo hL hn h hi go
        | 20, ho =>
          obtain rfl := Option.some.inj ho
          exact l_undo hL hn h hi go
        | 21, ho =>
          obtain rfl := Option.some.inj ho
          exact l_type hL hn h hi go
        | 22, ho =>
          obtain rfl := Option.some.inj ho
          exact l_clearText hL hn h hi go
        | 23, ho =>
          obtain rfl := Option.some.inj ho
          exact l_fault hL hn h hi go
        | 24, ho =>
          obtain rfl := Option.some.inj ho
          exact l_enter hL hn h hi go
        | j + 25, ho => exact absurd ho (by simp)
