/-! the law's loop -/
theorem iJ_seq {O5 : (Nat → Int32) → (Nat → Nat → Int32) → Prop} {T5 : (Nat → Int32) → (Nat → Nat → Int32) → Int32 × nr_S} {O6 : Nat → (Nat → Int32) → (Nat → Nat → Int32) → Prop} {T6 : Nat → (Nat → Int32) → (Nat → Nat → Int32) → Int32 × nr_S} (hJ : iJ O5 T5 O6 T6) {z : Nat → Int32} {g : Nat → Nat → Int32} (h : iv z g z g) : ∃ x z' g' n z2 g2, nr_V (O5 z g) (T5 z g) (x, z', g') ∧ nr_V (O6 n z' g') (T6 n z' g') (x, z2, g2) ∧ iv z2 g2 z2 g2 := by
  obtain ⟨n, x, z', g', ζ', γ', v5, v6, -, c, -⟩ := hJ z g z g h
  have h1 : iv z g z' g' := iv_cong h (fun _ _ _ => rfl) (fun _ _ => rfl) (fun i hi => c.1 i (by omega)) (fun k hk => c.2 k (by omega))
  obtain ⟨n2, x2, z2, g2, ζ2, γ2, w5, w6, hv, c2, m2⟩ := hJ z g z' g' h1
  have e := v5.2.symm.trans w5.2
  cases e
  exact ⟨x, z', g', 0 + n2, ζ2, γ2, v5, w6 0, iv_cong hv (fun i hi _ => m2.1 i (by omega)) (fun k hk => m2.2 k (by omega)) (fun _ _ => rfl) (fun _ _ => rfl)⟩
theorem lw_eq {T : Int32 × nr_S} {r x : Int32} {u : nr_S} {z : Nat → Int32} {g : Nat → Nat → Int32} (e : T = (r, u)) (v : T = (x, z, g)) : r = x ∧ u = (z, g) := Prod.mk.inj (e.symm.trans v)
theorem lw_eql {T : Int64 × nr_S} {r x : Int64} {u : nr_S} {z : Nat → Int32} {g : Nat → Nat → Int32} (e : T = (r, u)) (v : T = (x, z, g)) : r = x ∧ u = (z, g) := Prod.mk.inj (e.symm.trans v)
def lw_lv (ρ : Nat → Nat) (b i : Nat) : List (Nat × Value) := [(0, .ref b), (1, .ref (ρ 0)), (2, .ref (ρ 20)), (3, .int (nI i))]
def lw_C (Γ : nr_M) (ρ : Nat → Nat) (X : nr_CX) (b L : Nat) (xs : Nat → Int32) (Q : State → Prop) : Prop := nr_Cx Γ ρ X yL_law code 4 ret 840 ∧ va_X b L xs X.2.2.2.1 X.2.2.2.1.heap ∧ b < X.2.2.2.1.heap.size ∧ ¬ nr_A ρ b ∧ L ≤ 2048 ∧ ∀ lv z g, nr_G Γ ρ X 4 Q 600 lv [.int 1] z g
section
variable {Γ : nr_M} {ρ : Nat → Nat} {X : nr_CX} {b L : Nat} {xs : Nat → Int32} {Q : State → Prop} {pc i : Nat} {lv : List (Nat × Value)} {st : List Value} {z : Nat → Int32} {g : Nat → Nat → Int32}
theorem L_ld (C : lw_C Γ ρ X b L xs Q) {k : Nat} (hd : decode code pc = .ok (.iaload, 1)) (hk : k < L) (kk : nr_G Γ ρ X 4 Q (pc + 1) lv (.int (xs k) :: st) z g) : nr_G Γ ρ X 4 Q pc lv (.int (nI k) :: .ref b :: st) z g := by
  obtain ⟨hX, h1, h2, h3, h4, -⟩ := C
  intro H locs ls hP hS hl
  have kk' := kk H locs ls hP hS hl
  refine va_sld hX.1 hX.2.1 h1 h2 h3 hS (vp_in_nI hk (by omega)) hd ?_
  rw [nI_clamp (by omega)]
  exact kk'
theorem L_len (C : lw_C Γ ρ X b L xs Q) (hd : decode code pc = .ok (.arraylength, 1)) (kk : nr_G Γ ρ X 4 Q (pc + 1) lv (.int (nI L) :: st) z g) : nr_G Γ ρ X 4 Q pc lv (.ref b :: st) z g := by
  obtain ⟨hX, h1, h2, h3, h4, -⟩ := C
  intro H locs ls hP hS hl
  exact va_slen hX.1 hX.2.1 h1 h2 h3 hS hd (kk H locs ls hP hS hl)
theorem L_arg (C : lw_C Γ ρ X b L xs Q) (hi : i + 4 ≤ L) {k : Nat} {kz : Int} (hk : k < 4) (hkz : Int32.ofInt kz = nI k) (d0 : decode code pc = .ok (.aload_n 0, 1)) (d1 : decode code (pc + 1) = .ok (.iload_n 3, 1)) (d2 : decode code (pc + 1 + 1) = .ok (.iconst kz, 1)) (d3 : decode code (pc + 1 + 1 + 1) = .ok (.iadd, 1)) (d4 : decode code (pc + 1 + 1 + 1 + 1) = .ok (.iaload, 1)) (kk : nr_G Γ ρ X 4 Q (pc + 1 + 1 + 1 + 1 + 1) (lw_lv ρ b i) (.int (xs (i + k)) :: st) z g) : nr_G Γ ρ X 4 Q pc (lw_lv ρ b i) st z g := by
  have hX := C.1
  refine G_aload_n hX d0 rfl rfl ?_
  refine G_iload_n hX d1 rfl rfl ?_
  refine G_iconst (v := nI k) hX d2 hkz rfl ?_
  refine G_iadd hX d3 rfl ?_
  rw [nI_add]
  exact L_ld C d4 (by omega) kk

set_option maxHeartbeats 4000000 in
set_option maxRecDepth 100000 in
theorem law_sets (C : lw_C Γ ρ X b L xs Q) (hi : i + 4 ≤ L) (h : iv z g z g) (k593 : ∀ z2 g2, iv z2 g2 z2 g2 → nr_G Γ ρ X 4 Q 593 (lw_lv ρ b i) [] z2 g2) : nr_G Γ ρ X 4 Q 136 (lw_lv ρ b i) [] z g := by
  have hX := C.1
  obtain ⟨x, z', g', n, z2, g2, v5, v6, h2⟩ := iJ_seq (iJ_sets (xs (i + 1)) (xs (i + 2)) (xs (i + 3))) h
  refine G_aload_n hX dL_136 rfl rfl ?_
  refine L_arg C hi (k := 1) (by decide) (by decide) dL_137 dL_138 dL_139 dL_140 dL_141 ?_
  refine L_arg C hi (k := 2) (by decide) (by decide) dL_142 dL_143 dL_144 dL_145 dL_146 ?_
  refine L_arg C hi (k := 3) (by decide) (by decide) dL_147 dL_148 dL_149 dL_150 dL_151 ?_
  refine G_cVi hX dL_152 lv_RL_13 (sp_X5_sets Γ ρ 0 (xs (i + 1)) (xs (i + 2)) (xs (i + 3)) z g v5.1) (by decide) nr_is_0 rfl rfl (Nat.le_of_ble_eq_true rfl) rfl (fun r u e => ?_)
  obtain ⟨rfl, rfl⟩ := lw_eq e v5.2
  dsimp only
  refine G_aload_n hX dL_155 rfl rfl ?_
  refine L_arg C hi (k := 1) (by decide) (by decide) dL_156 dL_157 dL_158 dL_159 dL_160 ?_
  refine L_arg C hi (k := 2) (by decide) (by decide) dL_161 dL_162 dL_163 dL_164 dL_165 ?_
  refine L_arg C hi (k := 3) (by decide) (by decide) dL_166 dL_167 dL_168 dL_169 dL_170 ?_
  refine G_cVi hX dL_171 lv_RL_17 (sp_X6_sets Γ ρ 0 (xs (i + 1)) (xs (i + 2)) (xs (i + 3)) z' g' v6.1) (by decide) nr_is_20 rfl rfl (Nat.le_of_ble_eq_true rfl) rfl (fun r2 u e2 => ?_)
  obtain ⟨rfl, rfl⟩ := lw_eq e2 v6.2
  dsimp only
  exact G_icmp_eq (tg := 593) hX dL_174 (by decide) rfl (fun _ => k593 _ _ h2) (fun q => absurd rfl q)
set_option maxHeartbeats 4000000 in
set_option maxRecDepth 100000 in
theorem law_of (C : lw_C Γ ρ X b L xs Q) (hi : i + 4 ≤ L) (h : iv z g z g) (k593 : ∀ z2 g2, iv z2 g2 z2 g2 → nr_G Γ ρ X 4 Q 593 (lw_lv ρ b i) [] z2 g2) : nr_G Γ ρ X 4 Q 179 (lw_lv ρ b i) [] z g := by
  have hX := C.1
  obtain ⟨x, z', g', n, z2, g2, v5, v6, h2⟩ := iJ_seq (iJ_of (xs (i + 1)) (xs (i + 2))) h
  refine G_aload_n hX dL_179 rfl rfl ?_
  refine L_arg C hi (k := 1) (by decide) (by decide) dL_180 dL_181 dL_182 dL_183 dL_184 ?_
  refine L_arg C hi (k := 2) (by decide) (by decide) dL_185 dL_186 dL_187 dL_188 dL_189 ?_
  refine G_cVi hX dL_190 lv_RL_18 (sp_X5_of Γ ρ 0 (xs (i + 1)) (xs (i + 2)) z g v5.1) (by decide) nr_is_0 rfl rfl (Nat.le_of_ble_eq_true rfl) rfl (fun r u e => ?_)
  obtain ⟨rfl, rfl⟩ := lw_eq e v5.2
  dsimp only
  refine G_aload_n hX dL_193 rfl rfl ?_
  refine L_arg C hi (k := 1) (by decide) (by decide) dL_194 dL_195 dL_196 dL_197 dL_198 ?_
  refine L_arg C hi (k := 2) (by decide) (by decide) dL_199 dL_200 dL_201 dL_202 dL_203 ?_
  refine G_cVi hX dL_204 lv_RL_22 (sp_X6_of Γ ρ 0 (xs (i + 1)) (xs (i + 2)) z' g' v6.1) (by decide) nr_is_20 rfl rfl (Nat.le_of_ble_eq_true rfl) rfl (fun r2 u e2 => ?_)
  obtain ⟨rfl, rfl⟩ := lw_eq e2 v6.2
  dsimp only
  exact G_icmp_eq (tg := 593) hX dL_207 (by decide) rfl (fun _ => k593 _ _ h2) (fun q => absurd rfl q)
set_option maxHeartbeats 4000000 in
set_option maxRecDepth 100000 in
theorem law_keys (C : lw_C Γ ρ X b L xs Q) (hi : i + 4 ≤ L) (h : iv z g z g) (k593 : ∀ z2 g2, iv z2 g2 z2 g2 → nr_G Γ ρ X 4 Q 593 (lw_lv ρ b i) [] z2 g2) : nr_G Γ ρ X 4 Q 212 (lw_lv ρ b i) [] z g := by
  have hX := C.1
  obtain ⟨x, z', g', n, z2, g2, v5, v6, h2⟩ := iJ_seq (iJ_keys (xs (i + 1))) h
  refine G_aload_n hX dL_212 rfl rfl ?_
  refine L_arg C hi (k := 1) (by decide) (by decide) dL_213 dL_214 dL_215 dL_216 dL_217 ?_
  refine G_cVi hX dL_218 lv_RL_23 (sp_X5_keys Γ ρ 0 (xs (i + 1)) z g v5.1) (by decide) nr_is_0 rfl rfl (Nat.le_of_ble_eq_true rfl) rfl (fun r u e => ?_)
  obtain ⟨rfl, rfl⟩ := lw_eq e v5.2
  dsimp only
  refine G_aload_n hX dL_221 rfl rfl ?_
  refine L_arg C hi (k := 1) (by decide) (by decide) dL_222 dL_223 dL_224 dL_225 dL_226 ?_
  refine G_cVi hX dL_227 lv_RL_27 (sp_X6_keys Γ ρ 0 (xs (i + 1)) z' g' v6.1) (by decide) nr_is_20 rfl rfl (Nat.le_of_ble_eq_true rfl) rfl (fun r2 u e2 => ?_)
  obtain ⟨rfl, rfl⟩ := lw_eq e2 v6.2
  dsimp only
  exact G_icmp_eq (tg := 593) hX dL_230 (by decide) rfl (fun _ => k593 _ _ h2) (fun q => absurd rfl q)
set_option maxHeartbeats 4000000 in
set_option maxRecDepth 100000 in
theorem law_dusk (C : lw_C Γ ρ X b L xs Q) (hi : i + 4 ≤ L) (h : iv z g z g) (k593 : ∀ z2 g2, iv z2 g2 z2 g2 → nr_G Γ ρ X 4 Q 593 (lw_lv ρ b i) [] z2 g2) : nr_G Γ ρ X 4 Q 235 (lw_lv ρ b i) [] z g := by
  have hX := C.1
  obtain ⟨x, z', g', n, z2, g2, v5, v6, h2⟩ := iJ_seq (iJ_dusk) h
  refine G_aload_n hX dL_235 rfl rfl ?_
  refine G_cVi hX dL_236 lv_RL_28 (sp_X5_dusk Γ ρ 0  z g v5.1) (by decide) nr_is_0 rfl rfl (Nat.le_of_ble_eq_true rfl) rfl (fun r u e => ?_)
  obtain ⟨rfl, rfl⟩ := lw_eq e v5.2
  dsimp only
  refine G_aload_n hX dL_239 rfl rfl ?_
  refine G_cVi hX dL_240 lv_RL_32 (sp_X6_dusk Γ ρ 0  z' g' v6.1) (by decide) nr_is_20 rfl rfl (Nat.le_of_ble_eq_true rfl) rfl (fun r2 u e2 => ?_)
  obtain ⟨rfl, rfl⟩ := lw_eq e2 v6.2
  dsimp only
  exact G_icmp_eq (tg := 593) hX dL_243 (by decide) rfl (fun _ => k593 _ _ h2) (fun q => absurd rfl q)
set_option maxHeartbeats 4000000 in
set_option maxRecDepth 100000 in
theorem law_type (C : lw_C Γ ρ X b L xs Q) (hi : i + 4 ≤ L) (h : iv z g z g) (k593 : ∀ z2 g2, iv z2 g2 z2 g2 → nr_G Γ ρ X 4 Q 593 (lw_lv ρ b i) [] z2 g2) : nr_G Γ ρ X 4 Q 248 (lw_lv ρ b i) [] z g := by
  have hX := C.1
  obtain ⟨x, z', g', n, z2, g2, v5, v6, h2⟩ := iJ_seq (iJ_type (xs (i + 1))) h
  refine G_aload_n hX dL_248 rfl rfl ?_
  refine L_arg C hi (k := 1) (by decide) (by decide) dL_249 dL_250 dL_251 dL_252 dL_253 ?_
  refine G_cVi hX dL_254 lv_RL_33 (sp_X5_type Γ ρ 0 (xs (i + 1)) z g v5.1) (by decide) nr_is_0 rfl rfl (Nat.le_of_ble_eq_true rfl) rfl (fun r u e => ?_)
  obtain ⟨rfl, rfl⟩ := lw_eq e v5.2
  dsimp only
  refine G_aload_n hX dL_257 rfl rfl ?_
  refine L_arg C hi (k := 1) (by decide) (by decide) dL_258 dL_259 dL_260 dL_261 dL_262 ?_
  refine G_cVi hX dL_263 lv_RL_36 (sp_X6_type Γ ρ 0 (xs (i + 1)) z' g' v6.1) (by decide) nr_is_20 rfl rfl (Nat.le_of_ble_eq_true rfl) rfl (fun r2 u e2 => ?_)
  obtain ⟨rfl, rfl⟩ := lw_eq e2 v6.2
  dsimp only
  exact G_icmp_eq (tg := 593) hX dL_266 (by decide) rfl (fun _ => k593 _ _ h2) (fun q => absurd rfl q)
set_option maxHeartbeats 4000000 in
set_option maxRecDepth 100000 in
theorem law_clear (C : lw_C Γ ρ X b L xs Q) (hi : i + 4 ≤ L) (h : iv z g z g) (k593 : ∀ z2 g2, iv z2 g2 z2 g2 → nr_G Γ ρ X 4 Q 593 (lw_lv ρ b i) [] z2 g2) : nr_G Γ ρ X 4 Q 271 (lw_lv ρ b i) [] z g := by
  have hX := C.1
  obtain ⟨x, z', g', n, z2, g2, v5, v6, h2⟩ := iJ_seq (iJ_clear) h
  refine G_aload_n hX dL_271 rfl rfl ?_
  refine G_cVi hX dL_272 lv_RL_37 (sp_X5_clear Γ ρ 0  z g) (by decide) nr_is_0 rfl rfl (Nat.le_of_ble_eq_true rfl) rfl (fun r u e => ?_)
  obtain ⟨rfl, rfl⟩ := lw_eq e v5.2
  dsimp only
  refine G_aload_n hX dL_275 rfl rfl ?_
  refine G_cVi hX dL_276 lv_RL_40 (sp_X6_clear Γ ρ 0  z' g') (by decide) nr_is_20 rfl rfl (Nat.le_of_ble_eq_true rfl) rfl (fun r2 u e2 => ?_)
  obtain ⟨rfl, rfl⟩ := lw_eq e2 v6.2
  dsimp only
  exact G_icmp_eq (tg := 593) hX dL_279 (by decide) rfl (fun _ => k593 _ _ h2) (fun q => absurd rfl q)
set_option maxHeartbeats 4000000 in
set_option maxRecDepth 100000 in
theorem law_goes (C : lw_C Γ ρ X b L xs Q) (hi : i + 4 ≤ L) (h : iv z g z g) (k593 : ∀ z2 g2, iv z2 g2 z2 g2 → nr_G Γ ρ X 4 Q 593 (lw_lv ρ b i) [] z2 g2) : nr_G Γ ρ X 4 Q 284 (lw_lv ρ b i) [] z g := by
  have hX := C.1
  obtain ⟨x, z', g', n, z2, g2, v5, v6, h2⟩ := iJ_seq (iJ_goes) h
  refine G_aload_n hX dL_284 rfl rfl ?_
  refine G_cVi hX dL_285 lv_RL_41 (sp_X5_goes Γ ρ 0 9  z g v5.1) (by decide) nr_is_0 rfl rfl (Nat.le_of_ble_eq_true rfl) rfl (fun r u e => ?_)
  obtain ⟨rfl, rfl⟩ := lw_eq e v5.2
  dsimp only
  refine G_aload_n hX dL_288 rfl rfl ?_
  refine G_cVi hX dL_289 lv_RL_44 (sp_X6_goes Γ ρ 0 n  z' g' v6.1) (by decide) nr_is_20 rfl rfl (Nat.le_of_ble_eq_true rfl) rfl (fun r2 u e2 => ?_)
  obtain ⟨rfl, rfl⟩ := lw_eq e2 v6.2
  dsimp only
  exact G_icmp_eq (tg := 593) hX dL_292 (by decide) rfl (fun _ => k593 _ _ h2) (fun q => absurd rfl q)
set_option maxHeartbeats 4000000 in
set_option maxRecDepth 100000 in
theorem law_tries (C : lw_C Γ ρ X b L xs Q) (hi : i + 4 ≤ L) (h : iv z g z g) (k593 : ∀ z2 g2, iv z2 g2 z2 g2 → nr_G Γ ρ X 4 Q 593 (lw_lv ρ b i) [] z2 g2) : nr_G Γ ρ X 4 Q 297 (lw_lv ρ b i) [] z g := by
  have hX := C.1
  obtain ⟨x, z', g', n, z2, g2, v5, v6, h2⟩ := iJ_seq (iJ_tries) h
  refine G_aload_n hX dL_297 rfl rfl ?_
  refine G_cVi hX dL_298 lv_RL_45 (sp_X5_tries Γ ρ 0 9  z g v5.1) (by decide) nr_is_0 rfl rfl (Nat.le_of_ble_eq_true rfl) rfl (fun r u e => ?_)
  obtain ⟨rfl, rfl⟩ := lw_eq e v5.2
  dsimp only
  refine G_aload_n hX dL_301 rfl rfl ?_
  refine G_cVi hX dL_302 lv_RL_48 (sp_X6_tries Γ ρ 0 n  z' g' v6.1) (by decide) nr_is_20 rfl rfl (Nat.le_of_ble_eq_true rfl) rfl (fun r2 u e2 => ?_)
  obtain ⟨rfl, rfl⟩ := lw_eq e2 v6.2
  dsimp only
  exact G_icmp_eq (tg := 593) hX dL_305 (by decide) rfl (fun _ => k593 _ _ h2) (fun q => absurd rfl q)
set_option maxHeartbeats 4000000 in
set_option maxRecDepth 100000 in
theorem law_often (C : lw_C Γ ρ X b L xs Q) (hi : i + 4 ≤ L) (h : iv z g z g) (k593 : ∀ z2 g2, iv z2 g2 z2 g2 → nr_G Γ ρ X 4 Q 593 (lw_lv ρ b i) [] z2 g2) : nr_G Γ ρ X 4 Q 310 (lw_lv ρ b i) [] z g := by
  have hX := C.1
  obtain ⟨x, z', g', n, z2, g2, v5, v6, h2⟩ := iJ_seq (iJ_often (xs (i + 1))) h
  refine G_aload_n hX dL_310 rfl rfl ?_
  refine L_arg C hi (k := 1) (by decide) (by decide) dL_311 dL_312 dL_313 dL_314 dL_315 ?_
  refine G_cVi hX dL_316 lv_RL_49 (sp_X5_often Γ ρ 0 9 (xs (i + 1)) z g v5.1) (by decide) nr_is_0 rfl rfl (Nat.le_of_ble_eq_true rfl) rfl (fun r u e => ?_)
  obtain ⟨rfl, rfl⟩ := lw_eq e v5.2
  dsimp only
  refine G_aload_n hX dL_319 rfl rfl ?_
  refine L_arg C hi (k := 1) (by decide) (by decide) dL_320 dL_321 dL_322 dL_323 dL_324 ?_
  refine G_cVi hX dL_325 lv_RL_52 (sp_X6_often Γ ρ 0 n (xs (i + 1)) z' g' v6.1) (by decide) nr_is_20 rfl rfl (Nat.le_of_ble_eq_true rfl) rfl (fun r2 u e2 => ?_)
  obtain ⟨rfl, rfl⟩ := lw_eq e2 v6.2
  dsimp only
  exact G_icmp_eq (tg := 593) hX dL_328 (by decide) rfl (fun _ => k593 _ _ h2) (fun q => absurd rfl q)
set_option maxHeartbeats 4000000 in
set_option maxRecDepth 100000 in
theorem law_was (C : lw_C Γ ρ X b L xs Q) (hi : i + 4 ≤ L) (h : iv z g z g) (k593 : ∀ z2 g2, iv z2 g2 z2 g2 → nr_G Γ ρ X 4 Q 593 (lw_lv ρ b i) [] z2 g2) : nr_G Γ ρ X 4 Q 333 (lw_lv ρ b i) [] z g := by
  have hX := C.1
  obtain ⟨x, z', g', n, z2, g2, v5, v6, h2⟩ := iJ_seq (iJ_was (xs (i + 1))) h
  refine G_aload_n hX dL_333 rfl rfl ?_
  refine L_arg C hi (k := 1) (by decide) (by decide) dL_334 dL_335 dL_336 dL_337 dL_338 ?_
  refine G_cVi hX dL_339 lv_RL_53 (sp_X5_was Γ ρ 0 (xs (i + 1)) z g v5.1) (by decide) nr_is_0 rfl rfl (Nat.le_of_ble_eq_true rfl) rfl (fun r u e => ?_)
  obtain ⟨rfl, rfl⟩ := lw_eq e v5.2
  dsimp only
  refine G_aload_n hX dL_342 rfl rfl ?_
  refine L_arg C hi (k := 1) (by decide) (by decide) dL_343 dL_344 dL_345 dL_346 dL_347 ?_
  refine G_cVi hX dL_348 lv_RL_56 (sp_X6_was Γ ρ 0 (xs (i + 1)) z' g' v6.1) (by decide) nr_is_20 rfl rfl (Nat.le_of_ble_eq_true rfl) rfl (fun r2 u e2 => ?_)
  obtain ⟨rfl, rfl⟩ := lw_eq e2 v6.2
  dsimp only
  exact G_icmp_eq (tg := 593) hX dL_351 (by decide) rfl (fun _ => k593 _ _ h2) (fun q => absurd rfl q)
set_option maxHeartbeats 4000000 in
set_option maxRecDepth 100000 in
theorem law_root (C : lw_C Γ ρ X b L xs Q) (hi : i + 4 ≤ L) (h : iv z g z g) (k593 : ∀ z2 g2, iv z2 g2 z2 g2 → nr_G Γ ρ X 4 Q 593 (lw_lv ρ b i) [] z2 g2) : nr_G Γ ρ X 4 Q 356 (lw_lv ρ b i) [] z g := by
  have hX := C.1
  refine G_aload_n hX dL_356 rfl rfl ?_
  refine G_fVi hX dL_357 lv_RL_57 (sp_X5_root Γ ρ 0 z g) (by decide) nr_is_0 rfl rfl (Nat.le_of_ble_eq_true rfl) rfl ?_
  refine G_aload_n hX dL_360 rfl rfl ?_
  refine G_fVi hX dL_361 lv_RL_60 (sp_X6_root Γ ρ 0 z g) (by decide) nr_is_20 rfl rfl (Nat.le_of_ble_eq_true rfl) rfl ?_
  exact G_icmp_eq (tg := 593) hX dL_364 (by decide) rfl (fun _ => k593 _ _ h) (fun q => absurd (iJ_root h) q)
set_option maxHeartbeats 4000000 in
set_option maxRecDepth 100000 in
theorem law_diary (C : lw_C Γ ρ X b L xs Q) (hi : i + 4 ≤ L) (h : iv z g z g) (k593 : ∀ z2 g2, iv z2 g2 z2 g2 → nr_G Γ ρ X 4 Q 593 (lw_lv ρ b i) [] z2 g2) : nr_G Γ ρ X 4 Q 369 (lw_lv ρ b i) [] z g := by
  have hX := C.1
  obtain ⟨x, z', g', n, z2, g2, v5, v6, h2⟩ := iJ_seq (iJ_diary (xs (i + 1))) h
  refine G_aload_n hX dL_369 rfl rfl ?_
  refine L_arg C hi (k := 1) (by decide) (by decide) dL_370 dL_371 dL_372 dL_373 dL_374 ?_
  refine G_cVi hX dL_375 lv_RL_61 (sp_X5_diary Γ ρ 0 (xs (i + 1)) z g v5.1) (by decide) nr_is_0 rfl rfl (Nat.le_of_ble_eq_true rfl) rfl (fun r u e => ?_)
  obtain ⟨rfl, rfl⟩ := lw_eq e v5.2
  dsimp only
  refine G_aload_n hX dL_378 rfl rfl ?_
  refine L_arg C hi (k := 1) (by decide) (by decide) dL_379 dL_380 dL_381 dL_382 dL_383 ?_
  refine G_cVi hX dL_384 lv_RL_64 (sp_X6_diary Γ ρ 0 (xs (i + 1)) z' g' v6.1) (by decide) nr_is_20 rfl rfl (Nat.le_of_ble_eq_true rfl) rfl (fun r2 u e2 => ?_)
  obtain ⟨rfl, rfl⟩ := lw_eq e2 v6.2
  dsimp only
  exact G_icmp_eq (tg := 593) hX dL_387 (by decide) rfl (fun _ => k593 _ _ h2) (fun q => absurd rfl q)
set_option maxHeartbeats 4000000 in
set_option maxRecDepth 100000 in
theorem law_open (C : lw_C Γ ρ X b L xs Q) (hi : i + 4 ≤ L) (h : iv z g z g) (k593 : ∀ z2 g2, iv z2 g2 z2 g2 → nr_G Γ ρ X 4 Q 593 (lw_lv ρ b i) [] z2 g2) : nr_G Γ ρ X 4 Q 392 (lw_lv ρ b i) [] z g := by
  have hX := C.1
  refine G_aload_n hX dL_392 rfl rfl ?_
  refine G_fVi hX dL_393 lv_RL_65 (sp_X5_open Γ ρ 0 z g) (by decide) nr_is_0 rfl rfl (Nat.le_of_ble_eq_true rfl) rfl ?_
  refine G_aload_n hX dL_396 rfl rfl ?_
  refine G_fVi hX dL_397 lv_RL_68 (sp_X6_open Γ ρ 0 z g) (by decide) nr_is_20 rfl rfl (Nat.le_of_ble_eq_true rfl) rfl ?_
  exact G_icmp_eq (tg := 593) hX dL_400 (by decide) rfl (fun _ => k593 _ _ h) (fun q => absurd (iJ_open h) q)
set_option maxHeartbeats 4000000 in
set_option maxRecDepth 100000 in
theorem law_fewest (C : lw_C Γ ρ X b L xs Q) (hi : i + 4 ≤ L) (h : iv z g z g) (k593 : ∀ z2 g2, iv z2 g2 z2 g2 → nr_G Γ ρ X 4 Q 593 (lw_lv ρ b i) [] z2 g2) : nr_G Γ ρ X 4 Q 405 (lw_lv ρ b i) [] z g := by
  have hX := C.1
  obtain ⟨x, z', g', n, z2, g2, v5, v6, h2⟩ := iJ_seq (iJ_fewest) h
  refine G_aload_n hX dL_405 rfl rfl ?_
  refine G_cVi hX dL_406 lv_RL_69 (sp_X5_fewest Γ ρ 0 9  z g v5.1) (by decide) nr_is_0 rfl rfl (Nat.le_of_ble_eq_true rfl) rfl (fun r u e => ?_)
  obtain ⟨rfl, rfl⟩ := lw_eq e v5.2
  dsimp only
  refine G_aload_n hX dL_409 rfl rfl ?_
  refine G_cVi hX dL_410 lv_RL_72 (sp_X6_fewest Γ ρ 0 n  z' g' v6.1) (by decide) nr_is_20 rfl rfl (Nat.le_of_ble_eq_true rfl) rfl (fun r2 u e2 => ?_)
  obtain ⟨rfl, rfl⟩ := lw_eq e2 v6.2
  dsimp only
  exact G_icmp_eq (tg := 593) hX dL_413 (by decide) rfl (fun _ => k593 _ _ h2) (fun q => absurd rfl q)
set_option maxHeartbeats 4000000 in
set_option maxRecDepth 100000 in
theorem law_were (C : lw_C Γ ρ X b L xs Q) (hi : i + 4 ≤ L) (h : iv z g z g) (k593 : ∀ z2 g2, iv z2 g2 z2 g2 → nr_G Γ ρ X 4 Q 593 (lw_lv ρ b i) [] z2 g2) : nr_G Γ ρ X 4 Q 418 (lw_lv ρ b i) [] z g := by
  have hX := C.1
  obtain ⟨x, z', g', n, z2, g2, v5, v6, h2⟩ := iJ_seq (iJ_were (xs (i + 1)) (xs (i + 2))) h
  refine G_aload_n hX dL_418 rfl rfl ?_
  refine L_arg C hi (k := 1) (by decide) (by decide) dL_419 dL_420 dL_421 dL_422 dL_423 ?_
  refine L_arg C hi (k := 2) (by decide) (by decide) dL_424 dL_425 dL_426 dL_427 dL_428 ?_
  refine G_cVi hX dL_429 lv_RL_73 (sp_X5_were Γ ρ 0 9 (xs (i + 1)) (xs (i + 2)) z g v5.1) (by decide) nr_is_0 rfl rfl (Nat.le_of_ble_eq_true rfl) rfl (fun r u e => ?_)
  obtain ⟨rfl, rfl⟩ := lw_eq e v5.2
  dsimp only
  refine G_aload_n hX dL_432 rfl rfl ?_
  refine L_arg C hi (k := 1) (by decide) (by decide) dL_433 dL_434 dL_435 dL_436 dL_437 ?_
  refine L_arg C hi (k := 2) (by decide) (by decide) dL_438 dL_439 dL_440 dL_441 dL_442 ?_
  refine G_cVi hX dL_443 lv_RL_76 (sp_X6_were Γ ρ 0 n (xs (i + 1)) (xs (i + 2)) z' g' v6.1) (by decide) nr_is_20 rfl rfl (Nat.le_of_ble_eq_true rfl) rfl (fun r2 u e2 => ?_)
  obtain ⟨rfl, rfl⟩ := lw_eq e2 v6.2
  dsimp only
  exact G_icmp_eq (tg := 593) hX dL_446 (by decide) rfl (fun _ => k593 _ _ h2) (fun q => absurd rfl q)
set_option maxHeartbeats 4000000 in
set_option maxRecDepth 100000 in
theorem law_cures (C : lw_C Γ ρ X b L xs Q) (hi : i + 4 ≤ L) (h : iv z g z g) (k593 : ∀ z2 g2, iv z2 g2 z2 g2 → nr_G Γ ρ X 4 Q 593 (lw_lv ρ b i) [] z2 g2) : nr_G Γ ρ X 4 Q 451 (lw_lv ρ b i) [] z g := by
  have hX := C.1
  obtain ⟨x, z', g', n, z2, g2, v5, v6, h2⟩ := iJ_seq (iJ_cures (xs (i + 1))) h
  refine G_aload_n hX dL_451 rfl rfl ?_
  refine L_arg C hi (k := 1) (by decide) (by decide) dL_452 dL_453 dL_454 dL_455 dL_456 ?_
  refine G_cVi hX dL_457 lv_RL_77 (sp_X5_cures Γ ρ 0 9 (xs (i + 1)) z g v5.1) (by decide) nr_is_0 rfl rfl (Nat.le_of_ble_eq_true rfl) rfl (fun r u e => ?_)
  obtain ⟨rfl, rfl⟩ := lw_eq e v5.2
  dsimp only
  refine G_aload_n hX dL_460 rfl rfl ?_
  refine L_arg C hi (k := 1) (by decide) (by decide) dL_461 dL_462 dL_463 dL_464 dL_465 ?_
  refine G_cVi hX dL_466 lv_RL_80 (sp_X6_cures Γ ρ 0 n (xs (i + 1)) z' g' v6.1) (by decide) nr_is_20 rfl rfl (Nat.le_of_ble_eq_true rfl) rfl (fun r2 u e2 => ?_)
  obtain ⟨rfl, rfl⟩ := lw_eq e2 v6.2
  dsimp only
  exact G_icmp_eq (tg := 593) hX dL_469 (by decide) rfl (fun _ => k593 _ _ h2) (fun q => absurd rfl q)
set_option maxHeartbeats 4000000 in
set_option maxRecDepth 100000 in
theorem law_ends (C : lw_C Γ ρ X b L xs Q) (hi : i + 4 ≤ L) (h : iv z g z g) (k593 : ∀ z2 g2, iv z2 g2 z2 g2 → nr_G Γ ρ X 4 Q 593 (lw_lv ρ b i) [] z2 g2) : nr_G Γ ρ X 4 Q 474 (lw_lv ρ b i) [] z g := by
  have hX := C.1
  obtain ⟨x, z', g', n, z2, g2, v5, v6, h2⟩ := iJ_seq (iJ_ends (xs (i + 1))) h
  refine G_aload_n hX dL_474 rfl rfl ?_
  refine L_arg C hi (k := 1) (by decide) (by decide) dL_475 dL_476 dL_477 dL_478 dL_479 ?_
  refine G_cVi hX dL_480 lv_RL_81 (sp_X5_ends Γ ρ 0 9 (xs (i + 1)) z g v5.1) (by decide) nr_is_0 rfl rfl (Nat.le_of_ble_eq_true rfl) rfl (fun r u e => ?_)
  obtain ⟨rfl, rfl⟩ := lw_eq e v5.2
  dsimp only
  refine G_aload_n hX dL_483 rfl rfl ?_
  refine L_arg C hi (k := 1) (by decide) (by decide) dL_484 dL_485 dL_486 dL_487 dL_488 ?_
  refine G_cVi hX dL_489 lv_RL_84 (sp_X6_ends Γ ρ 0 n (xs (i + 1)) z' g' v6.1) (by decide) nr_is_20 rfl rfl (Nat.le_of_ble_eq_true rfl) rfl (fun r2 u e2 => ?_)
  obtain ⟨rfl, rfl⟩ := lw_eq e2 v6.2
  dsimp only
  exact G_icmp_eq (tg := 593) hX dL_492 (by decide) rfl (fun _ => k593 _ _ h2) (fun q => absurd rfl q)
set_option maxHeartbeats 4000000 in
set_option maxRecDepth 100000 in
theorem law_told (C : lw_C Γ ρ X b L xs Q) (hi : i + 4 ≤ L) (h : iv z g z g) (k593 : ∀ z2 g2, iv z2 g2 z2 g2 → nr_G Γ ρ X 4 Q 593 (lw_lv ρ b i) [] z2 g2) : nr_G Γ ρ X 4 Q 497 (lw_lv ρ b i) [] z g := by
  have hX := C.1
  obtain ⟨x, z', g', n, z2, g2, v5, v6, h2⟩ := iJ_seq (iJ_told (xs (i + 1))) h
  refine G_aload_n hX dL_497 rfl rfl ?_
  refine L_arg C hi (k := 1) (by decide) (by decide) dL_498 dL_499 dL_500 dL_501 dL_502 ?_
  refine G_cVi hX dL_503 lv_RL_85 (sp_X5_told Γ ρ 0 9 (xs (i + 1)) z g v5.1) (by decide) nr_is_0 rfl rfl (Nat.le_of_ble_eq_true rfl) rfl (fun r u e => ?_)
  obtain ⟨rfl, rfl⟩ := lw_eq e v5.2
  dsimp only
  refine G_aload_n hX dL_506 rfl rfl ?_
  refine L_arg C hi (k := 1) (by decide) (by decide) dL_507 dL_508 dL_509 dL_510 dL_511 ?_
  refine G_cVi hX dL_512 lv_RL_88 (sp_X6_told Γ ρ 0 n (xs (i + 1)) z' g' v6.1) (by decide) nr_is_20 rfl rfl (Nat.le_of_ble_eq_true rfl) rfl (fun r2 u e2 => ?_)
  obtain ⟨rfl, rfl⟩ := lw_eq e2 v6.2
  dsimp only
  exact G_icmp_eq (tg := 593) hX dL_515 (by decide) rfl (fun _ => k593 _ _ h2) (fun q => absurd rfl q)
set_option maxHeartbeats 4000000 in
set_option maxRecDepth 100000 in
theorem law_draw (C : lw_C Γ ρ X b L xs Q) (hi : i + 4 ≤ L) (h : iv z g z g) (k593 : ∀ z2 g2, iv z2 g2 z2 g2 → nr_G Γ ρ X 4 Q 593 (lw_lv ρ b i) [] z2 g2) : nr_G Γ ρ X 4 Q 520 (lw_lv ρ b i) [] z g := by
  have hX := C.1
  obtain ⟨x, z', g', n, z2, g2, v5, v6, h2⟩ := iJ_seq (iJ_draw (xs (i + 1))) h
  refine G_aload_n hX dL_520 rfl rfl ?_
  refine L_arg C hi (k := 1) (by decide) (by decide) dL_521 dL_522 dL_523 dL_524 dL_525 ?_
  refine G_cVi hX dL_526 lv_RL_89 (sp_X5_draw Γ ρ 0 (xs (i + 1)) z g v5.1) (by decide) nr_is_0 rfl rfl (Nat.le_of_ble_eq_true rfl) rfl (fun r u e => ?_)
  obtain ⟨rfl, rfl⟩ := lw_eq e v5.2
  dsimp only
  refine G_aload_n hX dL_529 rfl rfl ?_
  refine L_arg C hi (k := 1) (by decide) (by decide) dL_530 dL_531 dL_532 dL_533 dL_534 ?_
  refine G_cVi hX dL_535 lv_RL_92 (sp_X6_draw Γ ρ 0 (xs (i + 1)) z' g' v6.1) (by decide) nr_is_20 rfl rfl (Nat.le_of_ble_eq_true rfl) rfl (fun r2 u e2 => ?_)
  obtain ⟨rfl, rfl⟩ := lw_eq e2 v6.2
  dsimp only
  exact G_icmp_eq (tg := 593) hX dL_538 (by decide) rfl (fun _ => k593 _ _ h2) (fun q => absurd rfl q)
set_option maxHeartbeats 4000000 in
set_option maxRecDepth 100000 in
theorem law_back (C : lw_C Γ ρ X b L xs Q) (hi : i + 4 ≤ L) (h : iv z g z g) (k593 : ∀ z2 g2, iv z2 g2 z2 g2 → nr_G Γ ρ X 4 Q 593 (lw_lv ρ b i) [] z2 g2) : nr_G Γ ρ X 4 Q 543 (lw_lv ρ b i) [] z g := by
  have hX := C.1
  obtain ⟨x, z', g', n, z2, g2, v5, v6, h2⟩ := iJ_seq (iJ_back) h
  refine G_aload_n hX dL_543 rfl rfl ?_
  refine G_cVi hX dL_544 lv_RL_93 (sp_X5_back Γ ρ 0  z g v5.1) (by decide) nr_is_0 rfl rfl (Nat.le_of_ble_eq_true rfl) rfl (fun r u e => ?_)
  obtain ⟨rfl, rfl⟩ := lw_eq e v5.2
  dsimp only
  refine G_aload_n hX dL_547 rfl rfl ?_
  refine G_cVi hX dL_548 lv_RL_96 (sp_X6_back Γ ρ 0  z' g' v6.1) (by decide) nr_is_20 rfl rfl (Nat.le_of_ble_eq_true rfl) rfl (fun r2 u e2 => ?_)
  obtain ⟨rfl, rfl⟩ := lw_eq e2 v6.2
  dsimp only
  exact G_icmp_eq (tg := 593) hX dL_551 (by decide) rfl (fun _ => k593 _ _ h2) (fun q => absurd rfl q)
set_option maxHeartbeats 4000000 in
set_option maxRecDepth 100000 in
theorem law_count (C : lw_C Γ ρ X b L xs Q) (hi : i + 4 ≤ L) (h : iv z g z g) (k593 : ∀ z2 g2, iv z2 g2 z2 g2 → nr_G Γ ρ X 4 Q 593 (lw_lv ρ b i) [] z2 g2) : nr_G Γ ρ X 4 Q 556 (lw_lv ρ b i) [] z g := by
  have hX := C.1
  obtain ⟨x, z', g', n, z2, g2, v5, v6, h2⟩ := iJ_seq (iJ_count (xs (i + 1))) h
  refine G_aload_n hX dL_556 rfl rfl ?_
  refine L_arg C hi (k := 1) (by decide) (by decide) dL_557 dL_558 dL_559 dL_560 dL_561 ?_
  refine G_cVi hX dL_562 lv_RL_97 (sp_X5_count Γ ρ 0 (xs (i + 1)) z g v5.1) (by decide) nr_is_0 rfl rfl (Nat.le_of_ble_eq_true rfl) rfl (fun r u e => ?_)
  obtain ⟨rfl, rfl⟩ := lw_eq e v5.2
  dsimp only
  refine G_aload_n hX dL_565 rfl rfl ?_
  refine L_arg C hi (k := 1) (by decide) (by decide) dL_566 dL_567 dL_568 dL_569 dL_570 ?_
  refine G_cVi hX dL_571 lv_RL_100 (sp_X6_count Γ ρ 0 (xs (i + 1)) z' g' v6.1) (by decide) nr_is_20 rfl rfl (Nat.le_of_ble_eq_true rfl) rfl (fun r2 u e2 => ?_)
  obtain ⟨rfl, rfl⟩ := lw_eq e2 v6.2
  dsimp only
  exact G_icmp_eq (tg := 593) hX dL_574 (by decide) rfl (fun _ => k593 _ _ h2) (fun q => absurd rfl q)
set_option maxHeartbeats 4000000 in
set_option maxRecDepth 100000 in
theorem law_digest (C : lw_C Γ ρ X b L xs Q) (hi : i + 4 ≤ L) (h : iv z g z g) (k593 : ∀ z2 g2, iv z2 g2 z2 g2 → nr_G Γ ρ X 4 Q 593 (lw_lv ρ b i) [] z2 g2) : nr_G Γ ρ X 4 Q 579 (lw_lv ρ b i) [] z g := by
  have hX := C.1
  obtain ⟨x, v5, v6⟩ := iJ_digest h
  refine G_aload_n hX dL_579 rfl rfl ?_
  refine G_cVl hX dL_580 lv_RL_101 (sp_X5_digest Γ ρ 0 z g v5.1) (by decide) nr_is_0 rfl rfl (Nat.le_of_ble_eq_true rfl) rfl (fun r u e => ?_)
  obtain ⟨rfl, rfl⟩ := lw_eql e v5.2
  dsimp only
  refine G_aload_n hX dL_583 rfl rfl ?_
  refine G_fVl hX dL_584 lv_RL_105 (sp_X6_digest Γ ρ 0 z g v6.1) (by decide) nr_is_20 rfl rfl (Nat.le_of_ble_eq_true rfl) rfl ?_
  refine G_lcmp hX dL_587 rfl ?_
  rw [v6.2]
  exact G_if_eq (tg := 593) hX dL_588 (by decide) rfl (fun _ => k593 _ _ h) (fun q => absurd ((lg_cmp_eq _ _).mpr rfl) q)
set_option maxHeartbeats 4000000 in
set_option maxRecDepth 100000 in
theorem law_switch (C : lw_C Γ ρ X b L xs Q) (hi : i + 4 ≤ L) (h : iv z g z g) (k593 : ∀ z2 g2, iv z2 g2 z2 g2 → nr_G Γ ρ X 4 Q 593 (lw_lv ρ b i) [] z2 g2) : nr_G Γ ρ X 4 Q 26 (lw_lv ρ b i) [] z g := by
  have hX := C.1
  refine G_aload_n hX dL_26 rfl rfl ?_
  refine G_iload_n hX dL_27 rfl rfl ?_
  refine L_ld C dL_28 (by omega) ?_
  refine G_bipush (v := 31) hX dL_29 (by decide) rfl ?_
  refine G_iand hX dL_31 rfl ?_
  obtain ⟨j, hj, ej⟩ := pk_andE (xs i) (m := 31) 5 (by decide)
  rw [ej]
  by_cases h22 : 22 ≤ j
  · have e : (nI j).toInt = (j : Int) := nI_toInt (by omega)
    exact G_tabOut (tg := 593) hX dL_32 (Or.inr (by rw [e]; omega)) (by decide) (k593 z g h)
  · rcases (show j = 0 ∨ j = 1 ∨ j = 2 ∨ j = 3 ∨ j = 4 ∨ j = 5 ∨ j = 6 ∨ j = 7 ∨ j = 8 ∨ j = 9 ∨ j = 10 ∨ j = 11 ∨ j = 12 ∨ j = 13 ∨ j = 14 ∨ j = 15 ∨ j = 16 ∨ j = 17 ∨ j = 18 ∨ j = 19 ∨ j = 20 ∨ j = 21 by omega) with rfl | rfl | rfl | rfl | rfl | rfl | rfl | rfl | rfl | rfl | rfl | rfl | rfl | rfl | rfl | rfl | rfl | rfl | rfl | rfl | rfl | rfl
    · exact G_tabIn (tg := 136) (off := 104) hX dL_32 (by decide) (by decide) (by decide) (by decide) (law_sets C hi h k593)
    · exact G_tabIn (tg := 179) (off := 147) hX dL_32 (by decide) (by decide) (by decide) (by decide) (law_of C hi h k593)
    · exact G_tabIn (tg := 212) (off := 180) hX dL_32 (by decide) (by decide) (by decide) (by decide) (law_keys C hi h k593)
    · exact G_tabIn (tg := 235) (off := 203) hX dL_32 (by decide) (by decide) (by decide) (by decide) (law_dusk C hi h k593)
    · exact G_tabIn (tg := 248) (off := 216) hX dL_32 (by decide) (by decide) (by decide) (by decide) (law_type C hi h k593)
    · exact G_tabIn (tg := 271) (off := 239) hX dL_32 (by decide) (by decide) (by decide) (by decide) (law_clear C hi h k593)
    · exact G_tabIn (tg := 284) (off := 252) hX dL_32 (by decide) (by decide) (by decide) (by decide) (law_goes C hi h k593)
    · exact G_tabIn (tg := 297) (off := 265) hX dL_32 (by decide) (by decide) (by decide) (by decide) (law_tries C hi h k593)
    · exact G_tabIn (tg := 310) (off := 278) hX dL_32 (by decide) (by decide) (by decide) (by decide) (law_often C hi h k593)
    · exact G_tabIn (tg := 333) (off := 301) hX dL_32 (by decide) (by decide) (by decide) (by decide) (law_was C hi h k593)
    · exact G_tabIn (tg := 356) (off := 324) hX dL_32 (by decide) (by decide) (by decide) (by decide) (law_root C hi h k593)
    · exact G_tabIn (tg := 369) (off := 337) hX dL_32 (by decide) (by decide) (by decide) (by decide) (law_diary C hi h k593)
    · exact G_tabIn (tg := 392) (off := 360) hX dL_32 (by decide) (by decide) (by decide) (by decide) (law_open C hi h k593)
    · exact G_tabIn (tg := 405) (off := 373) hX dL_32 (by decide) (by decide) (by decide) (by decide) (law_fewest C hi h k593)
    · exact G_tabIn (tg := 418) (off := 386) hX dL_32 (by decide) (by decide) (by decide) (by decide) (law_were C hi h k593)
    · exact G_tabIn (tg := 451) (off := 419) hX dL_32 (by decide) (by decide) (by decide) (by decide) (law_cures C hi h k593)
    · exact G_tabIn (tg := 474) (off := 442) hX dL_32 (by decide) (by decide) (by decide) (by decide) (law_ends C hi h k593)
    · exact G_tabIn (tg := 497) (off := 465) hX dL_32 (by decide) (by decide) (by decide) (by decide) (law_told C hi h k593)
    · exact G_tabIn (tg := 520) (off := 488) hX dL_32 (by decide) (by decide) (by decide) (by decide) (law_draw C hi h k593)
    · exact G_tabIn (tg := 543) (off := 511) hX dL_32 (by decide) (by decide) (by decide) (by decide) (law_back C hi h k593)
    · exact G_tabIn (tg := 556) (off := 524) hX dL_32 (by decide) (by decide) (by decide) (by decide) (law_count C hi h k593)
    · exact G_tabIn (tg := 579) (off := 547) hX dL_32 (by decide) (by decide) (by decide) (by decide) (law_digest C hi h k593)
theorem law_head (C : lw_C Γ ρ X b L xs Q) (hi : i ≤ L + 4) (kk : i + 4 ≤ L → nr_G Γ ρ X 4 Q 26 (lw_lv ρ b i) [] z g) : nr_G Γ ρ X 4 Q 18 (lw_lv ρ b i) [] z g := by
  have hX := C.1
  have hL := C.2.2.2.2.1
  refine G_iload_n hX dL_18 rfl rfl ?_
  refine G_aload_n hX dL_19 rfl rfl ?_
  refine L_len C dL_20 ?_
  refine G_iconst (v := nI 4) hX dL_21 (by decide) rfl ?_
  refine G_isub hX dL_22 rfl ?_
  refine G_icmp_gt (tg := 599) hX dL_23 (by decide) rfl (fun _ => ?_) (fun q => kk ?_)
  · refine G_iconst (v := 1) hX dL_599 (by decide) rfl ?_
    exact C.2.2.2.2.2 _ z g
  · rcases Nat.lt_or_ge L (i + 4) with hlt | hge
    · refine absurd ?_ q
      rcases Nat.lt_or_ge L 4 with h4 | h4
      · exact Int32.lt_of_lt_of_le (pk_sneg (by decide) h4) (nI_pos' (by omega))
      · rw [pk_sub h4]
        exact nI_lt (by omega) (by omega)
    · exact hge
theorem law_loop (C : lw_C Γ ρ X b L xs Q) : ∀ (n i : Nat) (z : Nat → Int32) (g : Nat → Nat → Int32), L < i + n → i ≤ L + 4 → iv z g z g → nr_G Γ ρ X 4 Q 18 (lw_lv ρ b i) [] z g
  | 0, i, z, g, hn, hi, h => law_head C hi (fun q => absurd q (by omega))
  | n + 1, i, z, g, hn, hi, h => by
    have hX := C.1
    refine law_head C hi (fun q => law_switch C q h (fun z2 g2 h2 => ?_))
    refine G_iinc (v := nI (i + 4)) hX dL_593 rfl (nI_add i 4) (by decide) rfl rfl ?_
    refine G_goto (tg := 18) hX dL_596 (by decide) ?_
    exact nr_sub (lv' := lw_lv ρ b (i + 4)) ⟨rfl, rfl, rfl, rfl, trivial⟩ (law_loop C n (i + 4) z2 g2 (by omega) (by omega) h2)
end
