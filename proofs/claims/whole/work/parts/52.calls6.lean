/-! calls: draw -/
theorem rW_3 {f : Nat → Int32} (h : rW f) {r : Nat} (hr : r < 8) (h4 : f (7 * r + 4) = 0) {v : Int32} (hv : ∃ k, k ≤ 9 ∧ v = nI k) : rW (upd f (7 * r + 3) v) := by
  have k := rW_slp h hr hv
  have e : upd (upd f (7 * r + 3) v) (7 * r + 4) 0 = upd f (7 * r + 3) v := by
    have := upd_self (upd f (7 * r + 3) v) (7 * r + 4)
    rw [pk_un (by omega), h4] at this
    exact this
  rw [e] at k
  exact k
theorem dw_3 : ∀ q, q < 8 → R_X6_atMost3 (lN q) = R_X0_upToThree (nI q) ∧ ∃ j, j ≤ 3 ∧ R_X0_upToThree (nI q) = nI j := by decide +kernel
def dw_y (k : Nat) : Nat := (k * 1103515245 + 12345) % 2147483648
theorem dw_x {k : Nat} (hk : k < 2 ^ 31) : nr_lrem ((lN k * (1103515245 : Int64)) + (12345 : Int64)) (2147483648 : Int64) = lN (dw_y k) := by
  unfold nr_lrem dw_y
  rw [show (1103515245 : Int64) = lN 1103515245 from rfl, show (12345 : Int64) = lN 12345 from rfl, show (2147483648 : Int64) = lN 2147483648 from rfl, lN_mul, lN_add]
  exact pk_lRem (by omega) (by decide) (by decide)
theorem dw_d {y a b : Nat} (hy : y < 2 ^ 31) (ha : 0 < a) (ha2 : a < 2 ^ 63) (hb : 0 < b) (hb2 : b < 2 ^ 63) : nr_lrem (lN y / lN a) (lN b) = lN (y / a % b) := by
  unfold nr_lrem
  rw [pk_lDiv (by omega) ha ha2]
  exact pk_lRem (Nat.lt_of_le_of_lt (Nat.div_le_self _ _) (by omega)) hb hb2
theorem dw_lt (k : Nat) : dw_y k < 2 ^ 31 := Nat.mod_lt _ (by decide)
theorem upd_E {f k : Nat → Int32} (h : ∀ i, i < 58 → k i = f i) (j : Nat) (v : Int32) : ∀ i, i < 58 → upd k j v i = upd f j v i := by
  intro i hi
  by_cases e : i = j
  · rw [e, pk_us, pk_us]
  · rw [pk_un e, pk_un e]; exact h i hi
theorem ih_draw (z ζ : Nat → Int32) : ∀ (n p k : Nat) (g γ : Nat → Nat → Int32), 8 < n + p → p ≤ 8 → k < 2 ^ 31 → (∀ i, i < 58 → γ 21 i = g 2 i) → rW (g 2) → (∀ r, r < 8 → g 2 (7 * r + 4) = 0) → ∃ f κ, nr_V (O_X0_drawFrom_14 1 n (lN k) (nI p) z g) (T_X0_drawFrom_14 1 n (lN k) (nI p) z g) (0, z, va_up g 2 f) ∧ nr_V (O_X6_draw_53 n (lN k) (nI p) ζ γ) (T_X6_draw_53 n (lN k) (nI p) ζ γ) (0, ζ, va_up γ 21 κ) ∧ (∀ i, i < 58 → κ i = f i) ∧ rW f
  | 0, p, k, g, γ, hn, hp, _, _, _, _ => absurd hn (by omega)
  | n + 1, p, k, g, γ, hn, hp, hk, hE, hW, h4 => by
    rw [O_X0_drawFrom_14, T_X0_drawFrom_14, O_X6_draw_53, T_X6_draw_53]
    by_cases e : p = 8
    · subst e
      exact ⟨g 2, γ 21, V_pos (by decide) (V_T (by rw [up_self g 2 _ rfl])), V_pos (by decide) (V_T (by rw [up_self γ 21 _ rfl])), hE, hW⟩
    · have q8 : ¬ (8 : Int32) ≤ nI p := nI_ge (b := 8) (by omega) (by decide)
      have hp8 : p < 8 := by omega
      have hy := dw_lt k
      have v0 : (nr_lrem (lN (dw_y k) / (65536 : Int64)) (5 : Int64)).toInt32 = nI (dw_y k / 65536 % 5) := by
        rw [show nr_lrem (lN (dw_y k) / (65536 : Int64)) (5 : Int64) = lN (dw_y k / 65536 % 5) from dw_d hy (by decide) (by decide) (by decide) (by decide), lN_i]
      have v3 : (nr_lrem (lN (dw_y k) / (16384 : Int64)) (10 : Int64)).toInt32 = nI (dw_y k / 16384 % 10) := by
        rw [show nr_lrem (lN (dw_y k) / (16384 : Int64)) (10 : Int64) = lN (dw_y k / 16384 % 10) from dw_d hy (by decide) (by decide) (by decide) (by decide), lN_i]
      have v1 : nr_lrem (lN (dw_y k) / (1024 : Int64)) (8 : Int64) = lN (dw_y k / 1024 % 8) := dw_d hy (by decide) (by decide) (by decide) (by decide)
      have v2 : nr_lrem (lN (dw_y k) / (4096 : Int64)) (8 : Int64) = lN (dw_y k / 4096 % 8) := dw_d hy (by decide) (by decide) (by decide) (by decide)
      obtain ⟨t1, j1, j2, j3⟩ := dw_3 (dw_y k / 1024 % 8) (Nat.mod_lt _ (by decide))
      obtain ⟨t2, i1, i2, i3⟩ := dw_3 (dw_y k / 4096 % 8) (Nat.mod_lt _ (by decide))
      rw [dw_x hk, v0, v1, v2, v3, t1, t2, lN_i, lN_i, j3, i3, nI_1]
      have hc0 : dw_y k / 65536 % 5 ≤ 4 := Nat.le_of_lt_succ (Nat.mod_lt _ (by decide))
      have hc3 : dw_y k / 16384 % 10 ≤ 9 := Nat.le_of_lt_succ (Nat.mod_lt _ (by decide))
      generalize dw_y k / 65536 % 5 = c0 at hc0 v0 ⊢
      generalize dw_y k / 16384 % 10 = c3 at hc3 v3 ⊢
      have s0 := cp_set 1 hp8 (w := 0) (by decide) (nI c0) z g
      have s1 := cp_set 1 hp8 (w := 1) (by decide) (nI j1) z (va_up g 2 (upd (g 2) (7 * p + 0) (nI c0)))
      rw [pp_up_eq (i := 1 + 1), up_up] at s1
      have s2 := cp_set 1 hp8 (w := 2) (by decide) (nI i1) z (va_up g 2 (upd (upd (g 2) (7 * p + 0) (nI c0)) (7 * p + 1) (nI j1)))
      rw [pp_up_eq (i := 1 + 1), up_up] at s2
      have s3 := cp_set 1 hp8 (w := 3) (by decide) (nI c3) z (va_up g 2 (upd (upd (upd (g 2) (7 * p + 0) (nI c0)) (7 * p + 1) (nI j1)) (7 * p + 2) (nI i1)))
      rw [pp_up_eq (i := 1 + 1), up_up] at s3
      have m0 := ra_put hp8 (w := 0) (by decide) (nI c0) ζ γ
      have m1 := ra_put hp8 (w := 1) (by decide) (nI j1) ζ (va_up γ 21 (upd (γ 21) (7 * p + 0) (nI c0)))
      rw [pp_up_eq, up_up] at m1
      have m2 := ra_put hp8 (w := 2) (by decide) (nI i1) ζ (va_up γ 21 (upd (upd (γ 21) (7 * p + 0) (nI c0)) (7 * p + 1) (nI j1)))
      rw [pp_up_eq, up_up] at m2
      have m3 := ra_put hp8 (w := 3) (by decide) (nI c3) ζ (va_up γ 21 (upd (upd (upd (γ 21) (7 * p + 0) (nI c0)) (7 * p + 1) (nI j1)) (7 * p + 2) (nI i1)))
      rw [pp_up_eq, up_up] at m3
      have w0 := rW_upd (w := 0) hW hp8 (by decide) (v := nI c0) ⟨c0, hc0, rfl⟩ (by decide) (fun q => absurd q (by decide))
      have w1 := rW_upd (w := 1) w0 hp8 (by decide) (v := nI j1) ⟨j1, j2, rfl⟩ (by decide) (fun q => absurd q (by decide))
      have w2 := rW_upd (w := 2) w1 hp8 (by decide) (v := nI i1) ⟨i1, i2, rfl⟩ (by decide) (fun q => absurd q (by decide))
      have w3 := rW_3 w2 hp8 (by rw [pk_un (by omega), pk_un (by omega), pk_un (by omega)]; exact h4 p hp8) (v := nI c3) ⟨c3, hc3, rfl⟩
      obtain ⟨f, κ, u1, u2, u3, u4⟩ := ih_draw z ζ n (p + 1) (dw_y k) (va_up g 2 (upd (upd (upd (upd (g 2) (7 * p + 0) (nI c0)) (7 * p + 1) (nI j1)) (7 * p + 2) (nI i1)) (7 * p + 3) (nI c3))) (va_up γ 21 (upd (upd (upd (upd (γ 21) (7 * p + 0) (nI c0)) (7 * p + 1) (nI j1)) (7 * p + 2) (nI i1)) (7 * p + 3) (nI c3))) (by omega) (by omega) hy (by
        rw [pp_up_eq, pp_up_eq]
        exact upd_E (upd_E (upd_E (upd_E hE _ _) _ _) _ _) _ _) (by rw [pp_up_eq]; exact w3) (fun r hr => by
        rw [pp_up_eq, pk_un (by omega), pk_un (by omega), pk_un (by omega), pk_un (by omega)]
        exact h4 r hr)
      rw [up_up] at u1 u2
      exact ⟨f, κ, V_neg q8 (V_K s0 (V_K s1 (V_K s2 (V_K s3 u1)))), V_neg q8 (V_K m0 (V_K m1 (V_K m2 (V_K m3 u2)))), u3, u4⟩
theorem ra_draw29 {M : Nat} (hM : M = 500) (k : Int64) (ζ : Nat → Int32) {v : Int32 × nr_S} : ∀ (n p : Nat) (γ : Nat → Nat → Int32), 58 < n + p → p ≤ 58 → nr_V (O_X6_draw_53 M k 0 ζ (va_up γ 21 (fun i => if p ≤ i ∧ i < 58 then 0 else γ 21 i))) (T_X6_draw_53 M k 0 ζ (va_up γ 21 (fun i => if p ≤ i ∧ i < 58 then 0 else γ 21 i))) v → nr_V (O_X6_draw_29 n k (nI p) ζ γ) (T_X6_draw_29 n k (nI p) ζ γ) v := by
  intro n
  induction n with
  | zero => intro p γ hn hp hv; omega
  | succ n ih =>
    intro p γ hn hp hv
    rw [O_X6_draw_29, T_X6_draw_29, ← hM]
    by_cases e : p = 58
    · subst e
      rw [up_self γ 21 _ (by funext i; rw [if_neg (by omega)])] at hv
      exact V_pos (by decide) hv
    · refine V_neg (nI_ge (a := p) (b := 58) (by omega) (by decide)) (V_and (vp_in_nI (by omega) (by decide)) ?_)
      rw [nI_1, pp_st_lit (by omega)]
      refine ih (p + 1) _ (by omega) (by omega) ?_
      have er : va_up (va_up γ 21 (upd (γ 21) p 0)) 21 (fun i => if p + 1 ≤ i ∧ i < 58 then 0 else va_up γ 21 (upd (γ 21) p 0) 21 i) = va_up γ 21 (fun i => if p ≤ i ∧ i < 58 then 0 else γ 21 i) := by
        rw [up_up, pp_up_eq]
        refine congrArg (va_up γ 21) ?_
        funext i
        by_cases e2 : i = p
        · rw [e2, if_neg (by omega), pk_us, if_pos (by omega)]
        · rw [pk_un e2]
          by_cases q : p ≤ i ∧ i < 58
          · rw [if_pos q, if_pos (by omega)]
          · rw [if_neg q, if_neg (by omega)]
      rw [er]
      exact hv
theorem rW_0 {f : Nat → Int32} (h : ∀ i, i < 58 → f i = 0) : rW f := by
  refine ⟨fun r w hr hw => ?_, fun r hr _ => h _ (by omega), 0, by decide, by rw [h 56 (by decide)]; rfl⟩
  rw [h _ (by omega)]
  rcases (show w = 0 ∨ w = 1 ∨ w = 2 ∨ w = 3 ∨ w = 4 ∨ w = 5 ∨ w = 6 by omega) with rfl | rfl | rfl | rfl | rfl | rfl | rfl
  · exact ⟨0, by decide, rfl⟩
  · exact ⟨0, by decide, rfl⟩
  · exact ⟨0, by decide, rfl⟩
  · exact ⟨0, by decide, rfl⟩
  · exact Or.inl rfl
  · exact Or.inl rfl
  · exact ⟨0, by decide, rfl⟩
theorem iJ_draw (a : Int32) : iJ (O_X5_draw a) (T_X5_draw a) (fun _ => O_X6_draw a) (fun _ => T_X6_draw a) := by
  intro z g ζ γ h
  have ein : R_X6_in a.toInt64 0 999999 = R_X5_within a 0 999999 := pp_in a 0 999999
  by_cases hw : R_X5_within a 0 999999 = 0
  · obtain ⟨b1, b2, b3⟩ := iv_bad h (-2)
    refine iv_bad2 (O5 := O_X5_draw a) (T5 := T_X5_draw a) (O6 := fun _ => O_X6_draw a) (T6 := fun _ => T_X6_draw a) h ?_ (fun m => ?_)
    · unfold O_X5_draw T_X5_draw
      exact V_pos hw (V_K0 b1 (V_T rfl))
    · show nr_V (O_X6_draw a ζ γ) (T_X6_draw a ζ γ) _
      unfold O_X6_draw T_X6_draw
      exact V_pos (ein.trans hw) (V_K0 b2 (V_T rfl))
  · obtain ⟨k, k1, k2⟩ := pp_rng (N := 999999) (by decide) hw
    subst k2
    obtain ⟨H, c1, c2, c3, c4⟩ := h.2.1
    obtain ⟨p, P, H', n1, n2, n3, n4⟩ := iv_keep c1 c2 c3 c4 h.1.1 h.1.2
    have I1 := iv_n h n1 n4
    have zr : ∀ i, i < 58 → (fun i => if 0 ≤ i ∧ i < 58 then (0 : Int32) else va_up g 6 p 2 i) i = 0 := fun i hi => by
      dsimp only
      rw [if_pos (by omega)]
    obtain ⟨f, κ, v1, v2, v3, v4⟩ := ih_draw (va_up z 3 (nI H')) (va_up ζ 20 (nI H')) 500 0 k (va_up (va_up g 6 p) 2 (fun i => if 0 ≤ i ∧ i < 58 then 0 else va_up g 6 p 2 i)) (va_up (va_up γ 22 P) 21 (fun i => if 0 ≤ i ∧ i < 58 then 0 else va_up γ 22 P 21 i)) (by decide) (by decide) (by omega) (fun i hi => by
      rw [pp_up_eq, pp_up_eq, if_pos (by omega), if_pos (by omega)]) (by rw [pp_up_eq]; exact rW_0 zr) (fun r hr => by rw [pp_up_eq]; exact zr _ (by omega))
    rw [up_up] at v1 v2
    have I2 := iv_h I1 v3 v4
    have hfill : nr_V (O_J7_fill_53178 (1 + 1) 0 (va_up z 3 (nI H')) (va_up g 6 p)) (T_J7_fill_53178 (1 + 1) 0 (va_up z 3 (nI H')) (va_up g 6 p)) (0, va_up z 3 (nI H'), va_up (va_up g 6 p) 2 (fun i => if 0 ≤ i ∧ i < 58 then 0 else va_up g 6 p 2 i)) := by
      rcases ra_fill (k0 := 2) (N := 58) rfl (by decide) (by decide) 0 (va_up z 3 (nI H')) 500 0 (va_up g 6 p) (by decide) with q | q
      · exact V_and (by decide) q
      · exact absurd q (by decide)
    refine ⟨0, 0, _, _, _, _, ?_, fun m => ?_, I2, ((cF.up1 (by decide) _).trans (cF.up2 (by decide) _)).trans (cF.up2 (by decide) _), ((mF.up1 (by decide) _).trans (mF.up2 (by decide) _)).trans (mF.up2 (by decide) _)⟩
    · unfold O_X5_draw T_X5_draw O_X0_drawFrom T_X0_drawFrom
      rw [nI_l (by omega)]
      exact V_neg hw (V_K n2 (V_K1 (V_K hfill v1) (V_T rfl)))
    · show nr_V (O_X6_draw (nI k) ζ γ) (T_X6_draw (nI k) ζ γ) _
      unfold O_X6_draw T_X6_draw
      rw [nI_l (by omega)] at ein ⊢
      exact V_neg (fun q => hw (ein.symm.trans q)) (V_K n3 (ra_draw29 rfl (lN k) (va_up ζ 20 (nI H')) 500 0 (va_up γ 22 P) (by decide) (by decide) v2))
