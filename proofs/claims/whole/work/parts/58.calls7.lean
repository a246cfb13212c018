/-! calls: were, cures -/
theorem iJ_were (a b : Int32) : iJ (O_X5_were 9 a b) (T_X5_were 9 a b) (fun n => O_X6_were n a b) (fun n => T_X6_were n a b) := by
  intro z g ζ γ h
  have e1 : R_X6_isRoom a = R_X5_isRoom a := pp_in a 0 7
  have e2 : R_X6_in b.toInt64 0 4 = R_X5_within b 0 4 := pp_in b 0 4
  obtain ⟨b1, b2, b3⟩ := iv_bad h (-2)
  have k16 : nr_V (O_X5_were_16 9 z g) (T_X5_were_16 9 z g) (-2, va_up z 0 (z 0 + 1), g) := V_K0 b1 (V_T rfl)
  have k19 : ∀ m, nr_V (O_X6_were_19 m ζ γ) (T_X6_were_19 m ζ γ) (-2, ζ, va_up γ 23 (upd (γ 23) 0 (z 0 + 1))) := fun m => V_K0 b2 (V_T rfl)
  by_cases h1 : R_X5_isRoom a = 0
  · refine iv_bad2 (O5 := O_X5_were 9 a b) (T5 := T_X5_were 9 a b) (O6 := fun n => O_X6_were n a b) (T6 := fun n => T_X6_were n a b) h ?_ (fun m => ?_)
    · unfold O_X5_were T_X5_were
      exact V_pos h1 k16
    · show nr_V (O_X6_were m a b ζ γ) (T_X6_were m a b ζ γ) _
      unfold O_X6_were T_X6_were
      exact V_pos (e1.trans h1) (k19 m)
  have h1' : ¬ R_X6_isRoom a = 0 := fun q => h1 (e1.symm.trans q)
  by_cases h2 : R_X5_within b 0 4 = 0
  · refine iv_bad2 (O5 := O_X5_were 9 a b) (T5 := T_X5_were 9 a b) (O6 := fun n => O_X6_were n a b) (T6 := fun n => T_X6_were n a b) h ?_ (fun m => ?_)
    · unfold O_X5_were T_X5_were
      exact V_neg h1 (V_pos h2 k16)
    · show nr_V (O_X6_were m a b ζ γ) (T_X6_were m a b ζ γ) _
      unfold O_X6_were T_X6_were
      exact V_neg h1' (V_pos (e2.trans h2) (k19 m))
  have h2' : ¬ R_X6_in b.toInt64 0 4 = 0 := fun q => h2 (e2.symm.trans q)
  obtain ⟨r, r1, r2⟩ := pp_rng (N := 7) (by decide) h1
  obtain ⟨k, k1, k2⟩ := pp_rng (N := 4) (by decide) h2
  subst r2
  subst k2
  obtain ⟨n, flt, z1, g1, ζ1, γ1, v1, v2, i1, c1, m1, hr⟩ := iv_read h
  by_cases hf : flt = -1
  · subst hf
    obtain ⟨len, A, hr, -⟩ := hr rfl
    obtain ⟨B, mk⟩ := tB_keep i1 hr
    have kk := m_keep ζ1 γ1
    generalize va_up γ1 35 (mk_row (γ1 21) (γ1 35)) = γ2 at B mk kk
    obtain ⟨n2, x, z', g', ζ3, γ3, w1, w2, c, m⟩ := tri_with B (cE.refl _ _) (mE.refl _ _) (r := r) (w := 0) (v := nI k) (by omega) (by decide) ⟨k, k1, rfl⟩ (fun q => absurd q (by decide))
    obtain ⟨j1, j2, j3⟩ := tB_back B c m
    refine ⟨n + n2, x, z', g', ζ3, _, ?_, fun m => ?_, j1, c1.trans j2, m1.trans (mk.trans j3)⟩
    · unfold O_X5_were T_X5_were
      exact V_neg h1 (V_neg h2 (V_K v1 (V_pos rfl (V_wr1 w1))))
    · show nr_V (O_X6_were (m + (n + n2)) (nI r) (nI k) ζ γ) (T_X6_were (m + (n + n2)) (nI r) (nI k) ζ γ) _
      unfold O_X6_were T_X6_were
      have f1 := v2 (m + n2)
      have f2 := w2 (m + n)
      rw [show m + n2 + n = m + (n + n2) by omega] at f1
      rw [show m + n + n2 = m + (n + n2) by omega] at f2
      exact V_neg h1' (V_neg h2' (V_K f1 (V_pos rfl (V_K kk (V_K (ra_put (r := r) (w := 0) (by omega) (by decide) (nI k) ζ1 γ2) (V_K f2 (V_K1 (m_bring ζ3 γ3) (V_T rfl))))))))
  · refine ⟨n, -10 - flt, z1, g1, ζ1, γ1, ?_, fun m => ?_, i1, c1, m1⟩
    · unfold O_X5_were T_X5_were
      exact V_neg h1 (V_neg h2 (V_K v1 (V_neg hf (V_T rfl))))
    · show nr_V (O_X6_were (m + n) (nI r) (nI k) ζ γ) (T_X6_were (m + n) (nI r) (nI k) ζ γ) _
      unfold O_X6_were T_X6_were
      exact V_neg h1' (V_neg h2' (V_K (v2 m) (V_neg hf (V_T rfl))))
def cuW (s : Nat) : Nat := match s with | 0 => 0 | 1 => 3 | _ => 1
theorem cu_at (z : Nat → Int32) (g : Nat → Nat → Int32) {s : Nat} (hs : s < 3) : R_X5_at 42 (nI s) z g = nI (cuW s) ∧ O_X5_at 42 (nI s) z g := by
  have n1 : ¬ nI s < 0 := nI_pos (by omega)
  have n2 : ¬ Int32.ofNat (nr_rl 42) ≤ nI s := nI_ge (b := 3) hs (by decide)
  unfold R_X5_at O_X5_at nr_rd
  rw [if_neg n1, if_neg n2, if_neg (by decide), nI_clamp (by omega)]
  refine ⟨?_, fun q => absurd q n1, fun _ => ⟨by decide, fun q => absurd q n2, fun _ => ⟨by decide, vp_in_nI (N := 3) hs (by decide), trivial⟩⟩⟩
  rcases (show s = 0 ∨ s = 1 ∨ s = 2 by omega) with rfl | rfl | rfl <;> rfl
theorem cuW_lt (s : Nat) : cuW s < 4 ∧ cw (cuW s) 0 := by
  match s with
  | 0 => exact ⟨by decide, ⟨0, by decide, rfl⟩⟩
  | 1 => exact ⟨by decide, ⟨0, by decide, rfl⟩⟩
  | n + 2 => exact ⟨show 1 < 4 by decide, ⟨0, by decide, rfl⟩⟩
theorem cu_43 {N n s : Nat} (hs : s < 3) {c a4 : Int32} {ζ : Nat → Int32} {γ : Nat → Nat → Int32} {v : Int32 × nr_S} (h8 : ¬ (8 : Int32) ≤ a4) (h : nr_V (O_X6_cures_71 N (T_X6_cures_43 N n) (O_X6_cures_43 N n) (nI s) c a4 a4 (nI (cuW s)) ζ γ) (T_X6_cures_71 N (T_X6_cures_43 N n) (nI s) c a4 a4 (nI (cuW s)) ζ γ) v) : nr_V (O_X6_cures_43 N (n + 1) (nI s) c a4 ζ γ) (T_X6_cures_43 N (n + 1) (nI s) c a4 ζ γ) v := by
  rw [O_X6_cures_43, T_X6_cures_43]
  rcases (show s = 0 ∨ s = 1 ∨ s = 2 by omega) with rfl | rfl | rfl
  · exact V_neg h8 (V_pos (by decide) h)
  · exact V_neg h8 (V_neg (by decide) (V_pos (by decide) h))
  · exact V_neg h8 (V_neg (by decide) (V_neg (by decide) h))
theorem cu_loop {len A s : Nat} (hs : s < 3) {z0 ζ0 : Nat → Int32} {g0 γ0 : Nat → Nat → Int32} (B : tB len A z0 g0 ζ0 γ0) : ∀ (j r : Nat) (z : Nat → Int32) (g : Nat → Nat → Int32) (ζ : Nat → Int32) (γ : Nat → Nat → Int32) (c : Int32), r + j = 8 → cE z0 g0 z g → mE ζ0 γ0 ζ γ → ∃ n x z' g' ζ' γ', (∀ q, nr_V (O_X5_cures_44 9 (q + j + 1) (nI s) c (nI r) z g) (T_X5_cures_44 9 (q + j + 1) (nI s) c (nI r) z g) (x, z', g')) ∧ (∀ q m, nr_V (O_X6_cures_43 (m + n) (q + j + 1) (nI s) c (nI r) ζ γ) (T_X6_cures_43 (m + n) (q + j + 1) (nI s) c (nI r) ζ γ) (x, ζ', γ')) ∧ cE z0 g0 z' g' ∧ mE ζ0 γ0 ζ' γ'
  | 0, r, z, g, ζ, γ, c, hr, hz, hm => by
    refine ⟨0, c, z, g, ζ, γ, fun q => ?_, fun q m => ?_, hz, hm⟩
    · rw [O_X5_cures_44, T_X5_cures_44]
      exact V_pos (nI_le (a := 8) (by omega) (by omega)) (V_T rfl)
    · rw [O_X6_cures_43, T_X6_cures_43]
      exact V_pos (nI_le (a := 8) (by omega) (by omega)) (V_T rfl)
  | j + 1, r, z, g, ζ, γ, c, hr, hz, hm => by
    have nge : ¬ (8 : Int32) ≤ nI r := nI_ge (b := 8) (by omega) (by decide)
    obtain ⟨n2, x, z3, g3, ζ3, γ3, w1, w2, hz3, hm3⟩ := tri_with B hz hm (r := r) (w := cuW s) (v := 0) (by omega) (cuW_lt s).1 (cuW_lt s).2 (fun _ => rfl)
    have hp := ra_put (r := r) (w := cuW s) (by omega) (by have := (cuW_lt s).1; omega) 0 ζ γ
    obtain ⟨t1, t2⟩ := cu_at z g hs
    have kr := m_bring ζ3 γ3
    generalize va_up γ3 21 (mk_row (γ3 35) (γ3 21)) = γ4 at hm3 kr
    by_cases hx : x = 0
    · obtain ⟨n, y, z', g', ζ', γ', u5, u6, hz', hm'⟩ := cu_loop hs B j (r + 1) z3 g3 ζ3 γ4 (c ||| ((1 : Int32) <<< (nI r &&& 31))) (by omega) hz3 hm3
      refine ⟨n2 + n, y, z', g', ζ', γ', fun q => ?_, fun q m => ?_, hz', hm'⟩
      · rw [show q + (j + 1) + 1 = (q + j + 1) + 1 by omega, O_X5_cures_44, T_X5_cures_44, t1]
        have u := u5 q
        rw [← nI_1] at u
        exact V_neg nge (V_and t2 (V_wr w1 (V_pos hx u)))
      · rw [show q + (j + 1) + 1 = (q + j + 1) + 1 by omega]
        have u := u6 q (m + n2)
        have w := w2 (m + n)
        rw [← nI_1, show m + n2 + n = m + (n2 + n) by omega] at u
        rw [show m + n + n2 = m + (n2 + n) by omega] at w
        refine cu_43 hs nge ?_
        unfold O_X6_cures_71 T_X6_cures_71 O_X6_cures_91 T_X6_cures_91
        exact V_K hp (V_K w (V_pos hx (V_K kr u)))
    · obtain ⟨n, y, z', g', ζ', γ', u5, u6, hz', hm'⟩ := cu_loop hs B j (r + 1) z3 g3 ζ3 γ4 c (by omega) hz3 hm3
      refine ⟨n2 + n, y, z', g', ζ', γ', fun q => ?_, fun q m => ?_, hz', hm'⟩
      · rw [show q + (j + 1) + 1 = (q + j + 1) + 1 by omega, O_X5_cures_44, T_X5_cures_44, t1]
        have u := u5 q
        rw [← nI_1] at u
        exact V_neg nge (V_and t2 (V_wr w1 (V_neg hx u)))
      · rw [show q + (j + 1) + 1 = (q + j + 1) + 1 by omega]
        have u := u6 q (m + n2)
        have w := w2 (m + n)
        rw [← nI_1, show m + n2 + n = m + (n2 + n) by omega] at u
        rw [show m + n + n2 = m + (n2 + n) by omega] at w
        refine cu_43 hs nge ?_
        unfold O_X6_cures_71 T_X6_cures_71 O_X6_cures_91 T_X6_cures_91
        rw [Int32.or_zero]
        exact V_K hp (V_K w (V_neg hx (V_K kr u)))
theorem iJ_cures (a : Int32) : iJ (O_X5_cures 9 a) (T_X5_cures 9 a) (fun n => O_X6_cures n a) (fun n => T_X6_cures n a) := by
  intro z g ζ γ h
  have e32 : (3 : Int32) - 1 = 2 := by decide
  have ein : R_X6_in a.toInt64 0 2 = R_X5_within a 0 2 := pp_in a 0 2
  by_cases hw : R_X5_within a 0 2 = 0
  · obtain ⟨b1, b2, b3⟩ := iv_bad h (-2)
    refine iv_bad2 (O5 := O_X5_cures 9 a) (T5 := T_X5_cures 9 a) (O6 := fun n => O_X6_cures n a) (T6 := fun n => T_X6_cures n a) h ?_ (fun m => ?_)
    · unfold O_X5_cures T_X5_cures
      rw [e32]
      exact V_pos hw (V_K0 b1 (V_T rfl))
    · show nr_V (O_X6_cures m a ζ γ) (T_X6_cures m a ζ γ) _
      unfold O_X6_cures T_X6_cures
      exact V_pos (ein.trans hw) (V_K0 b2 (V_T rfl))
  · obtain ⟨s, s1, s2⟩ := pp_rng (N := 2) (by decide) hw
    subst s2
    have hw6 : ¬ R_X6_in (nI s).toInt64 0 2 = 0 := fun q => hw (ein.symm.trans q)
    obtain ⟨n, flt, z1, g1, ζ1, γ1, v1, v2, i1, c1, m1, hr⟩ := iv_read h
    by_cases hf : flt = -1
    · subst hf
      obtain ⟨len, A, hr, -⟩ := hr rfl
      obtain ⟨B, mk⟩ := tB_keep i1 hr
      have kk := m_keep ζ1 γ1
      generalize va_up γ1 35 (mk_row (γ1 21) (γ1 35)) = γ2 at B mk kk
      obtain ⟨n2, x, z', g', ζ3, γ3, w1, w2, c, m⟩ := cu_loop (s := s) (by omega) B 8 0 z1 g1 ζ1 γ2 0 (by omega) (cE.refl _ _) (mE.refl _ _)
      obtain ⟨j1, j2, j3⟩ := tB_back B c m
      refine ⟨n + n2, x, z', g', ζ3, γ3, ?_, fun m => ?_, j1, c1.trans j2, m1.trans (mk.trans j3)⟩
      · unfold O_X5_cures T_X5_cures
        rw [e32]
        exact V_neg hw (V_K v1 (V_pos rfl (w1 491)))
      · show nr_V (O_X6_cures (m + (n + n2)) (nI s) ζ γ) (T_X6_cures (m + (n + n2)) (nI s) ζ γ) _
        unfold O_X6_cures T_X6_cures
        have f1 := v2 (m + n2)
        have f2 := w2 491 (m + n)
        rw [show m + n2 + n = m + (n + n2) by omega] at f1
        rw [show m + n + n2 = m + (n + n2) by omega] at f2
        exact V_neg hw6 (V_K f1 (V_pos rfl (V_K kk f2)))
    · refine ⟨n, -10 - flt, z1, g1, ζ1, γ1, ?_, fun m => ?_, i1, c1, m1⟩
      · unfold O_X5_cures T_X5_cures
        rw [e32]
        exact V_neg hw (V_K v1 (V_neg hf (V_T rfl)))
      · show nr_V (O_X6_cures (m + n) (nI s) ζ γ) (T_X6_cures (m + n) (nI s) ζ γ) _
        unfold O_X6_cures T_X6_cures
        exact V_neg hw6 (V_K (v2 m) (V_neg hf (V_T rfl)))
