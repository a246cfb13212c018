/-! calls: sets, dusk, count -/
theorem rW_slp {f : Nat → Int32} (h : rW f) {r : Nat} (hr : r < 8) {v : Int32} (hv : ∃ k, k ≤ 9 ∧ v = nI k) : rW (upd (upd f (7 * r + 3) v) (7 * r + 4) 0) := by
  obtain ⟨a, b, k, c, e⟩ := h
  refine ⟨fun r1 w1 hr1 hw1 => ?_, fun r1 hr1 q => ?_, k, c, ?_⟩
  · by_cases e1 : 7 * r1 + w1 = 7 * r + 4
    · have : w1 = 4 := by omega
      subst this
      rw [e1, pk_us]; exact Or.inl rfl
    · rw [pk_un e1]
      by_cases e2 : 7 * r1 + w1 = 7 * r + 3
      · have : w1 = 3 := by omega
        subst this
        rw [e2, pk_us]; exact hv
      · rw [pk_un e2]; exact a r1 w1 hr1 hw1
  · by_cases e1 : r1 = r
    · rw [e1, pk_us]
    · rw [pk_un (by omega), pk_un (by omega)] at q ⊢
      exact b r1 hr1 q
  · rw [pk_un (by omega), pk_un (by omega)]; exact e
theorem rk_most (z : Nat → Int32) (g : Nat → Nat → Int32) : ∀ w, w < 4 → R_X5_at 40 (nI w) z g = [(4 : Int32), 3, 3, 9].getD w 0 ∧ O_X5_at 40 (nI w) z g := by
  intro w hw
  have n1 : ¬ nI w < 0 := nI_pos (by omega)
  have n2 : ¬ Int32.ofNat (nr_rl 40) ≤ nI w := nI_ge (b := 4) hw (by decide)
  unfold R_X5_at O_X5_at nr_rd
  rw [if_neg n1, if_neg n2, if_neg (by decide), nI_clamp (by omega)]
  exact ⟨rfl, fun q => absurd q n1, fun _ => ⟨by decide, fun q => absurd q n2, fun _ => ⟨by decide, vp_in_nI (N := 4) hw (by decide), trivial⟩⟩⟩
theorem iJ_sets (a b c : Int32) : iJ (O_X5_sets a b c) (T_X5_sets a b c) (fun _ => O_X6_sets a b c) (fun _ => T_X6_sets a b c) := by
  intro z g ζ γ h
  have e1 : R_X6_isRoom a = R_X5_isRoom a := pp_in a 0 7
  have e2 : R_X6_in b.toInt64 0 3 = R_X5_within b 0 3 := pp_in b 0 3
  obtain ⟨b1, b2, b3⟩ := iv_bad h (-2)
  have k31 : nr_V (O_X5_sets_31 z g) (T_X5_sets_31 z g) (-2, va_up z 0 (z 0 + 1), g) := V_K0 b1 (V_T rfl)
  have k52 : nr_V (O_X6_sets_52 ζ γ) (T_X6_sets_52 ζ γ) (-2, ζ, va_up γ 23 (upd (γ 23) 0 (z 0 + 1))) := V_K0 b2 (V_T rfl)
  have k19 : ∀ {v : Int32 × nr_S}, (∀ s0, (b = 0 → s0 = 4) → (b = 3 → s0 = 9) → (¬ b = 0 → ¬ b = 3 → s0 = 3) → nr_V (O_X6_sets_19 a b c s0 ζ γ) (T_X6_sets_19 a b c s0 ζ γ) v) → nr_V (O_X6_sets a b c ζ γ) (T_X6_sets a b c ζ γ) v := by
    intro v kv
    unfold O_X6_sets T_X6_sets
    by_cases q0 : b = 0
    · exact V_pos q0 (kv 4 (fun _ => rfl) (fun q => by rw [q0] at q; exact absurd q (by decide)) (fun q => absurd q0 q))
    · by_cases q3 : b = 3
      · exact V_neg q0 (V_pos q3 (kv 9 (fun q => absurd q q0) (fun _ => rfl) (fun _ q => absurd q3 q)))
      · exact V_neg q0 (V_neg q3 (kv 3 (fun q => absurd q q0) (fun q => absurd q q3) (fun _ _ => rfl)))
  by_cases h1 : R_X5_isRoom a = 0
  · refine iv_bad2 (O5 := O_X5_sets a b c) (T5 := T_X5_sets a b c) (O6 := fun _ => O_X6_sets a b c) (T6 := fun _ => T_X6_sets a b c) h ?_ (fun m => k19 (fun s0 _ _ _ => ?_))
    · unfold O_X5_sets T_X5_sets; exact V_pos h1 k31
    · unfold O_X6_sets_19 T_X6_sets_19; exact V_pos (e1.trans h1) k52
  have h1' : ¬ R_X6_isRoom a = 0 := fun q => h1 (e1.symm.trans q)
  by_cases h2 : R_X5_within b 0 3 = 0
  · refine iv_bad2 (O5 := O_X5_sets a b c) (T5 := T_X5_sets a b c) (O6 := fun _ => O_X6_sets a b c) (T6 := fun _ => T_X6_sets a b c) h ?_ (fun m => k19 (fun s0 _ _ _ => ?_))
    · unfold O_X5_sets T_X5_sets; exact V_neg h1 (V_pos h2 k31)
    · unfold O_X6_sets_19 T_X6_sets_19; exact V_neg h1' (V_pos (e2.trans h2) k52)
  have h2' : ¬ R_X6_in b.toInt64 0 3 = 0 := fun q => h2 (e2.symm.trans q)
  obtain ⟨r, r1, r2⟩ := pp_rng (N := 7) (by decide) h1
  obtain ⟨w, w1, w2⟩ := pp_rng (N := 3) (by decide) h2
  subst r2
  subst w2
  have hr : r < 8 := by omega
  obtain ⟨t1, t2⟩ := rk_most z g w (by omega)
  have es : ∀ s0 : Int32, (nI w = 0 → s0 = 4) → (nI w = 3 → s0 = 9) → (¬ nI w = 0 → ¬ nI w = 3 → s0 = 3) → s0 = [(4 : Int32), 3, 3, 9].getD w 0 := by
    intro s0 p0 p3 p1
    rcases (show w = 0 ∨ w = 1 ∨ w = 2 ∨ w = 3 by omega) with rfl | rfl | rfl | rfl
    · exact p0 (by decide)
    · exact p1 (by decide) (by decide)
    · exact p1 (by decide) (by decide)
    · exact p3 (by decide)
  by_cases h3 : R_X5_within c 0 ([(4 : Int32), 3, 3, 9].getD w 0) = 0
  · refine iv_bad2 (O5 := O_X5_sets (nI r) (nI w) c) (T5 := T_X5_sets (nI r) (nI w) c) (O6 := fun _ => O_X6_sets (nI r) (nI w) c) (T6 := fun _ => T_X6_sets (nI r) (nI w) c) h ?_ (fun m => k19 (fun s0 p0 p3 p1 => ?_))
    · unfold O_X5_sets T_X5_sets
      rw [t1]
      exact V_neg h1 (V_neg h2 (V_and t2 (V_pos h3 k31)))
    · unfold O_X6_sets_19 T_X6_sets_19
      rw [es s0 p0 p3 p1]
      exact V_neg h1' (V_neg h2' (V_pos ((pp_in c 0 _).trans h3) k52))
  · obtain ⟨H, c1, c2, c3, c4⟩ := h.2.1
    obtain ⟨p, P, H', n1, n2, n3, n4⟩ := iv_keep c1 c2 c3 c4 h.1.1 h.1.2
    have I1 := iv_n h n1 n4
    obtain ⟨d1, d2⟩ := cp_cell 1 hr (w := w) (by omega) z g
    obtain ⟨m1, m2⟩ := ih_c I1.1 hr (w := w) (by omega) (va_up ζ 20 (nI H'))
    rw [pp_up_ne _ _ (by decide)] at m1
    have s5 := cp_set 1 hr (w := w) (by omega) c (va_up z 3 (nI H')) (va_up g 6 p)
    have s6 := ra_put hr (w := w) (by omega) c (va_up ζ 20 (nI H')) (va_up γ 22 P)
    rw [pp_up_ne (i := 6) (j := 1 + 1) _ _ (by decide)] at s5
    rw [pp_up_ne (i := 22) (j := 21) _ _ (by decide)] at s6
    have h3' : ¬ R_X6_in c.toInt64 0 ([(4 : Int32), 3, 3, 9].getD w 0).toInt64 = 0 := fun q => h3 ((pp_in c 0 _).symm.trans q)
    by_cases w3 : w = 3
    · subst w3
      obtain ⟨k, kk1, kk2⟩ := pp_rng (N := 9) (a := c) (by decide) h3
      have s5b := cp_set 1 hr (w := 4) (by decide) 0 (va_up z 3 (nI H')) (va_up (va_up g 6 p) 2 (upd (g 2) (7 * r + 3) c))
      have s6b := ra_put hr (w := 4) (by decide) 0 (va_up ζ 20 (nI H')) (va_up (va_up γ 22 P) 21 (upd (γ 21) (7 * r + 3) c))
      rw [pp_up_eq (i := 1 + 1), up_up] at s5b
      rw [pp_up_eq, up_up] at s6b
      have I2 := iv_h I1 (f := upd (upd (g 2) (7 * r + 3) c) (7 * r + 4) 0) (k := upd (upd (γ 21) (7 * r + 3) c) (7 * r + 4) 0) (fun i hi => by
        by_cases q1 : i = 7 * r + 4
        · rw [q1, pk_us, pk_us]
        · rw [pk_un q1, pk_un q1]
          by_cases q2 : i = 7 * r + 3
          · rw [q2, pk_us, pk_us]
          · rw [pk_un q2, pk_un q2]; exact h.1.1 i hi) (rW_slp h.1.2 hr ⟨k, kk1, kk2⟩)
      refine ⟨0, g 2 (7 * r + 3), _, _, _, _, ?_, fun m => k19 (fun s0 p0 p3 p1 => ?_), I2, ((cF.up1 (by decide) _).trans (cF.up2 (by decide) _)).trans (cF.up2 (by decide) _), ((mF.up1 (by decide) _).trans (mF.up2 (by decide) _)).trans (mF.up2 (by decide) _)⟩
      · unfold O_X5_sets T_X5_sets O_X0_change T_X0_change
        rw [t1, d1]
        exact V_neg h1 (V_neg h2 (V_and t2 (V_neg h3 (V_and d2 (V_K n2 (V_K1 (V_K s5 (V_pos rfl (V_K1 s5b (V_T rfl)))) (V_T rfl)))))))
      · unfold O_X6_sets_19 T_X6_sets_19
        rw [es s0 p0 p3 p1]
        refine V_neg h1' (V_neg h2' (V_neg h3' (V_K n3 (V_and m2 (V_K s6 (V_pos rfl (V_K1 s6b (V_T ?_))))))))
        rw [m1]
    · have n33 : ¬ nI w = (3 : Int32) := fun q => w3 ((nI_eq (b := 3) (by omega) (by decide)).mp q)
      have I2 := iv_h I1 (f := upd (g 2) (7 * r + w) c) (k := upd (γ 21) (7 * r + w) c) (fun i hi => by
        by_cases q1 : i = 7 * r + w
        · rw [q1, pk_us, pk_us]
        · rw [pk_un q1, pk_un q1]; exact h.1.1 i hi) (rW_upd h.1.2 hr (by omega) (by
          rcases (show w = 0 ∨ w = 1 ∨ w = 2 by omega) with rfl | rfl | rfl
          · exact pp_rng (N := 4) (a := c) (by decide) h3
          · exact pp_rng (N := 3) (a := c) (by decide) h3
          · exact pp_rng (N := 3) (a := c) (by decide) h3) w3 (fun q => absurd q (by omega)))
      refine ⟨0, g 2 (7 * r + w), _, _, _, _, ?_, fun m => k19 (fun s0 p0 p3 p1 => ?_), I2, ((cF.up1 (by decide) _).trans (cF.up2 (by decide) _)).trans (cF.up2 (by decide) _), ((mF.up1 (by decide) _).trans (mF.up2 (by decide) _)).trans (mF.up2 (by decide) _)⟩
      · unfold O_X5_sets T_X5_sets O_X0_change T_X0_change
        rw [t1, d1]
        exact V_neg h1 (V_neg h2 (V_and t2 (V_neg h3 (V_and d2 (V_K n2 (V_K1 (V_K s5 (V_neg n33 (V_T rfl))) (V_T rfl)))))))
      · unfold O_X6_sets_19 T_X6_sets_19
        rw [es s0 p0 p3 p1]
        refine V_neg h1' (V_neg h2' (V_neg h3' (V_K n3 (V_and m2 (V_K s6 (V_neg n33 (V_T ?_)))))))
        rw [m1]
