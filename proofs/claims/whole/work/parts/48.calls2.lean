/-! calls: of, keys, sets -/
section
variable {z ζ : Nat → Int32} {g γ : Nat → Nat → Int32} {r w : Nat}
theorem PZ_id (z : Nat → Int32) : PZ z 13 (z 10) (z 11) (z 12) = z := by
  unfold PZ
  rw [pp_up_self z (13 - 3) (z 10) rfl, pp_up_self z (13 - 2) (z 11) rfl, pp_up_self z (13 - 1) (z 12) rfl]
theorem PG_id (g : Nat → Nat → Int32) : PG g 1 13 (g 2) (g 14) (g 15) = g := by
  unfold PG
  rw [up_self g (1 + 1) (g 2) rfl, up_self g (13 + 1) (g 14) rfl, up_self g (13 + 2) (g 15) rfl]
theorem ho1 : nr_ho 1 := Or.inl rfl
theorem ta13 : nr_ta 13 := Or.inl rfl
theorem ih_c (h : iv_H g γ) (hr : r < 8) (hw : w < 7) (ζ : Nat → Int32) : R_X6_at (nI r) (nI w) ζ γ = g 2 (7 * r + w) ∧ O_X6_at (nI r) (nI w) ζ γ := by
  obtain ⟨a, b⟩ := ra_at hr hw ζ γ
  rw [a, h.1 _ (by omega)]
  exact ⟨rfl, b⟩
theorem ih_loud (h : iv_H g γ) (hr : r < 8) (ζ : Nat → Int32) : R_X6_loud (nI r) ζ γ = pl_loud (g 2 (7 * r)) (g 2 (7 * r + 6)) ∧ O_X6_loud (nI r) ζ γ := by
  obtain ⟨a0, b0⟩ := ih_c (w := 0) h hr (by decide) ζ
  obtain ⟨a6, b6⟩ := ih_c (w := 6) h hr (by decide) ζ
  have a0' : R_X6_at (nI r) 0 ζ γ = g 2 (7 * r) := a0
  have a6' : R_X6_at (nI r) 6 ζ γ = g 2 (7 * r + 6) := a6
  obtain ⟨k, k1, k2⟩ := h.2.1 r 0 hr (by decide)
  have k2' : g 2 (7 * r) = nI k := k2
  unfold R_X6_loud O_X6_loud R_X6_loudAs pl_loud
  rw [a0', a6', k2']
  refine ⟨?_, b0, b6, trivial⟩
  rcases (show k = 0 ∨ k = 1 ∨ k = 2 ∨ k = 3 ∨ k = 4 by omega) with rfl | rfl | rfl | rfl | rfl
  · rw [if_pos (by decide), if_neg (by decide), if_neg (by decide), if_neg (by decide), if_neg (by decide)]
  · rw [if_neg (by decide), if_pos (by decide), if_pos (by decide)]
  · rw [if_neg (by decide), if_neg (by decide), if_pos (by decide), if_neg (by decide), if_pos (by decide)]
  · rw [if_neg (show ¬ nI 3 = 0 by decide), if_neg (show ¬ nI 3 = 1 by decide), if_neg (show ¬ nI 3 = 2 by decide), if_pos (show nI 3 = 3 by decide), if_neg (show ¬ nI 3 = 1 by decide), if_neg (show ¬ nI 3 = 2 by decide), if_pos (show nI 3 = 3 by decide)]
  · rw [if_neg (by decide), if_neg (by decide), if_neg (by decide), if_neg (by decide), if_neg (by decide), if_neg (by decide), if_neg (by decide), if_pos (by decide)]
theorem ih_told (h : iv_H g γ) (hr : r < 8) (hw : w < 7) (ζ : Nat → Int32) : R_X6_toldOf (nI r) (nI w) ζ γ = g 2 (7 * r + w) ∧ O_X6_toldOf (nI r) (nI w) ζ γ := by
  obtain ⟨a, b⟩ := ih_c h hr hw ζ
  unfold R_X6_toldOf O_X6_toldOf
  by_cases e : w = 4
  · subst e
    obtain ⟨a3, b3⟩ := ih_c (w := 3) h hr (by decide) ζ
    have a3' : R_X6_at (nI r) 3 ζ γ = g 2 (7 * r + 3) := a3
    have a4' : R_X6_at (nI r) 4 ζ γ = g 2 (7 * r + 4) := a
    obtain ⟨k, k1, k2⟩ := h.2.1 r 3 hr (by decide)
    rw [if_pos (show nI 4 = 4 by decide), a3', a4']
    by_cases k0 : k = 0
    · have z3 : g 2 (7 * r + 3) = 0 := by rw [k2, k0]; rfl
      have l3 : g 2 (7 * r + 3) ≤ 0 := by rw [z3]; decide
      rw [if_pos l3, h.2.2.1 r hr z3]
      exact ⟨rfl, fun _ => ⟨b3, fun _ => trivial, fun q => absurd l3 q⟩, fun q => absurd rfl q⟩
    · have l3 : ¬ g 2 (7 * r + 3) ≤ 0 := by rw [k2]; exact nI_nle (by omega) (by omega)
      rw [if_neg l3]
      exact ⟨rfl, fun _ => ⟨b3, fun q => absurd q l3, fun _ => ⟨b, trivial⟩⟩, fun q => absurd rfl q⟩
  · have m1 : ¬ nI w = (4 : Int32) := fun q => e ((nI_eq (b := 4) (by omega) (by decide)).mp q)
    have m2 : ¬ nI w = (7 : Int32) := fun q => absurd ((nI_eq (b := 7) (by omega) (by decide)).mp q) (by omega)
    rw [if_neg m1, if_neg m2, a]
    exact ⟨rfl, fun q => absurd q m1, fun _ => ⟨fun q => absurd q m2, fun _ => ⟨b, trivial⟩⟩⟩
theorem ic_loud (hr : r < 8) (z : Nat → Int32) (g : Nat → Nat → Int32) : R_X0_loudness 1 (nI r) z g = pl_loud (g 2 (7 * r)) (g 2 (7 * r + 6)) ∧ O_X0_loudness 1 (nI r) z g := by
  have k := cp_loud (z := z) (g := g) (f := g 2) (fa := g 14) (en := g 15) (wr := z 10) (inn := z 11) (dr := z 12) ho1 ta13 hr
  rw [PZ_id, PG_id] at k
  exact k
theorem iv_bad2 (h : iv z g ζ γ) {O5 : (Nat → Int32) → (Nat → Nat → Int32) → Prop} {T5 : (Nat → Int32) → (Nat → Nat → Int32) → Int32 × nr_S} {O6 : Nat → (Nat → Int32) → (Nat → Nat → Int32) → Prop} {T6 : Nat → (Nat → Int32) → (Nat → Nat → Int32) → Int32 × nr_S} (k5 : nr_V (O5 z g) (T5 z g) (-2, va_up z 0 (z 0 + 1), g)) (k6 : ∀ m, nr_V (O6 m ζ γ) (T6 m ζ γ) (-2, ζ, va_up γ 23 (upd (γ 23) 0 (z 0 + 1)))) : ∃ n x z' g' ζ' γ', nr_V (O5 z g) (T5 z g) (x, z', g') ∧ (∀ m, nr_V (O6 (m + n) ζ γ) (T6 (m + n) ζ γ) (x, ζ', γ')) ∧ iv z' g' ζ' γ' ∧ cF z g z' g' ∧ mF ζ γ ζ' γ' := ⟨0, -2, _, _, _, _, k5, fun m => k6 m, (iv_bad h (-2)).2.2, cF.up1 (by decide) _, mF.up2 (by decide) _⟩
end
theorem iJ_of (a b : Int32) : iJ (O_X5_of a b) (T_X5_of a b) (fun _ => O_X6_of a b) (fun _ => T_X6_of a b) := by
  intro z g ζ γ h
  have e1 : R_X6_isRoom a = R_X5_isRoom a := pp_in a 0 7
  have e2 : R_X6_in b.toInt64 0 7 = R_X5_within b 0 7 := pp_in b 0 7
  obtain ⟨b1, b2, b3⟩ := iv_bad h (-2)
  have k17 : nr_V (O_X5_of_17 z g) (T_X5_of_17 z g) (-2, va_up z 0 (z 0 + 1), g) := V_K0 b1 (V_T rfl)
  have k28 : nr_V (O_X6_of_28 ζ γ) (T_X6_of_28 ζ γ) (-2, ζ, va_up γ 23 (upd (γ 23) 0 (z 0 + 1))) := V_K0 b2 (V_T rfl)
  by_cases h1 : R_X5_isRoom a = 0
  · refine iv_bad2 (O5 := O_X5_of a b) (T5 := T_X5_of a b) (O6 := fun _ => O_X6_of a b) (T6 := fun _ => T_X6_of a b) h ?_ (fun m => ?_)
    · unfold O_X5_of T_X5_of; exact V_pos h1 k17
    · show nr_V (O_X6_of a b ζ γ) (T_X6_of a b ζ γ) _
      unfold O_X6_of T_X6_of; exact V_pos (e1.trans h1) k28
  · by_cases h2 : R_X5_within b 0 7 = 0
    · refine iv_bad2 (O5 := O_X5_of a b) (T5 := T_X5_of a b) (O6 := fun _ => O_X6_of a b) (T6 := fun _ => T_X6_of a b) h ?_ (fun m => ?_)
      · unfold O_X5_of T_X5_of; exact V_neg h1 (V_pos h2 k17)
      · show nr_V (O_X6_of a b ζ γ) (T_X6_of a b ζ γ) _
        unfold O_X6_of T_X6_of; exact V_neg (fun q => h1 (e1.symm.trans q)) (V_pos (e2.trans h2) k28)
    · obtain ⟨r, r1, r2⟩ := pp_rng (N := 7) (by decide) h1
      obtain ⟨w, w1, w2⟩ := pp_rng (N := 7) (by decide) h2
      subst r2
      subst w2
      have hr : r < 8 := by omega
      by_cases w7 : w = 7
      · subst w7
        obtain ⟨c1, c2⟩ := ic_loud hr z g
        obtain ⟨m1, m2⟩ := ih_loud h.1 hr ζ
        refine ⟨0, pl_loud (g 2 (7 * r)) (g 2 (7 * r + 6)), z, g, ζ, γ, ?_, fun m => ?_, h, cF.refl _ _, mF.refl _ _⟩
        · unfold O_X5_of T_X5_of
          rw [c1]
          exact V_neg h1 (V_neg h2 (V_pos rfl (V_and c2 (V_T rfl))))
        · show nr_V (O_X6_of (nI r) (nI 7) ζ γ) (T_X6_of (nI r) (nI 7) ζ γ) _
          unfold O_X6_of T_X6_of R_X6_toldOf O_X6_toldOf
          rw [if_neg (show ¬ nI 7 = 4 by decide), if_pos (show nI 7 = 7 by decide), m1]
          exact V_neg (fun q => h1 (e1.symm.trans q)) (V_neg (fun q => h2 (e2.symm.trans q)) (V_and ⟨fun q => absurd q (by decide), fun _ => ⟨fun _ => ⟨m2, trivial⟩, fun q => absurd rfl q⟩⟩ (V_T rfl)))
      · obtain ⟨c1, c2⟩ := cp_cell 1 hr (w := w) (by omega) z g
        have n7 : ¬ nI w = (7 : Int32) := fun q => w7 ((nI_eq (b := 7) (by omega) (by decide)).mp q)
        obtain ⟨m1, m2⟩ := ih_told h.1 hr (w := w) (by omega) ζ
        refine ⟨0, g 2 (7 * r + w), z, g, ζ, γ, ?_, fun m => ?_, h, cF.refl _ _, mF.refl _ _⟩
        · unfold O_X5_of T_X5_of
          rw [c1]
          exact V_neg h1 (V_neg h2 (V_neg n7 (V_and c2 (V_T rfl))))
        · show nr_V (O_X6_of (nI r) (nI w) ζ γ) (T_X6_of (nI r) (nI w) ζ γ) _
          unfold O_X6_of T_X6_of
          rw [m1]
          exact V_neg (fun q => h1 (e1.symm.trans q)) (V_neg (fun q => h2 (e2.symm.trans q)) (V_and m2 (V_T rfl)))
theorem rk_even : ∀ k, k < 15 → ((nI k &&& 1) = 0 ∧ ¬ nr_rem (nI k) 2 = 1 ∧ ∃ j, j < 8 ∧ nI k = nI (2 * j)) ∨ (¬ (nI k &&& 1) = 0 ∧ nr_rem (nI k) 2 = 1) := by decide +kernel
theorem iJ_keys (a : Int32) : iJ (O_X5_keys a) (T_X5_keys a) (fun _ => O_X6_keys a) (fun _ => T_X6_keys a) := by
  intro z g ζ γ h
  have e1 : R_X6_in a.toInt64 0 14 = R_X5_within a 0 14 := pp_in a 0 14
  obtain ⟨b1, b2, b3⟩ := iv_bad h (-2)
  have k16 : nr_V (O_X5_keys_16 z g) (T_X5_keys_16 z g) (-2, va_up z 0 (z 0 + 1), g) := V_K0 b1 (V_T rfl)
  have k19 : nr_V (O_X6_keys_19 ζ γ) (T_X6_keys_19 ζ γ) (-2, ζ, va_up γ 23 (upd (γ 23) 0 (z 0 + 1))) := V_K0 b2 (V_T rfl)
  by_cases h1 : R_X5_within a 0 14 = 0
  · refine iv_bad2 (O5 := O_X5_keys a) (T5 := T_X5_keys a) (O6 := fun _ => O_X6_keys a) (T6 := fun _ => T_X6_keys a) h ?_ (fun m => ?_)
    · unfold O_X5_keys T_X5_keys; exact V_pos h1 k16
    · show nr_V (O_X6_keys a ζ γ) (T_X6_keys a ζ γ) _
      unfold O_X6_keys T_X6_keys; exact V_pos (e1.trans h1) k19
  · obtain ⟨k, k1, k2⟩ := pp_rng (N := 14) (by decide) h1
    subst k2
    rcases rk_even k (by omega) with ⟨q1, q2, j, j1, j2⟩ | ⟨q1, q2⟩
    · obtain ⟨H, c1, c2, c3, c4⟩ := h.2.1
      obtain ⟨p, P, H', n1, n2, n3, n4⟩ := iv_keep c1 c2 c3 c4 h.1.1 h.1.2
      have I := iv_h (iv_n h n1 n4) (f := upd (g 2) 56 (nI k)) (k := upd (γ 21) 56 (nI k)) (fun i hi => by
        by_cases e : i = 56
        · rw [e, pk_us, pk_us]
        · rw [pk_un e, pk_un e]; exact h.1.1 i hi) (by rw [j2]; exact rW_keys h.1.2 j1)
      refine ⟨0, g 2 56, _, _, _, _, ?_, fun m => ?_, I, ((cF.up1 (by decide) _).trans (cF.up2 (by decide) _)).trans (cF.up2 (by decide) _), ((mF.up1 (by decide) _).trans (mF.up2 (by decide) _)).trans (mF.up2 (by decide) _)⟩
      · unfold O_X5_keys T_X5_keys
        refine V_neg h1 (V_pos q1 (V_K1 n2 (V_K0 (r := 0) (z := va_up z 3 (nI H')) (g := va_up (va_up g 6 p) 2 (upd (g 2) 56 (nI k))) ?_ (V_T rfl))))
        unfold T_X0_giveKeys
        rw [show (56 : Int32) = nI 56 from rfl, pp_st_lit (by decide), pp_up_ne _ _ (by decide)]
      · show nr_V (O_X6_keys (nI k) ζ γ) (T_X6_keys (nI k) ζ γ) _
        unfold O_X6_keys T_X6_keys
        refine V_neg (fun q => h1 (e1.symm.trans q)) (V_neg q2 (V_K1 n3 (V_T ?_)))
        rw [show (56 : Int32) = nI 56 from rfl, pp_st_lit (by decide), nI_clamp (by decide), pp_up_ne _ _ (by decide), h.1.1 56 (by decide)]
    · refine iv_bad2 (O5 := O_X5_keys (nI k)) (T5 := T_X5_keys (nI k)) (O6 := fun _ => O_X6_keys (nI k)) (T6 := fun _ => T_X6_keys (nI k)) h ?_ (fun m => ?_)
      · unfold O_X5_keys T_X5_keys; exact V_neg h1 (V_neg q1 k16)
      · show nr_V (O_X6_keys (nI k) ζ γ) (T_X6_keys (nI k) ζ γ) _
        unfold O_X6_keys T_X6_keys; exact V_neg (fun q => h1 (e1.symm.trans q)) (V_pos q2 k19)
