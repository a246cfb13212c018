/-! calls: dusk, count -/
section
variable {z ζ : Nat → Int32} {g γ : Nat → Nat → Int32}
theorem ih_rooms {w : Nat} (h : iv_H g γ) (hw : w = 4 ∨ w = 5) (z ζ : Nat → Int32) : ∀ (n p : Nat) (x : Int32), 8 < n + p → p ≤ 8 → O_X0_roomsWith_4 1 n (nI w) x (nI p) z g ∧ (w = 4 → O_X6_awake_4 n x (nI p) ζ γ ∧ R_X6_awake_4 n x (nI p) ζ γ = R_X0_roomsWith_4 1 n (nI w) x (nI p) z g) ∧ (w = 5 → O_X6_lamps_4 n x (nI p) ζ γ ∧ R_X6_lamps_4 n x (nI p) ζ γ = R_X0_roomsWith_4 1 n (nI w) x (nI p) z g)
  | 0, p, x, hn, hp => absurd hn (by omega)
  | n + 1, p, x, hn, hp => by
    rw [O_X0_roomsWith_4, R_X0_roomsWith_4, O_X6_awake_4, R_X6_awake_4, O_X6_lamps_4, R_X6_lamps_4]
    by_cases e : p = 8
    · subst e
      have q8 : (8 : Int32) ≤ nI 8 := by decide
      rw [if_pos q8, if_pos q8, if_pos q8]
      exact ⟨⟨fun _ => trivial, fun q => absurd q8 q⟩, fun _ => ⟨⟨fun _ => trivial, fun q => absurd q8 q⟩, rfl⟩, fun _ => ⟨⟨fun _ => trivial, fun q => absurd q8 q⟩, rfl⟩⟩
    · have q8 : ¬ (8 : Int32) ≤ nI p := nI_ge (b := 8) (by omega) (by decide)
      have hp8 : p < 8 := by omega
      have hw7 : w < 7 := by omega
      obtain ⟨c1, c2⟩ := cp_cell 1 hp8 hw7 z g
      have cw01 : g 2 (7 * p + w) = 0 ∨ g 2 (7 * p + w) = 1 := by
        rcases hw with rfl | rfl
        · exact h.2.1 p 4 hp8 (by decide)
        · exact h.2.1 p 5 hp8 (by decide)
      rw [if_neg q8, if_neg q8, if_neg q8, c1, nI_1]
      have step : ∀ (A : Int32 → Int32), (if g 2 (7 * p + w) = 0 then A x else A (x + 1)) = A (x + g 2 (7 * p + w)) := by
        intro A
        rcases cw01 with q | q
        · rw [q, if_pos rfl]; simp
        · rw [q, if_neg (by decide)]
      have es := step (fun y => R_X0_roomsWith_4 1 n (nI w) y (nI (p + 1)) z g)
      rw [es]
      have ih := ih_rooms h hw z ζ n (p + 1) (x + g 2 (7 * p + w)) (by omega) (by omega)
      refine ⟨⟨fun q => absurd q q8, fun _ => ⟨c2, fun q => ?_, fun q => ?_⟩⟩, fun w4 => ?_, fun w5 => ?_⟩
      · have := ih.1
        rw [q] at this
        simpa using this
      · have := ih.1
        rw [cw01.resolve_left q] at this
        exact this
      · subst w4
        obtain ⟨m1, m2⟩ := ih_told h hp8 (w := 4) (by decide) ζ
        have m1' : R_X6_toldOf (nI p) 4 ζ γ = g 2 (7 * p + 4) := m1
        rw [m1']
        exact ⟨⟨fun q => absurd q q8, fun _ => ⟨m2, (ih.2.1 rfl).1⟩⟩, (ih.2.1 rfl).2⟩
      · subst w5
        obtain ⟨m1, m2⟩ := ih_c h hp8 (w := 5) (by decide) ζ
        have m1' : R_X6_at (nI p) 5 ζ γ = g 2 (7 * p + 5) := m1
        rw [m1']
        exact ⟨⟨fun q => absurd q q8, fun _ => ⟨m2, (ih.2.2 rfl).1⟩⟩, (ih.2.2 rfl).2⟩
theorem ih_awake (h : iv_H g γ) (z ζ : Nat → Int32) : O_X0_roomsWith 1 4 z g ∧ O_X6_awake ζ γ ∧ R_X6_awake ζ γ = R_X0_roomsWith 1 4 z g := by
  obtain ⟨a, b, _⟩ := ih_rooms h (w := 4) (Or.inl rfl) z ζ 500 0 0 (by decide) (by decide)
  exact ⟨a, (b rfl).1, (b rfl).2⟩
theorem ih_lamps (h : iv_H g γ) (z ζ : Nat → Int32) : O_X0_roomsWith 1 5 z g ∧ O_X6_lamps ζ γ ∧ R_X6_lamps ζ γ = R_X0_roomsWith 1 5 z g := by
  obtain ⟨a, _, b⟩ := ih_rooms h (w := 5) (Or.inr rfl) z ζ 500 0 0 (by decide) (by decide)
  exact ⟨a, (b rfl).1, (b rfl).2⟩
theorem rW_45 {f : Nat → Int32} (h : rW f) {r : Nat} (hr : r < 8) : rW (upd (upd f (7 * r + 4) 0) (7 * r + 5) 0) := by
  have h4 : rW (upd f (7 * r + 4) 0) := by
    obtain ⟨a, b, k, c, e⟩ := h
    refine ⟨fun r1 w1 hr1 hw1 => ?_, fun r1 hr1 q => ?_, k, c, by rw [pk_un (by omega)]; exact e⟩
    · by_cases e1 : 7 * r1 + w1 = 7 * r + 4
      · have : w1 = 4 := by omega
        subst this
        rw [e1, pk_us]; exact Or.inl rfl
      · rw [pk_un e1]; exact a r1 w1 hr1 hw1
    · rw [pk_un (by omega)] at q
      by_cases e1 : r1 = r
      · rw [e1, pk_us]
      · rw [pk_un (by omega)]; exact b r1 hr1 q
  exact rW_upd h4 hr (by decide) (Or.inl rfl) (by decide) (fun q => absurd q (by decide))
theorem ih_settle (x : Int32) (z ζ : Nat → Int32) : ∀ (n p : Nat) (g γ : Nat → Nat → Int32), 8 < n + p → p ≤ 8 → (∀ i, i < 58 → γ 21 i = g 2 i) → rW (g 2) → ∃ f k, nr_V (O_X0_settle_2 1 n (nI p) z g) (T_X0_settle_2 1 n (nI p) z g) (0, z, va_up g 2 f) ∧ nr_V (O_X6_dusk_11 n x (nI p) ζ γ) (T_X6_dusk_11 n x (nI p) ζ γ) (x, ζ, va_up γ 21 k) ∧ (∀ i, i < 58 → k i = f i) ∧ rW f
  | 0, p, g, γ, hn, hp, _, _ => absurd hn (by omega)
  | n + 1, p, g, γ, hn, hp, hE, hW => by
    rw [O_X0_settle_2, T_X0_settle_2, O_X6_dusk_11, T_X6_dusk_11]
    by_cases e : p = 8
    · subst e
      exact ⟨g 2, γ 21, V_pos (by decide) (V_T (by rw [up_self g 2 _ rfl])), V_pos (by decide) (V_T (by rw [up_self γ 21 _ rfl])), hE, hW⟩
    · have q8 : ¬ (8 : Int32) ≤ nI p := nI_ge (b := 8) (by omega) (by decide)
      have hp8 : p < 8 := by omega
      have s1 := cp_set 1 hp8 (w := 4) (by decide) 0 z g
      have s2 := cp_set 1 hp8 (w := 5) (by decide) 0 z (va_up g 2 (upd (g 2) (7 * p + 4) 0))
      rw [pp_up_eq (i := 1 + 1), up_up] at s2
      have t1 := ra_put hp8 (w := 4) (by decide) 0 ζ γ
      have t2 := ra_put hp8 (w := 5) (by decide) 0 ζ (va_up γ 21 (upd (γ 21) (7 * p + 4) 0))
      rw [pp_up_eq, up_up] at t2
      obtain ⟨f, k, v1, v2, v3, v4⟩ := ih_settle x z ζ n (p + 1) (va_up g 2 (upd (upd (g 2) (7 * p + 4) 0) (7 * p + 5) 0)) (va_up γ 21 (upd (upd (γ 21) (7 * p + 4) 0) (7 * p + 5) 0)) (by omega) (by omega) (by
        intro i hi
        rw [pp_up_eq, pp_up_eq]
        by_cases q1 : i = 7 * p + 5
        · rw [q1, pk_us, pk_us]
        · rw [pk_un q1, pk_un q1]
          by_cases q2 : i = 7 * p + 4
          · rw [q2, pk_us, pk_us]
          · rw [pk_un q2, pk_un q2]; exact hE i hi) (by rw [pp_up_eq]; exact rW_45 hW hp8)
      rw [up_up] at v1 v2
      rw [nI_1]
      exact ⟨f, k, V_neg q8 (V_K s1 (V_K s2 v1)), V_neg q8 (V_K t1 (V_K t2 v2)), v3, v4⟩
end
theorem iJ_dusk : iJ O_X5_dusk T_X5_dusk (fun _ => O_X6_dusk) (fun _ => T_X6_dusk) := by
  intro z g ζ γ h
  obtain ⟨H, c1, c2, c3, c4⟩ := h.2.1
  obtain ⟨p, P, H', n1, n2, n3, n4⟩ := iv_keep c1 c2 c3 c4 h.1.1 h.1.2
  obtain ⟨a1, a2, a3⟩ := ih_awake h.1 z ζ
  have I1 := iv_n h n1 n4
  obtain ⟨f, k, v1, v2, v3, v4⟩ := ih_settle (R_X0_roomsWith 1 4 z g) (va_up z 3 (nI H')) (va_up ζ 20 (nI H')) 500 0 (va_up g 6 p) (va_up γ 22 P) (by decide) (by decide) I1.1.1 I1.1.2
  have I2 := iv_h I1 v3 v4
  refine ⟨0, R_X0_roomsWith 1 4 z g, _, _, _, _, ?_, fun m => ?_, I2, ((cF.up1 (by decide) _).trans (cF.up2 (by decide) _)).trans (cF.up2 (by decide) _), ((mF.up1 (by decide) _).trans (mF.up2 (by decide) _)).trans (mF.up2 (by decide) _)⟩
  · unfold O_X5_dusk T_X5_dusk
    exact V_and a1 (V_K n2 (V_K1 v1 (V_T rfl)))
  · show nr_V (O_X6_dusk ζ γ) (T_X6_dusk ζ γ) _
    unfold O_X6_dusk T_X6_dusk
    rw [a3]
    exact V_and a2 (V_K n3 v2)
