/-! calls: count, draw -/
theorem iJ_count (a : Int32) : iJ (O_X5_count a) (T_X5_count a) (fun _ => O_X6_count a) (fun _ => T_X6_count a) := by
  intro z g ζ γ h
  have ein : R_X6_in a.toInt64 0 8 = R_X5_within a 0 8 := pp_in a 0 8
  by_cases hw : R_X5_within a 0 8 = 0
  · obtain ⟨b1, b2, b3⟩ := iv_bad h (-2)
    have ne : ∀ k, k < 9 → ¬ a = nI k := fun k hk q => by
      have e : R_X5_within a 0 8 = 1 := by
        rw [q]; exact pp_wy ⟨nI_le (a := 0) (by omega) (by omega), nI_le (b := 8) (by omega) (by decide)⟩
      rw [e] at hw
      exact absurd hw (by decide)
    refine iv_bad2 (O5 := O_X5_count a) (T5 := T_X5_count a) (O6 := fun _ => O_X6_count a) (T6 := fun _ => T_X6_count a) h ?_ (fun m => ?_)
    · unfold O_X5_count T_X5_count
      exact V_neg (ne 0 (by decide)) (V_neg (ne 1 (by decide)) (V_neg (ne 2 (by decide)) (V_neg (ne 3 (by decide)) (V_neg (ne 4 (by decide)) (V_neg (ne 5 (by decide)) (V_neg (ne 6 (by decide)) (V_neg (ne 7 (by decide)) (V_neg (ne 8 (by decide)) (V_K0 b1 (V_T rfl))))))))))
    · show nr_V (O_X6_count a ζ γ) (T_X6_count a ζ γ) _
      unfold O_X6_count T_X6_count
      exact V_pos (ein.trans hw) (V_K0 b2 (V_T rfl))
  · obtain ⟨k, k1, k2⟩ := pp_rng (N := 8) (by decide) hw
    subst k2
    have fin : ∀ x, nr_V (O_X5_count (nI k) z g) (T_X5_count (nI k) z g) (x, z, g) → (O_X6_counted (nI k) ζ γ ∧ R_X6_counted (nI k) ζ γ = x) → ∃ n x z' g' ζ' γ', nr_V (O_X5_count (nI k) z g) (T_X5_count (nI k) z g) (x, z', g') ∧ (∀ m : Nat, nr_V ((fun _ => O_X6_count (nI k)) (m + n) ζ γ) ((fun _ => T_X6_count (nI k)) (m + n) ζ γ) (x, ζ', γ')) ∧ iv z' g' ζ' γ' ∧ cF z g z' g' ∧ mF ζ γ ζ' γ' := by
      intro x v5 v6
      refine ⟨0, x, z, g, ζ, γ, v5, fun m => ?_, h, cF.refl _ _, mF.refl _ _⟩
      show nr_V (O_X6_count (nI k) ζ γ) (T_X6_count (nI k) ζ γ) _
      unfold O_X6_count T_X6_count
      rw [v6.2]
      exact V_neg (fun q => hw (ein.symm.trans q)) (V_and v6.1 (V_T rfl))
    obtain ⟨r0, r1, r2⟩ := h.2.2.1
    obtain ⟨H, c1, c2, c3, c4⟩ := h.2.1
    obtain ⟨len, d1, d2, d3, d4, d5⟩ := h.2.2.2.1
    obtain ⟨w1, w2, w3⟩ := ih_awake h.1 z ζ
    obtain ⟨l1, l2, l3⟩ := ih_lamps h.1 z ζ
    have lo : ∀ j, j < 3 → O_X6_counted (nI j) ζ γ ∧ R_X6_counted (nI j) ζ γ = γ 23 j := by
      intro j hj
      have n : ∀ i, 3 ≤ i → i < 9 → ¬ nI j = nI i := fun i h1 h2 q => absurd ((nI_eq (by omega) (by omega)).mp q) (by omega)
      have n3 : ¬ nI j = (3 : Int32) := n 3 (by decide) (by decide)
      have n4 : ¬ nI j = (4 : Int32) := n 4 (by decide) (by decide)
      have n5 : ¬ nI j = (5 : Int32) := n 5 (by decide) (by decide)
      have n6 : ¬ nI j = (6 : Int32) := n 6 (by decide) (by decide)
      have n7 : ¬ nI j = (7 : Int32) := n 7 (by decide) (by decide)
      have n8 : ¬ nI j = (8 : Int32) := n 8 (by decide) (by decide)
      unfold O_X6_counted R_X6_counted
      rw [if_neg n3, if_neg n4, if_neg n5, if_neg n6, if_neg n7, if_neg n8, nI_clamp (by omega)]
      exact ⟨⟨fun q => absurd q n3, fun _ => ⟨fun q => absurd q n4, fun _ => ⟨fun q => absurd q n5, fun _ => ⟨fun q => absurd q n6, fun _ => ⟨fun q => absurd q n7, fun _ => ⟨fun q => absurd q n8, fun _ => ⟨vp_in_nI (by omega) (by decide), trivial⟩⟩⟩⟩⟩⟩⟩, rfl⟩
    rcases (show k = 0 ∨ k = 1 ∨ k = 2 ∨ k = 3 ∨ k = 4 ∨ k = 5 ∨ k = 6 ∨ k = 7 ∨ k = 8 by omega) with rfl | rfl | rfl | rfl | rfl | rfl | rfl | rfl | rfl
    · refine fin (z 0) ?_ ⟨(lo 0 (by decide)).1, (lo 0 (by decide)).2.trans r0⟩
      unfold O_X5_count T_X5_count
      exact V_pos rfl (V_T rfl)
    · refine fin (z 1) ?_ ⟨(lo 1 (by decide)).1, (lo 1 (by decide)).2.trans r1⟩
      unfold O_X5_count T_X5_count
      exact V_neg (by decide) (V_pos rfl (V_T rfl))
    · refine fin (z 2) ?_ ⟨(lo 2 (by decide)).1, (lo 2 (by decide)).2.trans r2⟩
      unfold O_X5_count T_X5_count
      exact V_neg (by decide) (V_neg (by decide) (V_pos rfl (V_T rfl)))
    · refine fin (z 4) ?_ ?_
      · unfold O_X5_count T_X5_count
        exact V_neg (by decide) (V_neg (by decide) (V_neg (by decide) (V_pos rfl (V_T rfl))))
      · unfold O_X6_counted R_X6_counted
        rw [if_pos (by decide)]
        exact ⟨⟨fun _ => trivial, fun q => absurd rfl q⟩, d3.trans d2.symm⟩
    · refine fin (z 3) ?_ ?_
      · unfold O_X5_count T_X5_count
        exact V_neg (by decide) (V_neg (by decide) (V_neg (by decide) (V_neg (by decide) (V_pos rfl (V_T rfl)))))
      · unfold O_X6_counted R_X6_counted
        rw [if_neg (by decide), if_pos (by decide)]
        exact ⟨⟨fun q => absurd q (by decide), fun _ => ⟨fun _ => trivial, fun q => absurd rfl q⟩⟩, c3.trans c2.symm⟩
    · refine fin (g 2 56) ?_ ?_
      · unfold O_X5_count T_X5_count
        exact V_neg (by decide) (V_neg (by decide) (V_neg (by decide) (V_neg (by decide) (V_neg (by decide) (V_pos rfl (V_T rfl))))))
      · unfold O_X6_counted R_X6_counted
        rw [if_neg (by decide), if_neg (by decide), if_pos (by decide)]
        exact ⟨⟨fun q => absurd q (by decide), fun _ => ⟨fun q => absurd q (by decide), fun _ => ⟨fun _ => trivial, fun q => absurd rfl q⟩⟩⟩, h.1.1 56 (by decide)⟩
    · refine fin (g 2 57) ?_ ?_
      · unfold O_X5_count T_X5_count
        exact V_neg (by decide) (V_neg (by decide) (V_neg (by decide) (V_neg (by decide) (V_neg (by decide) (V_neg (by decide) (V_pos rfl (V_T rfl)))))))
      · unfold O_X6_counted R_X6_counted
        rw [if_neg (by decide), if_neg (by decide), if_neg (by decide), if_pos (by decide)]
        exact ⟨⟨fun q => absurd q (by decide), fun _ => ⟨fun q => absurd q (by decide), fun _ => ⟨fun q => absurd q (by decide), fun _ => ⟨fun _ => trivial, fun q => absurd rfl q⟩⟩⟩⟩, h.1.1 57 (by decide)⟩
    · refine fin (R_X0_roomsWith 1 4 z g) ?_ ?_
      · unfold O_X5_count T_X5_count
        exact V_neg (by decide) (V_neg (by decide) (V_neg (by decide) (V_neg (by decide) (V_neg (by decide) (V_neg (by decide) (V_neg (by decide) (V_pos rfl (V_and w1 (V_T rfl)))))))))
      · unfold O_X6_counted R_X6_counted
        rw [if_neg (by decide), if_neg (by decide), if_neg (by decide), if_neg (by decide), if_pos (by decide)]
        exact ⟨⟨fun q => absurd q (by decide), fun _ => ⟨fun q => absurd q (by decide), fun _ => ⟨fun q => absurd q (by decide), fun _ => ⟨fun q => absurd q (by decide), fun _ => ⟨fun _ => ⟨w2, trivial⟩, fun q => absurd rfl q⟩⟩⟩⟩⟩, w3⟩
    · refine fin (R_X0_roomsWith 1 5 z g) ?_ ?_
      · unfold O_X5_count T_X5_count
        exact V_neg (by decide) (V_neg (by decide) (V_neg (by decide) (V_neg (by decide) (V_neg (by decide) (V_neg (by decide) (V_neg (by decide) (V_neg (by decide) (V_pos rfl (V_and l1 (V_T rfl))))))))))
      · unfold O_X6_counted R_X6_counted
        rw [if_neg (by decide), if_neg (by decide), if_neg (by decide), if_neg (by decide), if_neg (by decide), if_pos (by decide)]
        exact ⟨⟨fun q => absurd q (by decide), fun _ => ⟨fun q => absurd q (by decide), fun _ => ⟨fun q => absurd q (by decide), fun _ => ⟨fun q => absurd q (by decide), fun _ => ⟨fun q => absurd q (by decide), fun _ => ⟨fun _ => ⟨l2, trivial⟩, fun q => absurd rfl q⟩⟩⟩⟩⟩⟩, l3⟩
