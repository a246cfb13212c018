/-! digest -/
def dg (o5 : Prop) (t5 : Int64 × nr_S) (o6 : Prop) (r6 : Int64) (z : Nat → Int32) (g : Nat → Nat → Int32) : Prop := ∃ x : Int64, nr_V o5 t5 (x, z, g) ∧ nr_V o6 r6 x
section
variable {z ζ : Nat → Int32} {g γ : Nat → Nat → Int32}
theorem ic_count (h : iv z g ζ γ) {k : Nat} (hk : k < 9) : ∃ x, nr_V (O_X5_count (nI k) z g) (T_X5_count (nI k) z g) (x, z, g) ∧ O_X6_counted (nI k) ζ γ ∧ R_X6_counted (nI k) ζ γ = x := by
  obtain ⟨n, x, z', g', ζ', γ', v5, v6, -⟩ := iJ_count (nI k) z g ζ γ h
  have e5 : (T_X5_count (nI k) z g).2 = (z, g) := by
    unfold T_X5_count
    rcases (show k = 0 ∨ k = 1 ∨ k = 2 ∨ k = 3 ∨ k = 4 ∨ k = 5 ∨ k = 6 ∨ k = 7 ∨ k = 8 by omega) with rfl | rfl | rfl | rfl | rfl | rfl | rfl | rfl | rfl
    · rw [if_pos (by decide)]
    · rw [if_neg (by decide), if_pos (by decide)]
    · rw [if_neg (by decide), if_neg (by decide), if_pos (by decide)]
    · rw [if_neg (by decide), if_neg (by decide), if_neg (by decide), if_pos (by decide)]
    · rw [if_neg (by decide), if_neg (by decide), if_neg (by decide), if_neg (by decide), if_pos (by decide)]
    · rw [if_neg (by decide), if_neg (by decide), if_neg (by decide), if_neg (by decide), if_neg (by decide), if_pos (by decide)]
    · rw [if_neg (by decide), if_neg (by decide), if_neg (by decide), if_neg (by decide), if_neg (by decide), if_neg (by decide), if_pos (by decide)]
    · rw [if_neg (by decide), if_neg (by decide), if_neg (by decide), if_neg (by decide), if_neg (by decide), if_neg (by decide), if_neg (by decide), if_pos (by decide)]
    · rw [if_neg (by decide), if_neg (by decide), if_neg (by decide), if_neg (by decide), if_neg (by decide), if_neg (by decide), if_neg (by decide), if_neg (by decide), if_pos (by decide)]
  have e5' : (z', g') = (z, g) := by rw [← e5, v5.2]
  have hin : ¬ R_X6_in (nI k).toInt64 0 8 = 0 := by
    have e : R_X6_in (nI k).toInt64 0 8 = 1 := (pp_in (nI k) 0 8).trans (pp_wy ⟨nI_le (a := 0) (by omega) (by omega), nI_le (b := 8) (by omega) (by decide)⟩)
    rw [e]; decide
  have w6 : nr_V (O_X6_count (nI k) ζ γ) (T_X6_count (nI k) ζ γ) (x, ζ', γ') := v6 0
  unfold O_X6_count T_X6_count at w6
  have t6 := w6.2
  rw [if_neg hin] at t6
  refine ⟨x, ?_, (w6.1.2 hin).1, congrArg Prod.fst t6⟩
  have e : (x, z', g') = (x, z, g) := by rw [Prod.mk.injEq]; exact ⟨rfl, e5'⟩
  exact V_w v5 e
theorem ic_was (h : iv z g ζ γ) {k : Nat} (hk : k < 8) : O_X4_fact 13 (nI k) z g ∧ O_X6_toldWas (nI k) ζ γ ∧ R_X6_toldWas (nI k) ζ γ = R_X4_fact 13 (nI k) z g := by
  obtain ⟨n, x, z', g', ζ', γ', v5, v6, -⟩ := iJ_was (nI k) z g ζ γ h
  have hw : ¬ R_X5_within (nI k) 0 7 = 0 := by
    have e : R_X5_within (nI k) 0 7 = 1 := pp_wy ⟨nI_le (a := 0) (by omega) (by omega), nI_le (b := 7) (by omega) (by decide)⟩
    rw [e]; decide
  have hin : ¬ R_X6_in (nI k).toInt64 0 7 = 0 := fun q => hw ((pp_in (nI k) 0 7).symm.trans q)
  have w6 : nr_V (O_X6_was (nI k) ζ γ) (T_X6_was (nI k) ζ γ) (x, ζ', γ') := v6 0
  unfold O_X6_was T_X6_was at w6
  unfold O_X5_was T_X5_was at v5
  have t6 := w6.2
  have t5 := v5.2
  rw [if_neg hin] at t6
  rw [if_neg hw] at t5
  exact ⟨(v5.1.2 hw).1, (w6.1.2 hin).1, (congrArg Prod.fst t6).trans (congrArg Prod.fst t5).symm⟩
theorem dg_entries (h : iv z g ζ γ) {w : Nat} (hw : w ≤ 150) (h39 : ζ 39 = nI w) (he : ∀ i, i < w → γ 34 i = g 15 i) : ∀ (j k n m : Nat) (a : Int64), k + j = w → j < n → j < m → dg (O_X5_digest_129 n a (nI w) (nI k) z g) (T_X5_digest_129 n a (nI w) (nI k) z g) (O_X6_digest_117 m a (nI k) ζ γ) (R_X6_digest_117 m a (nI k) ζ γ) z g
  | 0, k, n + 1, m + 1, a, hk, hn, hm => by
    rw [O_X5_digest_129, T_X5_digest_129, O_X6_digest_117, R_X6_digest_117, h39]
    have q : nI w ≤ nI k := nI_le (by omega) (by omega)
    exact ⟨a, V_pos q (V_T rfl), V_pos q (V_T rfl)⟩
  | j + 1, k, n + 1, m + 1, a, hk, hn, hm => by
    obtain ⟨c1, c2⟩ := cp_at (k := 15) (i := k) (N := 150) (by decide) rfl (by omega) (by decide) z g
    have ce : R_X4_entry 13 (nI k) z g = g 15 k := c1
    have co : O_X4_entry 13 (nI k) z g := ⟨c2, trivial⟩
    obtain ⟨x, a1, a2⟩ := dg_entries h hw h39 he j (k + 1) n m (31 * a + (g 15 k).toInt64) (by omega) (by omega) (by omega)
    rw [O_X5_digest_129, T_X5_digest_129, O_X6_digest_117, R_X6_digest_117, h39, ce, nI_clamp (by omega), he k (by omega), nI_1]
    have q : ¬ nI w ≤ nI k := nI_ge (by omega) (by omega)
    exact ⟨x, V_neg q (V_and co a1), V_neg q (V_and (vp_in_nI (by omega) (by decide)) a2)⟩
  | _, _, 0, _, _, _, hn, _ => absurd hn (by omega)
  | _, _, _, 0, _, _, _, hm => absurd hm (by omega)
theorem dg_was (h : iv z g ζ γ) : ∀ (j k n m : Nat) (a : Int64), k + j = 8 → j < n → j < m → dg (O_X5_digest_81 n a (nI k) z g) (T_X5_digest_81 n a (nI k) z g) (O_X6_digest_78 m a (nI k) ζ γ) (R_X6_digest_78 m a (nI k) ζ γ) z g
  | 0, k, n + 1, m + 1, a, hk, hn, hm => by
    obtain ⟨e1, e2, e3, ⟨w, e4, e5, e6⟩, e7⟩ := h.2.2.2.2
    have ew : R_X4_written 13 z g = nI w := e5
    have e39 : ζ 39 = nI w := e3.trans e5
    have k8 : k = 8 := by omega
    subst k8
    obtain ⟨x, a1, a2⟩ := dg_entries h e4 e39 e6 w 0 500 500 (31 * a + (nI w).toInt64) (by omega) (by omega) (by omega)
    rw [O_X5_digest_81, T_X5_digest_81, O_X6_digest_78, R_X6_digest_78, ew, e39]
    exact ⟨x, V_pos (by decide) a1, V_pos (by decide) a2⟩
  | j + 1, k, n + 1, m + 1, a, hk, hn, hm => by
    obtain ⟨c1, c2, c3⟩ := ic_was h (k := k) (by omega)
    obtain ⟨x, a1, a2⟩ := dg_was h j (k + 1) n m (31 * a + (R_X4_fact 13 (nI k) z g).toInt64) (by omega) (by omega) (by omega)
    rw [O_X5_digest_81, T_X5_digest_81, O_X6_digest_78, R_X6_digest_78, c3, nI_1]
    exact ⟨x, V_neg (nI_nlt (a := 7) (by omega) (by omega)) (V_and c1 a1), V_neg (nI_ge (b := 8) (by omega) (by decide)) (V_and c2 a2)⟩
  | _, _, 0, _, _, _, hn, _ => absurd hn (by omega)
  | _, _, _, 0, _, _, _, hm => absurd hm (by omega)
theorem dg_cells (h : iv z g ζ γ) {r : Nat} (hr : r < 8) {kT5 : Int64 → Int32 → (Nat → Int32) → (Nat → Nat → Int32) → Int64 × nr_S} {kO5 kO6 : Int64 → Int32 → (Nat → Int32) → (Nat → Nat → Int32) → Prop} {kR6 : Int64 → Int32 → (Nat → Int32) → (Nat → Nat → Int32) → Int64} (hk : ∀ a, dg (kO5 a (nI (r + 1)) z g) (kT5 a (nI (r + 1)) z g) (kO6 a (nI (r + 1)) ζ γ) (kR6 a (nI (r + 1)) ζ γ) z g) : ∀ (j w n m : Nat) (a : Int64), w + j = 7 → j < n → j < m → dg (O_X5_digest_42 kT5 kO5 n a (nI r) (nI w) z g) (T_X5_digest_42 kT5 n a (nI r) (nI w) z g) (O_X6_digest_42 kR6 kO6 m a (nI r) (nI w) ζ γ) (R_X6_digest_42 kR6 m a (nI r) (nI w) ζ γ) z g
  | 0, w, n + 1, m + 1, a, hw, hn, hm => by
    have w7 : w = 7 := by omega
    subst w7
    obtain ⟨x, a1, a2⟩ := hk a
    rw [O_X5_digest_42, T_X5_digest_42, O_X6_digest_42, R_X6_digest_42, nI_1]
    exact ⟨x, V_pos (by decide) a1, V_pos (by decide) a2⟩
  | j + 1, w, n + 1, m + 1, a, hw, hn, hm => by
    obtain ⟨c1, c2⟩ := cp_cell 1 hr (w := w) (by omega) z g
    obtain ⟨d1, d2⟩ := ih_told h.1 hr (w := w) (by omega) ζ
    obtain ⟨x, a1, a2⟩ := dg_cells h hr hk j (w + 1) n m (31 * a + (g 2 (7 * r + w)).toInt64) (by omega) (by omega) (by omega)
    have c1' : R_X0_cell 1 (nI r) (nI w) z g = g 2 (7 * r + w) := c1
    rw [O_X5_digest_42, T_X5_digest_42, O_X6_digest_42, R_X6_digest_42, c1', d1, nI_1 w]
    exact ⟨x, V_neg (nI_nlt (a := 6) (by omega) (by omega)) (V_and c2 a1), V_neg (nI_ge (b := 7) (by omega) (by decide)) (V_and d2 a2)⟩
  | _, _, 0, _, _, _, hn, _ => absurd hn (by omega)
  | _, _, _, 0, _, _, _, hm => absurd hm (by omega)
theorem dg_rooms (h : iv z g ζ γ) : ∀ (j r n m : Nat) (a : Int64), r + j = 8 → j < n → j < m → dg (O_X5_digest_33 n a (nI r) z g) (T_X5_digest_33 n a (nI r) z g) (O_X6_digest_33 m a (nI r) ζ γ) (R_X6_digest_33 m a (nI r) ζ γ) z g
  | 0, r, n + 1, m + 1, a, hw, hn, hm => by
    have r8 : r = 8 := by omega
    subst r8
    obtain ⟨x, a1, a2⟩ := dg_was h 8 0 500 500 a (by omega) (by omega) (by omega)
    rw [O_X5_digest_33, T_X5_digest_33, O_X6_digest_33, R_X6_digest_33]
    exact ⟨x, V_pos (by decide) a1, V_pos (by decide) a2⟩
  | j + 1, r, n + 1, m + 1, a, hw, hn, hm => by
    obtain ⟨x, a1, a2⟩ := dg_cells h (r := r) (by omega) (kT5 := T_X5_digest_33 n) (kO5 := O_X5_digest_33 n) (kO6 := O_X6_digest_33 m) (kR6 := R_X6_digest_33 m) (fun a => dg_rooms h j (r + 1) n m a (by omega) (by omega) (by omega)) 7 0 500 500 a (by omega) (by omega) (by omega)
    rw [O_X5_digest_33, T_X5_digest_33, O_X6_digest_33, R_X6_digest_33]
    have q : ¬ (8 : Int32) ≤ nI r := nI_ge (b := 8) (by omega) (by decide)
    exact ⟨x, V_neg q a1, V_neg q a2⟩
  | _, _, 0, _, _, _, hn, _ => absurd hn (by omega)
  | _, _, _, 0, _, _, _, hm => absurd hm (by omega)
theorem dg_counts (h : iv z g ζ γ) : ∀ (j k n m : Nat) (a : Int64), k + j = 9 → j < n → j < m → dg (O_X5_digest_6 n a (nI k) z g) (T_X5_digest_6 n a (nI k) z g) (O_X6_digest_6 m a (nI k) ζ γ) (R_X6_digest_6 m a (nI k) ζ γ) z g
  | 0, k, n + 1, m + 1, a, hw, hn, hm => by
    have k9 : k = 9 := by omega
    subst k9
    obtain ⟨x, a1, a2⟩ := dg_rooms h 8 0 500 500 a (by omega) (by omega) (by omega)
    rw [O_X5_digest_6, T_X5_digest_6, O_X6_digest_6, R_X6_digest_6]
    exact ⟨x, V_pos (by decide) a1, V_pos (by decide) a2⟩
  | j + 1, k, n + 1, m + 1, a, hw, hn, hm => by
    obtain ⟨c, c1, c2, c3⟩ := ic_count h (k := k) (by omega)
    obtain ⟨x, a1, a2⟩ := dg_counts h j (k + 1) n m (31 * a + c.toInt64) (by omega) (by omega) (by omega)
    rw [O_X5_digest_6, T_X5_digest_6, O_X6_digest_6, R_X6_digest_6, c3, nI_1]
    exact ⟨x, V_neg (nI_nlt (a := 8) (by omega) (by omega)) (V_K c1 a1), V_neg (nI_ge (b := 9) (by omega) (by decide)) (V_and c2 a2)⟩
  | _, _, 0, _, _, _, hn, _ => absurd hn (by omega)
  | _, _, _, 0, _, _, _, hm => absurd hm (by omega)
theorem iJ_digest (h : iv z g ζ γ) : ∃ x, nr_V (O_X5_digest z g) (T_X5_digest z g) (x, z, g) ∧ nr_V (O_X6_digest ζ γ) (R_X6_digest ζ γ) x := dg_counts h 9 0 500 500 1973 (by omega) (by omega) (by omega)
end
