/-! the two readers agree -/
theorem pa_read {len : Nat} (hl : len ≤ 100) {z : Nat → Int32} {g : Nat → Nat → Int32} {ζ : Nat → Int32} {γ : Nat → Nat → Int32} (h4 : z 4 = nI len) (h21 : ζ 21 = nI len) (htx : ∀ i, i < len → γ 24 i = g 8 i) (hch : ∀ i, i < len → ¬ g 8 i = -1) :
    ∃ flt z' g' ζ' γ' n, nr_V (O_X3_read 9 z g) (T_X3_read 9 z g) (flt, z', g') ∧ (∀ m, nr_V (O_X6_reads (m + n) ζ γ) (T_X6_reads (m + n) ζ γ) (flt, ζ', γ')) ∧ pa_Cw z g z' g' ∧ pa_Rw ζ γ ζ' γ' ∧ (flt = -1 → ∃ A, z' 5 = nI A ∧ A ≤ len ∧ ζ' 22 = nI A ∧ ζ' 23 = z' 6 ∧ ζ' 24 = z' 7 ∧ ly (g 8) len (ly_F g' γ') 8 0 A 0 len) := by
  generalize hz0 : va_up (va_up (va_up (va_up (va_up z 5 0) 6 0) 7 0) 8 0) 9 (-1) = z0
  have hC : pa_CS (g 8) len 0 0 0 0 z0 g := by
    rw [← hz0]
    exact ⟨by simp [va_up, h4], by simp [va_up]; rfl, by simp [va_up], by simp [va_up], by simp [va_up]; rfl, rfl⟩
  have h9 : z0 9 = -1 := by rw [← hz0, pp_up_eq]
  have hCw0 : pa_Cw z g z0 g := by
    rw [← hz0]
    exact (((((pa_C.z (A := 0) (i := 5) ⟨by decide, by decide⟩ _).trans (pa_C.z (i := 6) ⟨by decide, by decide⟩ _) (Nat.le_refl _)).trans (pa_C.z (i := 7) ⟨by decide, by decide⟩ _) (Nat.le_refl _)).trans (pa_C.z (i := 8) ⟨by decide, by decide⟩ _) (Nat.le_refl _)).trans (pa_C.z (i := 9) ⟨by decide, by decide⟩ _) (Nat.le_refl _)).1
  generalize hζ0 : va_up (va_up (va_up (va_up ζ 22 0) 23 0) 24 0) 25 0 = ζ0
  have hs21 : ζ0 21 = nI len := by rw [← hζ0]; simp [va_up, h21]
  have hs25 : ζ0 25 = nI 0 := by rw [← hζ0]; simp [va_up]; rfl
  have hsk := pp_skip (g := γ) hs21 hl (Nat.zero_le _) hs25
  rw [pp_s_congr htx] at hsk
  have hRw0 : pa_Rw ζ γ (va_up ζ0 25 (nI (pp_s (g 8) len 0))) γ := by
    rw [← hζ0]
    exact (((((pa_R.z (δ := 0) (s := 0) (i := 22) ⟨by decide, by decide⟩ _).trans (pa_R.z (i := 23) ⟨by decide, by decide⟩ _) (Nat.le_refl _) (Nat.le_refl _)).trans (pa_R.z (i := 24) ⟨by decide, by decide⟩ _) (Nat.le_refl _) (Nat.le_refl _)).trans (pa_R.z (i := 25) ⟨by decide, by decide⟩ _) (Nat.le_refl _) (Nat.le_refl _)).trans (pa_R.z (i := 25) ⟨by decide, by decide⟩ _) (Nat.le_refl _) (Nat.le_refl _)).1
  have hR : pa_RS (g 8) len (pp_s (g 8) len 0) 0 0 0 (va_up ζ0 25 (nI (pp_s (g 8) len 0))) γ := by
    rw [← hζ0]
    exact ⟨by simp [va_up, h21], by simp [va_up]; rfl, by simp [va_up], by simp [va_up], by simp [va_up], htx⟩
  obtain ⟨z1, g1, v1, o1⟩ := pa_nA (g 8) len hl 8 (Nat.le_refl _) z0 g (va_up ζ0 25 (nI (pp_s (g 8) len 0))) γ 0 0 0 0 (Nat.zero_le _) (Nat.le_refl _) hC h9 hR
  have reads : ∀ w n, (∀ m, nr_V (O_X6_reads_26 (m + n) (nI 0) (va_up ζ0 25 (nI (pp_s (g 8) len 0))) γ) (T_X6_reads_26 (m + n) (nI 0) (va_up ζ0 25 (nI (pp_s (g 8) len 0))) γ) w) → ∀ m, nr_V (O_X6_reads (m + n) ζ γ) (T_X6_reads (m + n) ζ γ) w := by
    intro w n k m
    unfold O_X6_reads T_X6_reads
    rw [hζ0]
    exact V_K hsk (k m)
  rcases o1 with ⟨f, ζ1, γ1, f1, f2, f3, f4, n, f5⟩ | ⟨A, p, ⟨dp, rb, ζ1, γ1, a1, a2, a3, a4, a5, a6, a7, a8, a9, aL⟩, hpp, hpq, hpn⟩
  · refine ⟨nI f, z1, g1, ζ1, γ1, n, ?_, reads _ _ f5, hCw0.trans f3, hRw0.trans f4, fun e => absurd e (pp_nI_m1 (by omega))⟩
    unfold O_X3_read T_X3_read
    rw [hz0]
    refine V_K v1 (V_neg (pa_nf f1 f2) ?_)
    unfold O_X3_read_54 T_X3_read_54
    exact V_T (by rw [f2])
  · obtain ⟨b1, b2, b3, b4, b5, b6⟩ := id a2
    have e := pp_nx (g := g1) b1 hl a7 b5
    rw [b6, hpq, pp_up_self z1 8 _ b5] at e
    rw [hpq] at a4
    by_cases hlt : p < len
    · rw [pp_c_lt hlt] at e
      obtain ⟨n2, h2⟩ := a6.ret (pa_bad0 a4 hlt hl (hpn hlt))
      refine ⟨nI p, va_up z1 9 (nI p), g1, ζ1, γ1, n2, ?_, reads _ _ h2, hCw0.trans (a3.1.trans (pa_C.z (A := 0) (i := 9) ⟨by decide, by decide⟩ _).1), hRw0.trans a5.1, fun e => absurd e (pp_nI_m1 (by omega))⟩
      unfold O_X3_read T_X3_read
      rw [hz0]
      refine V_K v1 (V_pos a1 (V_K e (V_neg (hch p hlt) ?_)))
      unfold O_X3_read_54 T_X3_read_54
      rw [b5]
      exact V_T (by rw [pp_up_eq])
    · have hpe : p = len := by omega
      subst hpe
      rw [pp_c_ge hlt] at e
      have he := pa_end (δ := 0) a4 hl (by decide)
      rw [if_pos rfl] at he
      obtain ⟨n2, h2⟩ := a6.ret he
      refine ⟨-1, z1, g1, ζ1, γ1, n2, ?_, reads _ _ h2, hCw0.trans a3.1, hRw0.trans a5.1, fun _ => ⟨A, b2, a9, a4.2.1, a4.2.2.1.trans b3.symm, a4.2.2.2.1.trans b4.symm, aL⟩⟩
      unfold O_X3_read T_X3_read
      rw [hz0]
      refine V_K v1 (V_pos a1 (V_K e (V_pos rfl ?_)))
      unfold O_X3_read_54 T_X3_read_54
      exact V_T (by rw [a1])
