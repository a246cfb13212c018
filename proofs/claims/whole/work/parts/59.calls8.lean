/-! calls: ends, fewest -/
def sgL : List Nat := [0, 1, 2, 4, 3, 5, 6, 7]
def smL : List Nat := [0, 1, 2, 3, 4, 5, 6, 7]
theorem sg_drop : ∀ i, i < 8 → sgL.drop i = sgL.getD i 0 :: sgL.drop (i + 1) := by decide
theorem sm_drop : ∀ i, i < 8 → smL.drop i = i :: smL.drop (i + 1) := by decide
theorem sg_lt : ∀ i, i < 8 → sgL.getD i 0 < 8 := by decide
theorem sg_sf : ∀ i, i < 8 → nr_sf 41 i = nI (2 * sgL.getD i 0) := by
  intro i hi
  rcases (show i = 0 ∨ i = 1 ∨ i = 2 ∨ i = 3 ∨ i = 4 ∨ i = 5 ∨ i = 6 ∨ i = 7 by omega) with rfl | rfl | rfl | rfl | rfl | rfl | rfl | rfl <;> rfl
def ctL (e : Nat → Int32) (a : Int32) : List Nat → Nat
  | [] => 0
  | k :: ks => (if e k = a then 1 else 0) + ctL e a ks
/-- what the trial with a set of keys answers -/
def eK (z0 : Nat → Int32) (g0 : Nat → Nat → Int32) (q : Nat) : Int32 := (wkT (nI (2 * q)) z0 g0).1
section
variable {len A : Nat} {z0 ζ0 : Nat → Int32} {g0 γ0 : Nat → Nat → Int32}
theorem eK_c (B : tB len A z0 g0 ζ0 γ0) {q : Nat} (hq : q < 8) {z : Nat → Int32} {g : Nat → Nat → Int32} (hz : cE z0 g0 z g) : ∃ z' g', nr_V (wkO (nI (2 * q)) z g) (wkT (nI (2 * q)) z g) (eK z0 g0 q, z', g') ∧ cE z0 g0 z' g' :=
  (tri_split (O5 := wkO (nI (2 * q))) (T5 := wkT (nI (2 * q))) (O6 := fun n => O_X6_endBy n (nI (2 * q))) (T6 := fun n => T_X6_endBy n (nI (2 * q))) (fun z g ζ γ h1 h2 => tri_keys B h1 h2 hq)).1 z g hz
theorem eK_m (B : tB len A z0 g0 ζ0 γ0) {q : Nat} (hq : q < 8) {ζ : Nat → Int32} {γ : Nat → Nat → Int32} (hm : mE ζ0 γ0 ζ γ) : ∃ n ζ' γ', (∀ m, nr_V (O_X6_endBy (m + n) (nI (2 * q)) ζ γ) (T_X6_endBy (m + n) (nI (2 * q)) ζ γ) (eK z0 g0 q, ζ', γ')) ∧ mE ζ0 γ0 ζ' γ' :=
  (tri_split (O5 := wkO (nI (2 * q))) (T5 := wkT (nI (2 * q))) (O6 := fun n => O_X6_endBy n (nI (2 * q))) (T6 := fun n => T_X6_endBy n (nI (2 * q))) (fun z g ζ γ h1 h2 => tri_keys B h1 h2 hq)).2 ζ γ hm
theorem en_c (B : tB len A z0 g0 ζ0 γ0) (a : Int32) : ∀ (j i c : Nat) (z : Nat → Int32) (g : Nat → Nat → Int32), i + j = 8 → cE z0 g0 z g → ∃ z' g', (∀ q, nr_V (O_X5_ends_40 9 (q + j + 1) a (nI c) (nI i) z g) (T_X5_ends_40 9 (q + j + 1) a (nI c) (nI i) z g) (nI (c + ctL (eK z0 g0) a (sgL.drop i)), z', g')) ∧ cE z0 g0 z' g'
  | 0, i, c, z, g, hi, hz => by
    refine ⟨z, g, fun q => ?_, hz⟩
    have i8 : i = 8 := by omega
    subst i8
    rw [O_X5_ends_40, T_X5_ends_40]
    exact V_pos (by decide) (V_T rfl)
  | j + 1, i, c, z, g, hi, hz => by
    have nge : ¬ (8 : Int32) ≤ nI i := nI_ge (b := 8) (by omega) (by decide)
    obtain ⟨z3, g3, w1, hz3⟩ := eK_c B (sg_lt i (by omega)) hz
    rw [← sg_sf i (by omega)] at w1
    rw [sg_drop i (by omega), ctL]
    by_cases hx : eK z0 g0 (sgL.getD i 0) = a
    · obtain ⟨z', g', u, hz'⟩ := en_c B a j (i + 1) (c + 1) z3 g3 (by omega) hz3
      refine ⟨z', g', fun q => ?_, hz'⟩
      rw [show q + (j + 1) + 1 = (q + j + 1) + 1 by omega, O_X5_ends_40, T_X5_ends_40, nI_clamp (by omega), if_pos hx, show c + (1 + ctL (eK z0 g0) a (sgL.drop (i + 1))) = c + 1 + ctL (eK z0 g0) a (sgL.drop (i + 1)) by omega]
      have u := u q
      rw [← nI_1, ← nI_1] at u
      exact V_neg nge (V_and (vp_in_nI (N := 8) (by omega) (by decide)) (V_wk w1 (V_pos hx u)))
    · obtain ⟨z', g', u, hz'⟩ := en_c B a j (i + 1) c z3 g3 (by omega) hz3
      refine ⟨z', g', fun q => ?_, hz'⟩
      rw [show q + (j + 1) + 1 = (q + j + 1) + 1 by omega, O_X5_ends_40, T_X5_ends_40, nI_clamp (by omega), if_neg hx, Nat.zero_add]
      have u := u q
      rw [← nI_1] at u
      exact V_neg nge (V_and (vp_in_nI (N := 8) (by omega) (by decide)) (V_wk w1 (V_neg hx u)))
theorem en_m (B : tB len A z0 g0 ζ0 γ0) (a : Int32) : ∀ (j i c : Nat) (ζ : Nat → Int32) (γ : Nat → Nat → Int32), i + j = 8 → mE ζ0 γ0 ζ γ → ∃ n ζ' γ', (∀ q m, nr_V (O_X6_ends_43 (m + n) (q + j + 1) a (nI c) (nI (2 * i)) ζ γ) (T_X6_ends_43 (m + n) (q + j + 1) a (nI c) (nI (2 * i)) ζ γ) (nI (c + ctL (eK z0 g0) a (smL.drop i)), ζ', γ')) ∧ mE ζ0 γ0 ζ' γ'
  | 0, i, c, ζ, γ, hi, hm => by
    refine ⟨0, ζ, γ, fun q m => ?_, hm⟩
    have i8 : i = 8 := by omega
    subst i8
    rw [O_X6_ends_43, T_X6_ends_43]
    exact V_pos (by decide) (V_T rfl)
  | j + 1, i, c, ζ, γ, hi, hm => by
    have nge : ¬ (16 : Int32) ≤ nI (2 * i) := nI_ge (b := 16) (by omega) (by decide)
    have e2 : nI (2 * i) + 2 = nI (2 * (i + 1)) := nI_add (2 * i) 2
    obtain ⟨n2, ζ3, γ3, w2, hm3⟩ := eK_m B (q := i) (by omega) hm
    rw [sm_drop i (by omega), ctL]
    by_cases hx : eK z0 g0 i = a
    · obtain ⟨n, ζ', γ', u, hm'⟩ := en_m B a j (i + 1) (c + 1) ζ3 γ3 (by omega) hm3
      refine ⟨n2 + n, ζ', γ', fun q m => ?_, hm'⟩
      rw [show q + (j + 1) + 1 = (q + j + 1) + 1 by omega, O_X6_ends_43, T_X6_ends_43, if_pos hx, show c + (1 + ctL (eK z0 g0) a (smL.drop (i + 1))) = c + 1 + ctL (eK z0 g0) a (smL.drop (i + 1)) by omega]
      have u := u q (m + n2)
      have w := w2 (m + n)
      rw [← nI_1, ← e2, show m + n2 + n = m + (n2 + n) by omega] at u
      rw [show m + n + n2 = m + (n2 + n) by omega] at w
      exact V_neg nge (V_K w (V_pos hx u))
    · obtain ⟨n, ζ', γ', u, hm'⟩ := en_m B a j (i + 1) c ζ3 γ3 (by omega) hm3
      refine ⟨n2 + n, ζ', γ', fun q m => ?_, hm'⟩
      rw [show q + (j + 1) + 1 = (q + j + 1) + 1 by omega, O_X6_ends_43, T_X6_ends_43, if_neg hx, Nat.zero_add]
      have u := u q (m + n2)
      have w := w2 (m + n)
      have e0 : nI c + 0 = nI c := nI_add c 0
      rw [← e2, ← e0, show m + n2 + n = m + (n2 + n) by omega] at u
      rw [show m + n + n2 = m + (n2 + n) by omega] at w
      rw [e0] at u
      unfold O_X6_ends_66 T_X6_ends_66
      rw [e0]
      exact V_neg nge (V_K w (V_neg hx u))
end
theorem iJ_ends (a : Int32) : iJ (O_X5_ends 9 a) (T_X5_ends 9 a) (fun n => O_X6_ends n a) (fun n => T_X6_ends n a) := by
  intro z g ζ γ h
  have ein : R_X6_in a.toInt64 0 6 = R_X5_within a 0 6 := pp_in a 0 6
  by_cases hw : R_X5_within a 0 6 = 0
  · obtain ⟨b1, b2, b3⟩ := iv_bad h (-2)
    refine iv_bad2 (O5 := O_X5_ends 9 a) (T5 := T_X5_ends 9 a) (O6 := fun n => O_X6_ends n a) (T6 := fun n => T_X6_ends n a) h ?_ (fun m => ?_)
    · unfold O_X5_ends T_X5_ends
      exact V_pos hw (V_K0 b1 (V_T rfl))
    · show nr_V (O_X6_ends m a ζ γ) (T_X6_ends m a ζ γ) _
      unfold O_X6_ends T_X6_ends
      exact V_pos (ein.trans hw) (V_K0 b2 (V_T rfl))
  · have hw6 : ¬ R_X6_in a.toInt64 0 6 = 0 := fun q => hw (ein.symm.trans q)
    obtain ⟨n, flt, z1, g1, ζ1, γ1, v1, v2, i1, c1, m1, hr⟩ := iv_read h
    by_cases hf : flt = -1
    · subst hf
      obtain ⟨len, A, hr, -⟩ := hr rfl
      obtain ⟨B, mk⟩ := tB_keep i1 hr
      have kk := m_keep ζ1 γ1
      generalize va_up γ1 35 (mk_row (γ1 21) (γ1 35)) = γ2 at B mk kk
      obtain ⟨z', g', w1, c⟩ := en_c B a 8 0 0 z1 g1 (by omega) (cE.refl _ _)
      obtain ⟨n2, ζ3, γ3, w2, m⟩ := en_m B a 8 0 0 ζ1 γ2 (by omega) (mE.refl _ _)
      have ect : ctL (eK z1 g1) a (sgL.drop 0) = ctL (eK z1 g1) a (smL.drop 0) := by
        show ctL (eK z1 g1) a [0, 1, 2, 4, 3, 5, 6, 7] = ctL (eK z1 g1) a [0, 1, 2, 3, 4, 5, 6, 7]
        simp only [ctL]
        omega
      rw [ect] at w1
      obtain ⟨j1, j2, j3⟩ := tB_back B c m
      refine ⟨n + n2, nI (0 + ctL (eK z1 g1) a (smL.drop 0)), z', g', ζ3, γ3, ?_, fun m => ?_, j1, c1.trans j2, m1.trans (mk.trans j3)⟩
      · unfold O_X5_ends T_X5_ends
        exact V_neg hw (V_K v1 (V_pos rfl (w1 491)))
      · show nr_V (O_X6_ends (m + (n + n2)) a ζ γ) (T_X6_ends (m + (n + n2)) a ζ γ) _
        unfold O_X6_ends T_X6_ends
        have f1 := v2 (m + n2)
        have f2 := w2 491 (m + n)
        rw [show m + n2 + n = m + (n + n2) by omega] at f1
        rw [show m + n + n2 = m + (n + n2) by omega] at f2
        exact V_neg hw6 (V_K f1 (V_pos rfl (V_K kk f2)))
    · refine ⟨n, -10 - flt, z1, g1, ζ1, γ1, ?_, fun m => ?_, i1, c1, m1⟩
      · unfold O_X5_ends T_X5_ends
        exact V_neg hw (V_K v1 (V_neg hf (V_T rfl)))
      · show nr_V (O_X6_ends (m + n) a ζ γ) (T_X6_ends (m + n) a ζ γ) _
        unfold O_X6_ends T_X6_ends
        exact V_neg hw6 (V_K (v2 m) (V_neg hf (V_T rfl)))
