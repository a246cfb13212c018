/-! calls: type, clear, was, diary, back -/
theorem pp_rng {a : Int32} {N : Nat} (hN : N < 2 ^ 31) (h : ¬ R_X5_within a 0 (nI N) = 0) : ∃ k, k ≤ N ∧ a = nI k := by
  have q : 0 ≤ a ∧ a ≤ nI N := Decidable.byContradiction (fun q => h (pp_wn q))
  exact nI_of2 (M := nI N) (nI_toInt hN) (Int32.not_lt.mpr q.1) q.2
section
variable {z ζ z' ζ' : Nat → Int32} {g γ g' γ' : Nat → Nat → Int32}
theorem iv_t (h : iv z g ζ γ) {p P : Nat → Int32} {l : Nat} (hl : l ≤ 100) (h1 : ∀ i, i < l → P i = p i) (h2 : ∀ i, i < l → ¬ p i = -1) : iv (va_up z 4 (nI l)) (va_up g 8 p) (va_up ζ 21 (nI l)) (va_up γ 24 P) := by
  obtain ⟨a, ⟨H, b1, b2, b3, b4⟩, ⟨c1, c2, c3⟩, d, e1, e2, e3, ⟨w, e4, e5, e6⟩, e7⟩ := h
  refine ⟨?_, ⟨H, b1, by rw [pp_up_ne _ _ (by decide)]; exact b2, by rw [pp_up_ne _ _ (by decide)]; exact b3, by rw [pp_up_ne _ _ (by decide), pp_up_ne _ _ (by decide)]; exact b4⟩, ?_, ⟨l, hl, pp_up_eq _ _ _, pp_up_eq _ _ _, by rw [pp_up_eq, pp_up_eq]; exact h1, by rw [pp_up_eq]; exact h2⟩, by rw [pp_up_ne _ _ (by decide)]; exact e1, by rw [pp_up_ne _ _ (by decide), pp_up_ne _ _ (by decide)]; exact e2, by rw [pp_up_ne _ _ (by decide), pp_up_ne _ _ (by decide)]; exact e3, ⟨w, e4, by rw [pp_up_ne _ _ (by decide)]; exact e5, by rw [pp_up_ne _ _ (by decide), pp_up_ne _ _ (by decide)]; exact e6⟩, by rw [pp_up_ne _ _ (by decide), pp_up_ne _ _ (by decide), pp_up_ne _ _ (by decide)]; exact e7⟩
  · unfold iv_H
    rw [pp_up_ne _ _ (by decide), pp_up_ne _ _ (by decide)]; exact a
  · exact ⟨by rw [pp_up_ne _ _ (by decide), pp_up_ne _ _ (by decide)]; exact c1, by rw [pp_up_ne _ _ (by decide), pp_up_ne _ _ (by decide)]; exact c2, by rw [pp_up_ne _ _ (by decide), pp_up_ne _ _ (by decide)]; exact c3⟩
end
theorem iJ_type (a : Int32) : iJ (O_X5_type a) (T_X5_type a) (fun _ => O_X6_type a) (fun _ => T_X6_type a) := by
  intro z g ζ γ h
  have ein : R_X6_in a.toInt64 0 127 = R_X5_within a 0 127 := pp_in a 0 127
  by_cases hw : R_X5_within a 0 127 = 0
  · obtain ⟨b1, b2, b3⟩ := iv_bad h (-2)
    refine ⟨0, -2, _, _, _, _, ?_, fun m => ?_, b3, cF.up1 (by decide) _, mF.up2 (by decide) _⟩
    · unfold O_X5_type T_X5_type
      exact V_pos hw (V_K0 b1 (V_T rfl))
    · unfold O_X6_type T_X6_type
      dsimp only
      exact V_pos (ein.trans hw) (V_K0 b2 (V_T rfl))
  · obtain ⟨len, d1, d2, d3, d4, d5⟩ := h.2.2.2.1
    by_cases hl : len < 100
    · obtain ⟨k, k1, k2⟩ := pp_rng (N := 127) (by decide) hw
      refine ⟨0, nI (len + 1), va_up z 4 (nI (len + 1)), va_up g 8 (upd (g 8) len a), va_up ζ 21 (nI (len + 1)), va_up γ 24 (upd (γ 24) len a), ?_, fun m => ?_, ?_, (cF.up1 (by decide) _).trans (cF.up2 (by decide) _), (mF.up1 (by decide) _).trans (mF.up2 (by decide) _)⟩
      · unfold O_X5_type T_X5_type R_X3_length O_X3_append T_X3_append
        rw [d2, nI_1, pp_st_lit (by omega)]
        refine V_neg hw (V_pos (nI_lt (b := 100) hl (by decide)) (V_K1 (V_neg (nI_ge (b := 100) hl (by decide)) (V_and (vp_in_nI hl (by decide)) (V_T rfl))) (V_T ?_)))
        rw [pp_up_eq]
      · unfold O_X6_type T_X6_type
        dsimp only
        rw [d3, nI_1, pp_st_lit (by omega)]
        exact V_neg (fun q => hw (ein.symm.trans q)) (V_neg (fun q => absurd ((nI_eq (b := 100) (by omega) (by decide)).mp q) (by omega)) (V_and (vp_in_nI hl (by decide)) (V_T rfl)))
      · refine iv_t h (by omega) (fun i hi => ?_) (fun i hi => ?_)
        · by_cases e : i = len
          · rw [e, pk_us, pk_us]
          · rw [pk_un e, pk_un e]; exact d4 i (by omega)
        · by_cases e : i = len
          · rw [e, pk_us, k2]; exact pp_nI_m1 (by omega)
          · rw [pk_un e]; exact d5 i (by omega)
    · have l100 : len = 100 := by omega
      subst l100
      refine ⟨0, -4, va_up z 2 (z 2 + 1), g, ζ, va_up γ 23 (upd (γ 23) 2 (z 2 + 1)), ?_, fun m => ?_, iv_r h (by decide) _, cF.up1 (by decide) _, mF.up2 (by decide) _⟩
      · unfold O_X5_type T_X5_type R_X3_length
        rw [d2]
        refine V_neg hw (V_neg (by decide) (V_K0 (r := -4) (z := va_up z 2 (z 2 + 1)) (g := g) ?_ (V_T rfl)))
        unfold T_X5_refuse
        rw [if_neg (by decide), if_neg (by decide)]
      · unfold O_X6_type T_X6_type
        dsimp only
        rw [d3]
        refine V_neg (fun q => hw (ein.symm.trans q)) (V_pos (by decide) (V_K0 (r := -4) (z := ζ) (g := va_up γ 23 (upd (γ 23) 2 (z 2 + 1))) ?_ (V_T rfl)))
        unfold T_X6_full
        rw [show (2 : Int32) = nI 2 from rfl, pp_st_lit (by decide), nI_clamp (by decide), h.2.2.1.2.2]
theorem iJ_clear : iJ (fun _ _ => True) T_X5_clear (fun _ _ _ => True) (fun _ => T_X6_clear) := by
  intro z g ζ γ h
  obtain ⟨len, d1, d2, d3, d4, d5⟩ := h.2.2.2.1
  have k := iv_t (p := g 8) (P := γ 24) (l := 0) h (by decide) (fun i hi => absurd hi (by omega)) (fun i hi => absurd hi (by omega))
  rw [up_self g 8 _ rfl, up_self γ 24 _ rfl] at k
  refine ⟨0, nI len, _, _, _, _, V_T ?_, fun m => V_T ?_, k, cF.up1 (by decide) _, mF.up1 (by decide) _⟩
  · unfold T_X5_clear R_X3_length T_X3_empty
    rw [d2]; rfl
  · unfold T_X6_clear
    dsimp only
    rw [d3]; rfl
theorem iJ_was (a : Int32) : iJ (O_X5_was a) (T_X5_was a) (fun _ => O_X6_was a) (fun _ => T_X6_was a) := by
  intro z g ζ γ h
  have ein : R_X6_in a.toInt64 0 7 = R_X5_within a 0 7 := pp_in a 0 7
  by_cases hw : R_X5_within a 0 7 = 0
  · obtain ⟨b1, b2, b3⟩ := iv_bad h (-2)
    refine ⟨0, -2, _, _, _, _, ?_, fun m => ?_, b3, cF.up1 (by decide) _, mF.up2 (by decide) _⟩
    · unfold O_X5_was T_X5_was
      exact V_pos hw (V_K0 b1 (V_T rfl))
    · unfold O_X6_was T_X6_was
      dsimp only
      exact V_pos (ein.trans hw) (V_K0 b2 (V_T rfl))
  · obtain ⟨k, k1, k2⟩ := pp_rng (N := 7) (by decide) hw
    subst k2
    obtain ⟨c1, c2⟩ := cp_at (k := 14) (i := k) (N := 8) (by decide) rfl (by omega) (by decide) z g
    refine ⟨0, g 14 k, z, g, ζ, γ, ?_, fun m => ?_, h, cF.refl _ _, mF.refl _ _⟩
    · unfold O_X5_was T_X5_was R_X4_fact O_X4_fact
      rw [c1]
      exact V_neg hw (V_and ⟨c2, trivial⟩ (V_T rfl))
    · unfold O_X6_was T_X6_was
      dsimp only
      have e : R_X6_toldWas (nI k) ζ γ = g 14 k ∧ O_X6_toldWas (nI k) ζ γ := by
        unfold R_X6_toldWas O_X6_toldWas
        rw [nI_clamp (by omega)]
        rcases h.2.2.2.2.2.2.2.2 with ⟨q0, f0, f1, f2, f3⟩ | ⟨q0, f⟩
        · rw [if_pos q0]
          refine ⟨?_, fun _ => trivial, fun q => absurd q0 q⟩
          rcases (show k = 0 ∨ k = 1 ∨ k = 2 ∨ 3 ≤ k by omega) with rfl | rfl | rfl | q3
          · rw [if_neg (by decide), if_neg (by decide), f0]
          · rw [if_pos (by decide), f1]
          · rw [if_neg (by decide), if_pos (by decide), f2]
          · have m1 : ¬ nI k = (1 : Int32) := fun q => absurd ((nI_eq (b := 1) (by omega) (by decide)).mp q) (by omega)
            have m2 : ¬ nI k = (2 : Int32) := fun q => absurd ((nI_eq (b := 2) (by omega) (by decide)).mp q) (by omega)
            rw [if_neg m1, if_neg m2, f3 k q3 (by omega)]
        · rw [if_neg q0, f k (by omega)]
          exact ⟨rfl, fun q => absurd q q0, fun _ => ⟨vp_in_nI (by omega) (by decide), trivial⟩⟩
      rw [e.1]
      exact V_neg (fun q => hw (ein.symm.trans q)) (V_and e.2 (V_T rfl))
theorem iJ_diary (a : Int32) : iJ (O_X5_diary a) (T_X5_diary a) (fun _ => O_X6_diary a) (fun _ => T_X6_diary a) := by
  intro z g ζ γ h
  obtain ⟨e1, e2, e3, ⟨w, e4, e5, e6⟩, e7⟩ := h.2.2.2.2
  have ew : R_X4_written 13 z g = nI w := e5
  by_cases h1 : (-1 : Int32) ≤ a
  · by_cases h2 : a = -1
    · refine ⟨0, nI w, z, g, ζ, γ, ?_, fun m => ?_, h, cF.refl _ _, mF.refl _ _⟩
      · unfold O_X5_diary T_X5_diary
        rw [ew]
        exact V_pos h1 (V_pos h2 (V_T rfl))
      · unfold O_X6_diary T_X6_diary
        dsimp only
        rw [e3, e5]
        exact V_pos h1 (V_pos h2 (V_T rfl))
    · by_cases h3 : nI w ≤ a
      · refine ⟨0, -5, z, g, ζ, γ, ?_, fun m => ?_, h, cF.refl _ _, mF.refl _ _⟩
        · unfold O_X5_diary T_X5_diary
          rw [ew]
          exact V_pos h1 (V_neg h2 (V_pos h3 (V_T rfl)))
        · unfold O_X6_diary T_X6_diary
          dsimp only
          rw [e3, e5]
          exact V_pos h1 (V_neg h2 (V_pos h3 (V_T rfl)))
      · have h0 : ¬ a < 0 := by
          intro q
          have a1 : a.toInt < 0 := Int32.lt_iff_toInt_lt.mp q
          have a2 : (-1 : Int32).toInt ≤ a.toInt := Int32.le_iff_toInt_le.mp h1
          rw [pp_m1] at a2
          exact h2 (Int32.toInt_inj.mp (by rw [pp_m1]; omega))
        obtain ⟨k, k1, k2⟩ := nI_of h0
        subst k2
        have kw : k < w := by
          rcases Nat.lt_or_ge k w with q | q
          · exact q
          · exact absurd (nI_le q k1) h3
        obtain ⟨c1, c2⟩ := cp_at (k := 15) (i := k) (N := 150) (by decide) rfl (by omega) (by decide) z g
        refine ⟨0, g 15 k, z, g, ζ, γ, ?_, fun m => ?_, h, cF.refl _ _, mF.refl _ _⟩
        · unfold O_X5_diary T_X5_diary R_X4_entry O_X4_entry
          rw [ew, c1]
          exact V_pos h1 (V_neg h2 (V_neg h3 (V_and ⟨c2, trivial⟩ (V_T rfl))))
        · unfold O_X6_diary T_X6_diary
          dsimp only
          rw [e3, e5, nI_clamp (by omega), e6 k kw]
          exact V_pos h1 (V_neg h2 (V_neg h3 (V_and (vp_in_nI (by omega) (by decide)) (V_T rfl))))
  · obtain ⟨b1, _, b3⟩ := iv_bad h (-2)
    obtain ⟨_, b2, _⟩ := iv_bad h (-10)
    refine ⟨0, -10, _, _, _, _, ?_, fun m => ?_, b3, cF.up1 (by decide) _, mF.up2 (by decide) _⟩
    · unfold O_X5_diary T_X5_diary
      exact V_neg h1 (V_K0 b1 (V_T rfl))
    · unfold O_X6_diary T_X6_diary
      dsimp only
      exact V_neg h1 (V_K0 b2 (V_T rfl))
theorem iJ_back : iJ O_X5_back T_X5_back (fun _ => O_X6_back) (fun _ => T_X6_back) := by
  intro z g ζ γ h
  obtain ⟨H, b1, b2, b3, b4⟩ := h.2.1
  by_cases h0 : H = 0
  · subst h0
    refine ⟨0, -3, va_up z 1 (z 1 + 1), g, ζ, va_up γ 23 (upd (γ 23) 1 (z 1 + 1)), ?_, fun m => ?_, iv_r h (by decide) _, cF.up1 (by decide) _, mF.up2 (by decide) _⟩
    · unfold O_X5_back T_X5_back R_X1_held
      rw [b2]
      refine V_pos (by decide) (V_K0 (r := -3) (z := va_up z 1 (z 1 + 1)) (g := g) ?_ (V_T rfl))
      unfold T_X5_refuse
      rw [if_neg (by decide), if_pos rfl]
    · unfold O_X6_back T_X6_back
      dsimp only
      rw [b3]
      refine V_pos (by decide) (V_K0 (r := -3) (z := ζ) (g := va_up γ 23 (upd (γ 23) 1 (z 1 + 1))) ?_ (V_T rfl))
      unfold T_X6_no
      rw [show (1 : Int32) = nI 1 from rfl, pp_st_lit (by decide), nI_clamp (by decide), h.2.2.1.2.1]
  · obtain ⟨J, hJ⟩ : ∃ J, H = J + 1 := ⟨H - 1, by omega⟩
    subst hJ
    obtain ⟨n1, n2⟩ := b4 J (by omega)
    have em : nI J * (58 : Int32) = nI (58 * J) := by rw [show (58 : Int32) = nI 58 from rfl, pk_mul, Nat.mul_comm]
    have hN : iN (g 6) (γ 22) J := fun j hj => b4 j (by omega)
    have I1 := iv_n h (H := J) (by omega) hN
    rw [up_self g 6 _ rfl, up_self γ 22 _ rfl] at I1
    have I2 := iv_h I1 (f := va_cpy (g 6) (g 2) (58 * J) 0 58) (k := fun i => if 0 ≤ i ∧ i < 58 then γ 22 (58 * J + i) else γ 21 i) (fun i hi => by
      rw [if_pos (by omega), pk_cpy_in (by omega) (by omega), n1 i hi]
      exact congrArg (g 6) (by omega)) (rW_congr (fun i hi => by
      rw [pk_cpy_in (by omega) (by omega)]
      exact congrArg (g 6) (by omega)) n2)
    refine ⟨0, nI J, _, _, _, _, ?_, fun m => ?_, I2, (cF.up1 (by decide) _).trans (cF.up2 (by decide) _), (mF.up1 (by decide) _).trans (mF.up2 (by decide) _)⟩
    · unfold O_X5_back T_X5_back R_X1_held O_X1_giveBack T_X1_giveBack nr_cp
      rw [b2, nI_pred, em, nI_clamp (by omega), show (58 : Int32) = nI 58 from rfl, nI_clamp (by decide)]
      refine V_neg (nI_ne0 (by omega) (by omega)) (V_K1 (V_neg (nI_nle (by omega) (by omega)) (V_and (nI_pos (by omega)) (V_and (by omega) (V_T rfl)))) (V_T ?_))
      rw [pp_up_eq]
      rfl
    · unfold O_X6_back T_X6_back
      dsimp only
      rw [b3, nI_pred]
      exact V_neg (nI_ne0 (by omega) (by omega)) (ra_back24 (by omega) (va_up ζ 20 (nI J)) (pp_up_eq _ _ _) 500 0 γ (by decide) (by decide))
