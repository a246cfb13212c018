/-! calls: goes, tries, often, told, root, open -/
def mk_row (a b : Nat → Int32) : Nat → Int32 := fun i => if 0 ≤ i ∧ i < 58 then a i else b i
theorem mk_in {a b : Nat → Int32} {i : Nat} (h : i < 58) : mk_row a b i = a i := if_pos ⟨Nat.zero_le _, h⟩
section
variable {len A : Nat} {z ζ z' ζ' : Nat → Int32} {g γ g' γ' : Nat → Nat → Int32}
theorem m_keep (ζ : Nat → Int32) (γ : Nat → Nat → Int32) : nr_V (O_X6_keep ζ γ) (T_X6_keep ζ γ) (0, ζ, va_up γ 35 (mk_row (γ 21) (γ 35))) := ra_keep2 ζ 500 0 γ (by decide) (by decide)
theorem m_bring (ζ : Nat → Int32) (γ : Nat → Nat → Int32) : nr_V (O_X6_bring ζ γ) (T_X6_bring ζ γ) (0, ζ, va_up γ 21 (mk_row (γ 35) (γ 21))) := ra_bring2 ζ 500 0 γ (by decide) (by decide)
theorem c_become (z : Nat → Int32) (g : Nat → Nat → Int32) : T_X0_become 3 z g = (0, z, va_up g 4 (va_cpy (g 2) (g 4) 0 0 58)) := by
  unfold T_X0_become nr_cp
  rw [show ((58 : Int32)).toNatClampNeg = 58 from nI_clamp (n := 58) (by decide), show ((0 : Int32)).toNatClampNeg = 0 from nI_clamp (n := 0) (by decide)]
theorem c_bec_in {f k : Nat → Int32} {i : Nat} (h : i < 58) : va_cpy f k 0 0 58 i = f i := by
  rw [pk_cpy_in (Nat.zero_le _) (by omega), Nat.zero_add, Nat.sub_zero]
theorem iv_L_cong (h : iv_L z g ζ γ) (h3 : γ' 33 = γ 33) (h4 : γ' 34 = γ 34) : iv_L z g ζ γ' := by
  unfold iv_L at h ⊢
  rw [h3, h4]; exact h
end
theorem iJ_goes : iJ (O_X5_goes 9) (T_X5_goes 9) O_X6_goes T_X6_goes := by
  intro z g ζ γ h
  obtain ⟨n, flt, z1, g1, ζ1, γ1, v1, v2, h1, c1, m1, hr⟩ := iv_read h
  by_cases hf : flt = -1
  · subst hf
    obtain ⟨len, A, hr, -⟩ := hr rfl
    obtain ⟨H, b1, b2, b3, b4⟩ := h1.2.1
    obtain ⟨p, P, H', hH', k5, k6, hN⟩ := iv_keep b1 b2 b3 b4 h1.1.1 h1.1.2
    have h2 := iv_n h1 hH' hN
    have hr2 : rdy len A (va_up z1 3 (nI H')) (va_up g1 6 p) (va_up ζ1 20 (nI H')) (va_up γ1 22 P) := rdy_cong hr (pp_up_ne _ _ (by decide)) (fun k a b => pp_up_ne _ _ (by omega)) (pp_up_ne _ _ (by decide)) (fun k a b => pp_up_ne _ _ (by omega))
    obtain ⟨n2, x, z3, g3, ζ2, γ2, ζ3, γ3, w1, w2, w3, fz, fg, fζ, fγ, hL, hHH, hW⟩ := run_kept ho1 hr2 h2.1.1 h2.1.2
    refine ⟨n + n2, x, z3, g3, ζ3, γ3, ?_, fun m => ?_, iv_new h2 (fun i hi => fz i (by omega)) (fun k hk => fg k (by omega)) (fun i hi => fζ i (by omega)) (fun k hk => fγ k (by omega)) ⟨hHH, hW⟩ hL, (c1.trans ((cF.up1 (by decide) _).trans (cF.up2 (by decide) _))).trans ⟨fun i hi => fz i (by omega), fun k hk => fg k (by omega)⟩, (m1.trans ((mF.up1 (by decide) _).trans (mF.up2 (by decide) _))).trans ⟨fun i hi => fζ i (by omega), fun k hk => fγ k (by omega)⟩⟩
    · unfold O_X5_goes T_X5_goes
      exact V_K v1 (V_pos rfl (V_K k5 (V_K1 w1 (V_T rfl))))
    · unfold O_X6_goes T_X6_goes
      have e1 := v2 (m + n2)
      have e2 := w2 (m + n)
      rw [show m + n2 + n = m + (n + n2) by omega] at e1
      rw [show m + n + n2 = m + (n + n2) by omega] at e2
      exact V_K e1 (V_pos rfl (V_K k6 (V_K e2 (V_K1 w3 (V_T rfl)))))
  · refine ⟨n, -10 - flt, z1, g1, ζ1, γ1, ?_, fun m => ?_, h1, c1, m1⟩
    · unfold O_X5_goes T_X5_goes
      exact V_K v1 (V_neg hf (V_T rfl))
    · unfold O_X6_goes T_X6_goes
      exact V_K (v2 m) (V_neg hf (V_T rfl))
theorem iJ_tries : iJ (O_X5_tries 9) (T_X5_tries 9) O_X6_tries T_X6_tries := by
  intro z g ζ γ h
  obtain ⟨n, flt, z1, g1, ζ1, γ1, v1, v2, h1, c1, m1, hr⟩ := iv_read h
  by_cases hf : flt = -1
  · subst hf
    obtain ⟨len, A, hr, -⟩ := hr rfl
    have kk := m_keep ζ1 γ1
    have kb := c_become z1 g1
    have ef : ∀ i, i < 58 → va_cpy (g1 2) (g1 4) 0 0 58 i = g1 2 i := fun i hi => c_bec_in hi
    generalize va_cpy (g1 2) (g1 4) 0 0 58 = f at kb ef
    have ek : ∀ i, i < 58 → mk_row (γ1 21) (γ1 35) i = γ1 21 i := fun i hi => mk_in hi
    generalize mk_row (γ1 21) (γ1 35) = k at kk ek
    have hr2 : rdy len A z1 (va_up g1 4 f) ζ1 (va_up γ1 35 k) := rdy_cong hr rfl (fun k a b => pp_up_ne _ _ (by omega)) rfl (fun k a b => pp_up_ne _ _ (by omega))
    obtain ⟨n2, x, z3, g3, ζ2, γ2, ζ3, γ3, w1, w2, w3, fz, fg, fζ, fγ, hL, hHH, hW⟩ := run_kept (h := 3) (Or.inr rfl) hr2 (fun i hi => by
      rw [pp_up_ne _ _ (by decide), pp_up_eq, ef i hi]; exact h1.1.1 i hi) (by
      rw [pp_up_eq]; exact rW_congr ef h1.1.2)
    have kr := m_bring ζ3 γ3
    have er : ∀ i, i < 58 → mk_row (γ3 35) (γ3 21) i = g1 2 i := fun i hi => by
      rw [mk_in hi, fγ 35 (by omega), pp_up_eq, ek i hi]; exact h1.1.1 i hi
    generalize mk_row (γ3 35) (γ3 21) = r at kr er
    have e2 : g3 2 = g1 2 := by rw [fg 2 (by omega), pp_up_ne _ _ (by decide)]
    refine ⟨n + n2, x, z3, g3, ζ3, va_up γ3 21 r, ?_, fun m => ?_, iv_new h1 (fun i hi => fz i (by omega)) (fun k hk => ?_) (fun i hi => fζ i (by omega)) (fun k hk => ?_) ⟨fun i hi => ?_, ?_⟩ (iv_L_cong hL (pp_up_ne _ _ (by decide)) (pp_up_ne _ _ (by decide))), c1.trans ⟨fun i hi => fz i (by omega), fun k hk => ?_⟩, m1.trans ⟨fun i hi => fζ i (by omega), fun k hk => ?_⟩⟩
    · unfold O_X5_tries T_X5_tries
      exact V_K v1 (V_pos rfl (V_Kn kb (V_K1 w1 (V_T rfl))))
    · unfold O_X6_tries T_X6_tries
      have e1 := v2 (m + n2)
      have e2 := w2 (m + n)
      rw [show m + n2 + n = m + (n + n2) by omega] at e1
      rw [show m + n + n2 = m + (n + n2) by omega] at e2
      exact V_K e1 (V_pos rfl (V_K kk (V_K e2 (V_K w3 (V_K1 kr (V_T rfl))))))
    · rw [fg k (by omega), pp_up_ne _ _ (by omega)]
    · rw [pp_up_ne _ _ (by omega), fγ k (by omega), pp_up_ne _ _ (by omega)]
    · rw [pp_up_eq, e2]; exact er i hi
    · rw [e2]; exact h1.1.2
    · rw [fg k (by omega), pp_up_ne _ _ (by omega)]
    · rw [pp_up_ne _ _ (by omega), fγ k (by omega), pp_up_ne _ _ (by omega)]
  · refine ⟨n, -10 - flt, z1, g1, ζ1, γ1, ?_, fun m => ?_, h1, c1, m1⟩
    · unfold O_X5_tries T_X5_tries
      exact V_K v1 (V_neg hf (V_T rfl))
    · unfold O_X6_tries T_X6_tries
      exact V_K (v2 m) (V_neg hf (V_T rfl))
theorem of_loop {len A N : Nat} (hN : N ≤ 3) : ∀ (j i : Nat) (z : Nat → Int32) (g : Nat → Nat → Int32) (ζ : Nat → Int32) (γ : Nat → Nat → Int32), i + j = N → iv z g ζ γ → rdy len A z g ζ γ → ∃ n x z' g' ζ' γ', (∀ q, nr_V (O_X5_often_50 9 (q + j + 2) (nI N) (nI i) (nI i) z g) (T_X5_often_50 9 (q + j + 2) (nI N) (nI i) (nI i) z g) (x, z', g')) ∧ (∀ q m, nr_V (O_X6_often_46 (m + n) (q + j + 2) (nI N) (nI i) 0 (nI i) ζ γ) (T_X6_often_46 (m + n) (q + j + 2) (nI N) (nI i) 0 (nI i) ζ γ) (x, ζ', γ')) ∧ iv z' g' ζ' γ' ∧ cF z g z' g' ∧ mF ζ γ ζ' γ'
  | 0, i, z, g, ζ, γ, hi, h, hr => by
    refine ⟨0, nI i, z, g, ζ, γ, fun q => ?_, fun q m => ?_, h, cF.refl _ _, mF.refl _ _⟩
    · rw [O_X5_often_50, T_X5_often_50]
      exact V_pos (nI_le (by omega) (by omega)) (V_T rfl)
    · rw [O_X6_often_46, T_X6_often_46]
      exact V_pos (nI_le (by omega) (by omega)) (V_T rfl)
  | j + 1, i, z, g, ζ, γ, hi, h, hr => by
    obtain ⟨n2, x, z3, g3, ζ2, γ2, ζ3, γ3, w1, w2, w3, fz, fg, fζ, fγ, hL, hHH, hW⟩ := run_kept ho1 hr h.1.1 h.1.2
    have h3 : iv z3 g3 ζ3 γ3 := iv_new h (fun i hi => fz i (by omega)) (fun k hk => fg k (by omega)) (fun i hi => fζ i (by omega)) (fun k hk => fγ k (by omega)) ⟨hHH, hW⟩ hL
    have cf : cF z g z3 g3 := ⟨fun i hi => fz i (by omega), fun k hk => fg k (by omega)⟩
    have mf : mF ζ γ ζ3 γ3 := ⟨fun i hi => fζ i (by omega), fun k hk => fγ k (by omega)⟩
    have nge : ¬ nI N ≤ nI i := nI_ge (by omega) (by omega)
    by_cases hx : x = 0
    · have hr3 : rdy len A z3 g3 ζ3 γ3 := rdy_cong hr (fz 5 (by omega)) (fun k a b => fg k (by omega)) (fζ 21 (by omega)) (fun k a b => fγ k (by omega))
      obtain ⟨n, y, z', g', ζ', γ', u5, u6, hv, cf', mf'⟩ := of_loop hN j (i + 1) z3 g3 ζ3 γ3 (by omega) h3 hr3
      refine ⟨n2 + n, y, z', g', ζ', γ', fun q => ?_, fun q m => ?_, hv, cf.trans cf', mf.trans mf'⟩
      · rw [show q + (j + 1) + 2 = (q + j + 2) + 1 by omega, O_X5_often_50, T_X5_often_50]
        have u := u5 q
        rw [← nI_1] at u
        exact V_neg nge (V_pos rfl (V_K w1 (V_pos hx u)))
      · rw [show q + (j + 1) + 2 = (q + j + 2) + 1 by omega, O_X6_often_46, T_X6_often_46]
        have u := u6 q (m + n2)
        have w := w2 (m + n)
        rw [← nI_1, show m + n2 + n = m + (n2 + n) by omega] at u
        rw [show m + n + n2 = m + (n2 + n) by omega] at w
        unfold O_X6_often_80 T_X6_often_80
        subst hx
        exact V_neg nge (V_pos rfl (V_K w (V_K w3 (V_pos rfl u))))
    · refine ⟨n2, nI i, z3, g3, ζ3, γ3, fun q => ?_, fun q m => ?_, h3, cf, mf⟩
      · rw [show q + (j + 1) + 2 = (q + j + 1 + 1) + 1 by omega, O_X5_often_50, T_X5_often_50]
        refine V_neg nge (V_pos rfl (V_K w1 (V_neg hx ?_)))
        rw [nI_1, O_X5_often_50, T_X5_often_50]
        by_cases e : N ≤ i + 1
        · exact V_pos (nI_le e (by omega)) (V_T rfl)
        · exact V_neg (nI_ge (by omega) (by omega)) (V_neg (fun q => absurd ((nI_eq (by omega) (by omega)).mp q) (by omega)) (V_T rfl))
      · rw [show q + (j + 1) + 2 = (q + j + 1 + 1) + 1 by omega, O_X6_often_46, T_X6_often_46]
        unfold O_X6_often_80 T_X6_often_80
        refine V_neg nge (V_pos rfl (V_K (w2 m) (V_K w3 (V_neg hx ?_))))
        have e0 : nI i + 0 = nI i := nI_add i 0
        rw [nI_1, e0, O_X6_often_46, T_X6_often_46]
        by_cases e : N ≤ i + 1
        · exact V_pos (nI_le e (by omega)) (V_T rfl)
        · exact V_neg (nI_ge (by omega) (by omega)) (V_neg hx (V_T rfl))
theorem iJ_often (a : Int32) : iJ (O_X5_often 9 a) (T_X5_often 9 a) (fun n => O_X6_often n a) (fun n => T_X6_often n a) := by
  intro z g ζ γ h
  have ein : R_X6_in a.toInt64 1 3 = R_X5_within a 1 3 := pp_in a 1 3
  by_cases hw : R_X5_within a 1 3 = 0
  · obtain ⟨b1, b2, b3⟩ := iv_bad h (-2)
    refine iv_bad2 (O5 := O_X5_often 9 a) (T5 := T_X5_often 9 a) (O6 := fun n => O_X6_often n a) (T6 := fun n => T_X6_often n a) h ?_ (fun m => ?_)
    · unfold O_X5_often T_X5_often
      exact V_pos hw (V_K0 b1 (V_T rfl))
    · show nr_V (O_X6_often m a ζ γ) (T_X6_often m a ζ γ) _
      unfold O_X6_often T_X6_often
      exact V_pos (ein.trans hw) (V_K0 b2 (V_T rfl))
  · obtain ⟨N, hN, eN⟩ : ∃ k, k ≤ 3 ∧ a = nI k := by
      have q : 1 ≤ a ∧ a ≤ 3 := Decidable.byContradiction (fun q => hw (pp_wn q))
      exact nI_of2 (M := 3) (n := 3) (by decide) (Int32.not_lt.mpr (Int32.le_trans (by decide) q.1)) q.2
    subst eN
    have hw6 : ¬ R_X6_in (nI N).toInt64 1 3 = 0 := fun q => hw (ein.symm.trans q)
    obtain ⟨n, flt, z1, g1, ζ1, γ1, v1, v2, h1, c1, m1, hr⟩ := iv_read h
    by_cases hf : flt = -1
    · subst hf
      obtain ⟨len, A, hr, -⟩ := hr rfl
      obtain ⟨H, b1, b2, b3, b4⟩ := h1.2.1
      obtain ⟨p, P, H', hH', k5, k6, hNN⟩ := iv_keep b1 b2 b3 b4 h1.1.1 h1.1.2
      have h2 := iv_n h1 hH' hNN
      have hr2 : rdy len A (va_up z1 3 (nI H')) (va_up g1 6 p) (va_up ζ1 20 (nI H')) (va_up γ1 22 P) := rdy_cong hr (pp_up_ne _ _ (by decide)) (fun k a b => pp_up_ne _ _ (by omega)) (pp_up_ne _ _ (by decide)) (fun k a b => pp_up_ne _ _ (by omega))
      obtain ⟨n2, x, z3, g3, ζ3, γ3, w1, w2, h3, cf, mf⟩ := of_loop hN N 0 _ _ _ _ (by omega) h2 hr2
      refine ⟨n + n2, x, z3, g3, ζ3, γ3, ?_, fun m => ?_, h3, (c1.trans ((cF.up1 (by decide) _).trans (cF.up2 (by decide) _))).trans cf, (m1.trans ((mF.up1 (by decide) _).trans (mF.up2 (by decide) _))).trans mf⟩
      · unfold O_X5_often T_X5_often
        have u := w1 (498 - N)
        rw [show 498 - N + N + 2 = 500 by omega] at u
        exact V_neg hw (V_K v1 (V_pos rfl (V_K k5 u)))
      · show nr_V (O_X6_often (m + (n + n2)) (nI N) ζ γ) (T_X6_often (m + (n + n2)) (nI N) ζ γ) _
        unfold O_X6_often T_X6_often
        have e1 := v2 (m + n2)
        have u := w2 (498 - N) (m + n)
        rw [show m + n2 + n = m + (n + n2) by omega] at e1
        rw [show 498 - N + N + 2 = 500 by omega, show m + n + n2 = m + (n + n2) by omega] at u
        exact V_neg hw6 (V_K e1 (V_pos rfl (V_K k6 u)))
    · refine ⟨n, -10 - flt, z1, g1, ζ1, γ1, ?_, fun m => ?_, h1, c1, m1⟩
      · unfold O_X5_often T_X5_often
        exact V_neg hw (V_K v1 (V_neg hf (V_T rfl)))
      · show nr_V (O_X6_often (m + n) (nI N) ζ γ) (T_X6_often (m + n) (nI N) ζ γ) _
        unfold O_X6_often T_X6_often
        exact V_neg hw6 (V_K (v2 m) (V_neg hf (V_T rfl)))
theorem iJ_told (a : Int32) : iJ (O_X5_told 9 a) (T_X5_told 9 a) (fun n => O_X6_told n a) (fun n => T_X6_told n a) := by
  intro z g ζ γ h
  have ein : R_X6_in a.toInt64 0 2 = R_X5_within a 0 2 := pp_in a 0 2
  by_cases hw : R_X5_within a 0 2 = 0
  · obtain ⟨b1, b2, b3⟩ := iv_bad h (-2)
    refine iv_bad2 (O5 := O_X5_told 9 a) (T5 := T_X5_told 9 a) (O6 := fun n => O_X6_told n a) (T6 := fun n => T_X6_told n a) h ?_ (fun m => ?_)
    · unfold O_X5_told T_X5_told
      exact V_pos hw (V_K0 b1 (V_T rfl))
    · show nr_V (O_X6_told m a ζ γ) (T_X6_told m a ζ γ) _
      unfold O_X6_told T_X6_told
      exact V_pos (ein.trans hw) (V_K0 b2 (V_T rfl))
  · have hw6 : ¬ R_X6_in a.toInt64 0 2 = 0 := fun q => hw (ein.symm.trans q)
    obtain ⟨n, flt, z1, g1, ζ1, γ1, v1, v2, h1, c1, m1, hr⟩ := iv_read h
    by_cases hf : flt = -1
    · subst hf
      obtain ⟨len, A, -, t1, t2, t3⟩ := hr rfl
      refine ⟨n, if a = 0 then z1 5 else if a = 1 then z1 6 else z1 7, z1, g1, ζ1, γ1, ?_, fun m => ?_, h1, c1, m1⟩
      · unfold O_X5_told T_X5_told R_X3_acts R_X3_deepest R_X3_roomBits
        refine V_neg hw (V_K1 v1 (V_posT rfl ?_))
        by_cases e0 : a = 0
        · rw [if_pos e0, if_pos e0]; exact V_T rfl
        · rw [if_neg e0, if_neg e0]
          by_cases e1 : a = 1
          · rw [if_pos e1, if_pos e1]; exact V_T rfl
          · rw [if_neg e1, if_neg e1]; exact V_T rfl
      · show nr_V (O_X6_told (m + n) a ζ γ) (T_X6_told (m + n) a ζ γ) _
        unfold O_X6_told T_X6_told
        refine V_neg hw6 (V_K1 (v2 m) (V_posT rfl ?_))
        rw [t1, t2, t3]
        by_cases e0 : a = 0
        · rw [if_pos e0, if_pos e0]; exact V_T rfl
        · rw [if_neg e0, if_neg e0]
          by_cases e1 : a = 1
          · rw [if_pos e1, if_pos e1]; exact V_T rfl
          · rw [if_neg e1, if_neg e1]; exact V_T rfl
    · refine ⟨n, -10 - flt, z1, g1, ζ1, γ1, ?_, fun m => ?_, h1, c1, m1⟩
      · unfold O_X5_told T_X5_told
        exact V_neg hw (V_K1 v1 (V_negT hf (V_T rfl)))
      · show nr_V (O_X6_told (m + n) a ζ γ) (T_X6_told (m + n) a ζ γ) _
        unfold O_X6_told T_X6_told
        exact V_neg hw6 (V_K1 (v2 m) (V_negT hf (V_T rfl)))
theorem iJ_root {z ζ : Nat → Int32} {g γ : Nat → Nat → Int32} (h : iv z g ζ γ) : R_X5_root z g = R_X6_root ζ γ := h.2.2.2.2.2.1.symm
theorem iJ_open {z ζ : Nat → Int32} {g γ : Nat → Nat → Int32} (h : iv z g ζ γ) : R_X5_open z g = R_X6_open := h.2.2.2.2.1
