/-! acts one behind the other; all levels; the whole text -/
theorem pa_act {rc : pa_fn} {oc : pa_on} {tx : Nat → Int32} {len δ A : Nat} {L : (Nat → Nat → Int32) → Nat → Nat → Nat → Nat → Prop} (hLm : ∀ F F' a b p q, ly_ok F F' a b p q → L F a b p q → L F' a b p q) (hd : δ ≤ 8) (hB : δ < 8 → pa_Body tx len rc oc (δ + 1) L) (hF : δ < 8 → pa_BodyF rc oc (δ + 1)) {z : Nat → Int32} {g : Nat → Nat → Int32} {ζ : Nat → Int32} {γ : Nat → Nat → Int32} {p : Nat} {dp rb : Int32} (hl : len ≤ 100) (hp : p ≤ len) (hAp : A ≤ p) (hC : pa_CS tx len p A dp rb z g) (h9 : z 9 = -1) (hs : pp_s tx len p < len) (hR : pa_RS tx len (pp_s tx len p) A dp rb ζ γ) (h0 : ¬ R_X3_beginsAct (tx (pp_s tx len p)) = 0) :
    ∃ z' g', nr_V (O_X3_readAct rc oc (nI δ) z g) (T_X3_readAct rc oc (nI δ) z g) (0, z', g') ∧ (pa_Fail δ z g ζ γ z' g' ∨ ∃ A' e, pa_Good tx len δ δ A (pp_s tx len p) z g ζ γ z' g' A' e (fun F => ly_act (L F) tx len F A (pp_s tx len p) e A') ∧ pp_s tx len p < e) := by
  rcases pa_begins' h0 with hh | ⟨hh, hc⟩
  · by_cases h8 : δ < 8
    · exact pa_act_hold hLm (hB h8) (hF h8) hl h8 hp hAp hC h9 hs hR hh
    · have e : δ = 8 := by omega
      subst e
      obtain ⟨z', g', v, f⟩ := pa_act_deep (rc := rc) (oc := oc) hl hp hC hs hR hh
      exact ⟨z', g', v, Or.inl f⟩
  · exact pa_act_smp hl hd hp hAp hC h9 hs hR hh hc
/-- the loop of acts: i acts have been read already -/
theorem pa_loop {rc : pa_fn} {oc : pa_on} {tx : Nat → Int32} {len δ : Nat} {L : (Nat → Nat → Int32) → Nat → Nat → Nat → Nat → Prop} (hLm : ∀ F F' a b p q, ly_ok F F' a b p q → L F a b p q → L F' a b p q) (hd : δ ≤ 8) (hB : δ < 8 → pa_Body tx len rc oc (δ + 1) L) (hF : δ < 8 → pa_BodyF rc oc (δ + 1)) (hl : len ≤ 100) :
    ∀ (n m i : Nat) (z : Nat → Int32) (g : Nat → Nat → Int32) (ζ : Nat → Int32) (γ : Nat → Nat → Int32) (p A : Nat) (dp rb : Int32), len - p ≤ n → n < m → i ≤ p → p ≤ len → A ≤ p → pa_CS tx len p A dp rb z g → z 9 = -1 → pa_RS tx len (pp_s tx len p) A dp rb ζ γ →
      ∃ z' g', nr_V (O_X3_readActs_2 rc oc m (nI δ) (nI i) z g) (T_X3_readActs_2 rc oc m (nI δ) (nI i) z g) (0, z', g') ∧ (pa_Fail δ z g ζ γ z' g' ∨ ∃ A' p', pa_Good tx len δ δ A (pp_s tx len p) z g ζ γ z' g' A' p' (fun F => ∃ k, ly_seq (ly_act (L F) tx len F) tx len k A A' p p') ∧ p ≤ p' ∧ pp_s tx len p' = p' ∧ (p' < len → R_X3_beginsAct (tx p') = 0)) := by
  intro n
  induction n with
  | zero =>
    intro m i z g ζ γ p A dp rb h1 h2 hi hp hA hC h9 hR
    obtain ⟨m, rfl⟩ : ∃ k, m = k + 1 := ⟨m - 1, by omega⟩
    obtain ⟨b1, b2, b3, b4, b5, b6⟩ := id hC
    have hpl : p = len := by omega
    have hst : pp_s tx len p = p := pp_s_stop (by omega)
    have good : ∀ z', z' = z → pa_Good tx len δ δ A (pp_s tx len p) z g ζ γ z' g A p (fun F => ∃ k, ly_seq (ly_act (L F) tx len F) tx len k A A p p) := by
      intro z' hz
      subst hz
      exact ⟨dp, rb, ζ, γ, h9, hC, pa_C.refl _ _ _, hR, pa_R.refl _ _ _ _, pa_D.refl _ _ _, hp, Nat.le_refl _, hA, 0, rfl, hp, hst.symm⟩
    rw [O_X3_readActs_2, T_X3_readActs_2]
    by_cases h100 : (100 : Int32) ≤ nI i
    · exact ⟨z, g, V_pos h100 (V_T rfl), Or.inr ⟨A, p, good z rfl, Nat.le_refl _, hst, fun q => by omega⟩⟩
    · have e := pp_nx (g := g) b1 hl hp b5
      rw [b6, hst, pp_c_ge (by omega), pp_up_self z 8 _ b5] at e
      exact ⟨z, g, V_neg h100 (V_pos h9 (V_K e (V_pos (by decide) (V_T rfl)))), Or.inr ⟨A, p, good z rfl, Nat.le_refl _, hst, fun q => by omega⟩⟩
  | succ n ih =>
    intro m i z g ζ γ p A dp rb h1 h2 hi hp hA hC h9 hR
    obtain ⟨m, rfl⟩ : ∃ k, m = k + 1 := ⟨m - 1, by omega⟩
    obtain ⟨b1, b2, b3, b4, b5, b6⟩ := id hC
    rw [O_X3_readActs_2, T_X3_readActs_2]
    by_cases h100 : (100 : Int32) ≤ nI i
    · have hi100 : 100 ≤ i := (nI_leI (a := 100) (b := i) (by decide) (by omega)).mp h100
      have hst : pp_s tx len p = p := pp_s_stop (by omega)
      exact ⟨z, g, V_pos h100 (V_T rfl), Or.inr ⟨A, p, ⟨dp, rb, ζ, γ, h9, hC, pa_C.refl _ _ _, hR, pa_R.refl _ _ _ _, pa_D.refl _ _ _, hp, Nat.le_refl _, hA, 0, rfl, hp, hst.symm⟩, Nat.le_refl _, hst, fun q => by omega⟩⟩
    · have hsg := pp_s_ge (tx := tx) hp
      have hsl := pp_s_le (tx := tx) hp
      have e := pp_nx (g := g) b1 hl hp b5
      rw [b6] at e
      have hC1 : pa_CS tx len (pp_s tx len p) A dp rb (va_up z 8 (nI (pp_s tx len p))) g := ⟨by simp [va_up, b1], by simp [va_up, b2], by simp [va_up, b3], by simp [va_up, b4], by simp [va_up], b6⟩
      have h91 : va_up z 8 (nI (pp_s tx len p)) 9 = -1 := by rw [pp_up_ne _ _ (by decide)]; exact h9
      have hss := pp_s_s (tx := tx) hp
      have hR1 : pa_RS tx len (pp_s tx len (pp_s tx len p)) A dp rb ζ γ := by rw [hss]; exact hR
      have hCz : pa_C A z g (va_up z 8 (nI (pp_s tx len p))) g := pa_C.z ⟨by decide, by decide⟩ _
      by_cases hbg : R_X3_beginsAct (pp_c tx len (pp_s tx len p)) = 0
      · refine ⟨va_up z 8 (nI (pp_s tx len p)), g, V_neg h100 (V_pos h9 (V_K e (V_pos hbg (V_T rfl)))), Or.inr ⟨A, pp_s tx len p, ⟨dp, rb, ζ, γ, h91, hC1, hCz, hR1, pa_R.refl _ _ _ _, pa_D.refl _ _ _, hsl, Nat.le_refl _, by omega, 0, rfl, hp, rfl⟩, hsg, hss, fun q => ?_⟩⟩
        rw [pp_c_lt q] at hbg
        exact hbg
      · have hsl2 : pp_s tx len p < len := by
          by_cases q : pp_s tx len p < len
          · exact q
          · rw [pp_c_ge q] at hbg
            exact absurd (by decide) hbg
        rw [pp_c_lt hsl2] at hbg
        rw [pp_c_lt hsl2] at e
        obtain ⟨z2, g2, v2, o2⟩ := pa_act (rc := rc) (oc := oc) (L := L) (A := A) hLm hd hB hF hl hsl (by omega) hC1 h91 (by rw [hss]; exact hsl2) hR1 (by rw [hss]; exact hbg)
        rw [hss] at o2
        rcases o2 with ⟨f, ζ', γ', f1, f2, f3, f4, f5⟩ | ⟨A2, e2, ⟨dp2, rb2, ζ2, γ2, a1, a2, a3, a4, a5, a6, a7, a8, a9, aL⟩, hse⟩
        · -- a fault: the loop ends
          obtain ⟨m, rfl⟩ : ∃ k, m = k + 1 := ⟨m - 1, by omega⟩
          refine ⟨z2, g2, V_neg h100 (V_pos h9 (V_K e (V_neg hbg (V_K v2 ?_)))), Or.inl ⟨f, ζ', γ', f1, f2, hCz.1.trans f3, f4, f5⟩⟩
          rw [O_X3_readActs_2, T_X3_readActs_2]
          by_cases h1002 : (100 : Int32) ≤ nI i + 1
          · exact V_pos h1002 (V_T rfl)
          · exact V_neg h1002 (V_neg (pa_nf f1 f2) (V_T rfl))
        · obtain ⟨z3, g3, v3, o3⟩ := ih m (i + 1) z2 g2 ζ2 γ2 e2 A2 dp2 rb2 (by omega) (by omega) (by omega) a7 a9 a2 a1 a4
          have hsg2 := pp_s_ge (tx := tx) a7
          refine ⟨z3, g3, V_neg h100 (V_pos h9 (V_K e (V_neg hbg (V_K v2 ?_)))), ?_⟩
          · rw [nI_1]; exact v3
          · rcases o3 with ⟨f, ζ', γ', f1, f2, f3, f4, f5⟩ | ⟨A3, p3, ⟨dp3, rb3, ζ3, γ3, c1, c2, c3, c4, c5, c6, c7, c8, c9, k, cL⟩, hpp, hpq, hpn⟩
            · exact Or.inl ⟨f, ζ', γ', f1, f2, (hCz.1.trans a3.1).trans f3, a5.1.trans f4, a6.ret f5⟩
            · refine Or.inr ⟨A3, p3, ⟨dp3, rb3, ζ3, γ3, c1, c2, (hCz.trans a3 (Nat.le_refl _)).trans c3 a8, c4, a5.trans c5 (Nat.le_refl _) (by omega), a6.trans c6, c7, by omega, c9, k + 1, e2, A2, hp, hsl2, ?_, c8, hpp, cL⟩, by omega, hpq, hpn⟩
              refine ly_act_move (fun a b p q => hLm _ _ a b p q) (ly_F_ok (fun k i h1 h2 h3 h4 => c3.2 k i h4) (fun k i h1 h3 h4 => ?_)) aL
              rcases h1 with rfl | rfl
              · exact (c5.2.2 i (by omega)).1
              · exact (c5.2.2 i (by omega)).2
theorem pa_nA_F (j δ : Nat) : pa_BodyF (nA (j + 1)).1 (nA (j + 1)).2 δ := by
  intro z g h9
  show nr_V (O_X3_readActs (nA j).1 (nA j).2 (nI δ) z g) (T_X3_readActs (nA j).1 (nA j).2 (nI δ) z g) (0, z, g)
  unfold O_X3_readActs T_X3_readActs
  rw [show (500 : Nat) = 499 + 1 from rfl, O_X3_readActs_2, T_X3_readActs_2]
  exact V_neg (by decide) (V_neg h9 (V_T rfl))
/-- all levels -/
theorem pa_nA (tx : Nat → Int32) (len : Nat) (hl : len ≤ 100) : ∀ (j : Nat), j ≤ 8 → pa_Body tx len (nA (j + 1)).1 (nA (j + 1)).2 (8 - j) (fun F => ly tx len F j) := by
  intro j
  induction j with
  | zero =>
    intro _ z g ζ γ p A dp rb hp hA hC h9 hR
    exact pa_loop (rc := (nA 0).1) (oc := (nA 0).2) (L := fun _ _ _ _ _ => False) (fun _ _ _ _ _ _ _ h => h) (Nat.le_refl _) (fun q => absurd q (by decide)) (fun q => absurd q (by decide)) hl 100 500 0 z g ζ γ p A dp rb (by omega) (by decide) (Nat.zero_le _) hp hA hC h9 hR
  | succ j ih =>
    intro hj z g ζ γ p A dp rb hp hA hC h9 hR
    have e : 8 - (j + 1) + 1 = 8 - j := by omega
    exact pa_loop (rc := (nA (j + 1)).1) (oc := (nA (j + 1)).2) (L := fun F => ly tx len F j) (fun F F' a b p q h => ly_move j a b p q h) (by omega) (fun _ => by rw [e]; exact ih (by omega)) (fun _ => pa_nA_F j _) hl 100 500 0 z g ζ γ p A dp rb (by omega) (by decide) (Nat.zero_le _) hp hA hC h9 hR
