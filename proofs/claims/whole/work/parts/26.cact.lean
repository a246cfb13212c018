/-! two parts; an act; acts -/
section
variable {rc : pa_fn} {oc : pa_on} {tx : Nat → Int32} {len δ s A : Nat} {c : Int32}
theorem pa_two {L : (Nat → Nat → Int32) → Nat → Nat → Nat → Nat → Prop} (hLm : ∀ F F' a b p q, ly_ok F F' a b p q → L F a b p q → L F' a b p q) (hB : pa_Body tx len rc oc (δ + 1) L) (hF : pa_BodyF rc oc (δ + 1)) {z : Nat → Int32} {g : Nat → Nat → Int32} {ζ : Nat → Int32} {γ : Nat → Nat → Int32} {b : Nat} {dp rb cl : Int32} (hl : len ≤ 100) (hd : δ < 8) (hs : s < b) (hb : b ≤ len) (hA : A < 100) (hAb : A + 1 ≤ b) (hC : pa_CS tx len b (A + 1) dp rb z g) (h9 : z 9 = -1) (hR : pa_RS tx len (pp_s tx len b) (A + 1) dp rb ζ γ) (h27 : γ 27 δ = nI s) (h26 : γ 26 s = -1) (hcl : R_X6_endsBy (tx s) = cl) (hop : tx s = 40 ∨ tx s = 91) :
    ∃ z' g', nr_V (O_X3_readParts rc oc (nI A) 47 cl (nI (δ + 1)) z g) (T_X3_readParts rc oc (nI A) 47 cl (nI (δ + 1)) z g) (0, z', g') ∧ (pa_Fail (δ + 1) z g ζ γ z' g' ∨ ∃ A' e, pa_Good tx len (δ + 1) δ A s z g ζ γ z' g' A' e (fun F => ly_two (L F) tx len F A s e A' b cl) ∧ A < A' ∧ s < e ∧ ∀ k, k ≠ 11 → g' k A = g k A) := by
  obtain ⟨z1, g1, v1, r1⟩ := hB z g ζ γ b (A + 1) dp rb hb hAb hC h9 hR
  have p11 := pp_put (k := 11) (i := A) (v := z1 5) (z := z1) (g := g1) rfl rfl hA
  have hsb := pp_s_ge (tx := tx) hb
  rcases r1 with ⟨f, ζ1, γ1, f1, f2, f3, f4, f5⟩ | ⟨A1, q, ⟨dp1, rb1, ζ1, γ1, a1, a2, a3, a4, a5, a6, a7, a8, a9, aL⟩, hbq, hqq, hqn⟩
  · refine ⟨z1, va_up g1 11 (upd (g1 11) A (z1 5)), ?_, Or.inl ⟨f, ζ1, γ1, f1, f2, f3.trans (pa_C.g (A := 0) ⟨by decide, by decide⟩ (Nat.zero_le _) _).1, f4, f5⟩⟩
    have nf := pa_nf f1 f2
    unfold O_X3_readParts T_X3_readParts
    exact V_K v1 (V_K p11 (V_neg (by decide) (V_K (pp_expect_f nf 47) (V_K (hF _ _ nf) (pa_34f nf)))))
  · obtain ⟨b1, b2, b3, b4, b5, b6⟩ := id a2
    have g8 : va_up g1 11 (upd (g1 11) A (z1 5)) 8 = tx := by rw [pp_up_ne _ _ (by decide)]; exact b6
    have px := pp_expect (g := va_up g1 11 (upd (g1 11) A (z1 5))) b1 hl a7 b5 a1 47
    rw [g8, hqq] at px
    rw [hqq] at a4
    have hCw1 : pa_C A z g z1 (va_up g1 11 (upd (g1 11) A (z1 5))) := (a3.le (A := A) (by omega)).trans (pa_C.g ⟨by decide, by decide⟩ (Nat.le_refl _) _) (Nat.le_refl _)
    have h27' : γ1 27 δ = nI s := by rw [a5.2.1 δ (by omega)]; exact h27
    have h26' : γ1 26 s = -1 := by rw [(a5.2.2 s (by omega)).2]; exact h26
    by_cases hc : pp_c tx len q = 47
    · have hql : q < len := by
        by_cases x : q < len
        · exact x
        · rw [pp_c_ge x] at hc
          exact absurd hc (by decide)
      rw [pp_c_lt hql] at hc
      rw [pp_c_lt hql, if_pos hc] at px
      obtain ⟨ζ2, c1, c2, c3⟩ := pa_slash a4 hql hl hd h27' (by omega) hc hop h26'
      have hC2 : pa_CS tx len (q + 1) A1 dp1 rb1 (va_up z1 8 (nI (q + 1))) (va_up g1 11 (upd (g1 11) A (z1 5))) := ⟨by simp [va_up, b1], by simp [va_up, b2], by simp [va_up, b3], by simp [va_up, b4], by simp [va_up], g8⟩
      have h9' : va_up z1 8 (nI (q + 1)) 9 = -1 := by rw [pp_up_ne _ _ (by decide)]; exact a1
      obtain ⟨z3, g3, v3, r3⟩ := hB _ _ ζ2 (va_up γ1 26 (upd (γ1 26) s (nI q))) (q + 1) A1 dp1 rb1 (by omega) (by omega) hC2 h9' c1
      have hCw2 : pa_C A z g (va_up z1 8 (nI (q + 1))) (va_up g1 11 (upd (g1 11) A (z1 5))) := hCw1.trans (pa_C.z ⟨by decide, by decide⟩ _) (Nat.le_refl _)
      have hRw2 : pa_R δ s ζ γ ζ2 (va_up γ1 26 (upd (γ1 26) s (nI q))) := (a5.le (δ := δ) (s := s) (by omega) (by omega)).trans c2 (by omega) (Nat.le_refl _)
      rcases r3 with ⟨f, ζ3, γ3, f1, f2, f3, f4, f5⟩ | ⟨A3, q2, ⟨dp3, rb3, ζ3, γ3, d1, d2, d3, d4, d5, d6, d7, d8, d9, dL⟩, hbq2, hqq2, hqn2⟩
      · refine ⟨z3, g3, ?_, Or.inl ⟨f, ζ3, γ3, f1, f2, hCw2.1.trans f3, hRw2.1.trans f4, (a6.trans c3).ret f5⟩⟩
        have nf := pa_nf f1 f2
        unfold O_X3_readParts T_X3_readParts
        exact V_K v1 (V_K p11 (V_neg (by decide) (V_K px (V_K v3 (pa_34f nf)))))
      · obtain ⟨e1, e2, e3, e4, e5, e6⟩ := id d2
        have hsq := pp_s_ge (tx := tx) (len := len) (p := q + 1) (by omega)
        have p34 := pa_34 (rc := rc) (oc := oc) (cl := cl) (z := z3) (g := g3) e1 hl d7 e5 d1 e6
        rw [hqq2] at p34 d4
        have vv : nr_V (O_X3_readParts rc oc (nI A) 47 cl (nI (δ + 1)) z g) (T_X3_readParts rc oc (nI A) 47 cl (nI (δ + 1)) z g) (0, (if pp_c tx len q2 = cl then va_up z3 8 (nI (q2 + 1)) else va_up (va_up z3 8 (nI q2)) 9 (nI q2)), g3) := by
          unfold O_X3_readParts T_X3_readParts
          exact V_K v1 (V_K p11 (V_neg (by decide) (V_K px (V_K v3 p34))))
        have h273 : γ3 27 δ = nI s := by
          rw [d5.2.1 δ (by omega), pp_up_ne _ _ (by decide)]; exact h27'
        have h263 : γ3 26 s = nI q := by
          rw [(d5.2.2 s (by omega)).2, pp_up_eq, pk_us]
        have n263 : ¬ γ3 26 s = -1 := by rw [h263]; exact pp_nI_m1 (by omega)
        have hRw3 : pa_R δ s ζ γ ζ3 γ3 := hRw2.trans (d5.le (δ := δ) (s := s) (by omega) (by omega)) (Nat.le_refl _) (Nat.le_refl _)
        by_cases hc2 : pp_c tx len q2 = cl
        · have hql2 : q2 < len := by
            by_cases x : q2 < len
            · exact x
            · rw [pp_c_ge x] at hc2
              rcases pa_ends (tx s) with e | e | e | e | e <;> (rw [e] at hcl; rw [← hcl] at hc2; exact absurd hc2 (by decide))
          rw [pp_c_lt hql2] at hc2
          rw [pp_c_lt hql2, if_pos hc2] at vv
          obtain ⟨ζ4, i1, i2, i3⟩ := pa_close d4 hql2 hl hd h273 (by omega) (hc2.trans hcl.symm) (Or.inr n263)
          refine ⟨_, _, vv, Or.inr ⟨A3, q2 + 1, ⟨dp3, rb3, ζ4, va_up γ3 25 (upd (γ3 25) s (nI q2)), ?_, ?_, ?_, i1, ?_, (a6.trans c3).trans (d6.trans i3), by omega, by omega, by omega, ?_⟩, by omega, by omega, fun k hk => by rw [d3.2 k A (by omega), pp_up_ne _ _ hk]; exact a3.2 k A (by omega)⟩⟩
          · rw [pp_up_ne _ _ (by decide)]; exact d1
          · exact ⟨by simp [va_up, e1], by simp [va_up, e2], by simp [va_up, e3], by simp [va_up, e4], by simp [va_up], e6⟩
          · exact (hCw2.trans (d3.le (A := A) (by omega)) (Nat.le_refl _)).trans (pa_C.z ⟨by decide, by decide⟩ _) (Nat.le_refl _)
          · exact hRw3.trans i2 (by omega) (Nat.le_refl _)
          · refine ⟨A1, q, q2, ?_, hs, hbq, by omega, by omega, ?_, hql, hc, ?_, by omega, ?_, hql2, hc2, ?_, rfl⟩
            · show g3 11 A = nI A1
              rw [d3.2 11 A (by omega), pp_up_eq, pk_us]; exact b2
            · refine hLm _ _ _ _ _ _ (ly_F_ok (fun k i h1 h2 h3 h4 => ?_) (fun k i h1 h3 h4 => ?_)) aL
              · rw [d3.2 k i (by omega)]
                by_cases e : k = 11
                · subst e; rw [pp_up_eq, pk_un (by omega)]
                · rw [pp_up_ne _ _ e]
              · have hlow : ∀ k, k = 25 ∨ k = 26 → γ3 k i = va_up γ1 26 (upd (γ1 26) s (nI q)) k i := by
                  rintro k (rfl | rfl)
                  · exact (d5.2.2 i (by omega)).1
                  · exact (d5.2.2 i (by omega)).2
                by_cases e : k = 25
                · subst e; rw [pp_up_eq, pk_un (by omega), hlow 25 (Or.inl rfl), pp_up_ne _ _ (by decide)]
                · have e6 : k = 26 := by omega
                  subst e6
                  rw [pp_up_ne _ _ e, hlow 26 (Or.inr rfl), pp_up_eq, pk_un (by omega)]
            · show (va_up γ3 25 (upd (γ3 25) s (nI q2))) 26 s = nI q
              rw [pp_up_ne _ _ (by decide)]; exact h263
            · refine hLm _ _ _ _ _ _ (ly_F_ok (fun k i h1 h2 h3 h4 => rfl) (fun k i h1 h3 h4 => ?_)) dL
              by_cases e : k = 25
              · subst e; rw [pp_up_eq, pk_un (by omega)]
              · rw [pp_up_ne _ _ e]
            · show (va_up γ3 25 (upd (γ3 25) s (nI q2))) 25 s = nI q2
              rw [pp_up_eq, pk_us]
        · rw [if_neg hc2] at vv
          refine ⟨_, _, vv, Or.inl ⟨q2, ζ3, γ3, by omega, by simp [va_up], ?_, hRw3.1, ?_⟩⟩
          · exact (hCw2.1.trans d3.1).trans ((pa_C.z (A := 0) (i := 8) ⟨by decide, by decide⟩ _).1.trans (pa_C.z (A := 0) (i := 9) ⟨by decide, by decide⟩ _).1)
          · refine ((a6.trans c3).trans d6).ret ?_
            by_cases hql2 : q2 < len
            · rw [pp_c_lt hql2] at hc2
              exact pa_bad d4 hql2 hl hd h273 (by omega) (hqn2 hql2) (fun x => n263 x.2.2) (fun x => hc2 (x.1.trans hcl))
            · have e : q2 = len := by omega
              rw [e] at d4 ⊢
              have := pa_end (δ := δ + 1) d4 hl (by omega)
              rw [if_neg (by omega)] at this
              exact this
    · rw [if_neg hc] at px
      have n9 : ¬ va_up (va_up z1 8 (nI q)) 9 (nI q) 9 = -1 := by rw [pp_up_eq]; exact pp_nI_m1 (by omega)
      refine ⟨va_up (va_up z1 8 (nI q)) 9 (nI q), va_up g1 11 (upd (g1 11) A (z1 5)), ?_, Or.inl ⟨q, ζ1, γ1, by omega, by simp [va_up], ?_, a5.1, ?_⟩⟩
      · unfold O_X3_readParts T_X3_readParts
        exact V_K v1 (V_K p11 (V_neg (by decide) (V_K px (V_K (hF _ _ n9) (pa_34f n9)))))
      · exact hCw1.1.trans ((pa_C.z (A := 0) (i := 8) ⟨by decide, by decide⟩ _).1.trans (pa_C.z (A := 0) (i := 9) ⟨by decide, by decide⟩ _).1)
      · refine a6.ret ?_
        by_cases hql : q < len
        · rw [pp_c_lt hql] at hc
          refine pa_bad a4 hql hl hd h27' (by omega) (hqn hql) (fun x => hc x.1) (fun x => ?_)
          rcases x.2 with y | y
          · exact y hop
          · exact y h26'
        · have e : q = len := by omega
          rw [e] at a4 ⊢
          have := pa_end (δ := δ + 1) a4 hl (by omega)
          rw [if_neg (by omega)] at this
          exact this
end
