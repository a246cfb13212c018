/-! into a room -/
section
variable {D : Nat → Prop} {tx : Nat → Int32} {len : Nat} {SL EN : Nat → Int32} {F : Nat → Nat → Int32} {z : Nat → Int32} {g : Nat → Nat → Int32} {h t : Nat} {f fa en : Nat → Int32} {wr inn dr room left sec : Int32} {ζ ζ1 : Nat → Int32} {γ γ1 : Nat → Nat → Int32} {a s e c δ q r m : Nat} {rc : Int32 → Int32 → Int32 → Int32 → nr_S → Int32 × nr_S} {oc : Int32 → Int32 → Int32 → Int32 → nr_S → Prop} {L : Nat → Nat → Nat → Nat → Prop}
theorem rz_n_F {w : Nat} {v : Int32} : rF δ ζ γ (rz_n w ζ) (rg_n w v γ) := rn_F v
theorem rg_shut (E : rO tx len SL EN F z g h t) (R : rr D tx len SL EN f fa en wr inn dr ζ γ) (hr : r < 8) {x : Int32} (hx : x = 1 ∨ x = 0) : ∃ f' en' wr' ζ' γ', nr_V (O_X6_shuts (nI r) ζ γ) (T_X6_shuts (nI r) ζ γ) (0, ζ', γ') ∧ nr_V (O_X2_goInto_86 rc oc (nI r) x (PZ z t wr inn dr) (PG g h t f fa en)) (T_X2_goInto_86 rc oc (nI r) x (PZ z t wr inn dr) (PG g h t f fa en)) (x, PZ z t wr' inn (dr - 1), PG g h t f' fa en') ∧ rr D tx len SL EN f' fa en' wr' inn (dr - 1) ζ' γ' ∧ (∀ δ, rF δ ζ γ ζ' γ') ∧ (∀ k, 29 ≤ k → k ≤ 32 → γ' k = γ k) ∧ ∀ i, i = 25 ∨ i = 35 ∨ i = 36 → ζ' i = ζ i := by
  obtain ⟨w26, w, w1, w2, w3⟩ := R.2.2.2.2.1
  subst w2
  have e37 : ζ 37 = dr := R.2.2.1.2.2.2
  have R1 := rr_37 R (dr - 1)
  have R2 := rr_n w1 R1 (20 + nI r)
  have vN := ra_notes (γ := γ) (ζ := va_up ζ 37 (dr - 1)) w1 (by rw [pp_up_ne _ _ (by decide)]; exact w26) (20 + nI r)
  obtain ⟨as1, as2, as3⟩ := ra_asl R2 hr
  obtain ⟨l1, l2⟩ := ra_loud R2 hr
  obtain ⟨a3, b3⟩ := ra_c R2 hr (w := 3) (by decide) (by decide)
  have a3' : R_X6_at (nI r) 3 (rz_n w (va_up ζ 37 (dr - 1))) (rg_n w (20 + nI r) γ) = f (7 * r + 3) := a3
  have hn : narrow .boolean (.int x) = .int x := by rcases hx with e | e <;> rw [e] <;> rfl
  have FN : ∀ δ, rF δ ζ γ (rz_n w (va_up ζ 37 (dr - 1))) (rg_n w (20 + nI r) γ) := fun δ => (rF.z (i := 37) ⟨by decide, by decide⟩ _).trans (rn_F _) (Nat.le_refl _)
  have oz : ∀ i, i = 25 ∨ i = 35 ∨ i = 36 → rz_n w (va_up ζ 37 (dr - 1)) i = ζ i := fun i hi => by rw [rz_n_o (by omega), pp_up_ne _ _ (by omega)]
  by_cases wk : pl_wk f r (pl_loud (f (7 * r)) (f (7 * r + 6)) - 1)
  · obtain ⟨s1, s2⟩ := as3 wk.1
    refine ⟨upd f (7 * r + 4) 1, pt_e en w (20 + nI r), nI (pt_n w), rz_n w (va_up ζ 37 (dr - 1)), va_up (rg_n w (20 + nI r) γ) 21 (upd (rg_n w (20 + nI r) γ 21) (7 * r + 4) 1), ?_, ?_, rr_h R2 (fun r1 h1 => by omega) (rW_upd R.2.1 hr (by decide) (Or.inr rfl) (by decide) (fun _ => s2)), fun δ => (FN δ).trans (rF.h _ (Or.inl rfl)) (Nat.le_refl _), fun k h1 h2 => by rw [pp_up_ne _ _ (by omega), rg_n_o (by omega)], oz⟩
    · unfold O_X6_shuts T_X6_shuts
      rw [e37]
      refine V_K vN (V_and as2 (V_neg (fun q => wk.1 (as1.mp q)) ?_))
      rw [l1, a3', s1]
      exact V_and l2 (V_and b3 (V_neg (fun q => absurd wk.2 (Int32.not_le.mpr q)) (V_K1 (ra_put hr (w := 4) (by decide) _ _ _) (V_T rfl))))
    · unfold O_X2_goInto_86 T_X2_goInto_86
      rw [rO_17 E]
      refine V_and E.2.1 (V_K (cp_shut E.1 E.2.1 w1 _) ?_)
      obtain ⟨c1, c2⟩ := cp_loud (z := z) (g := g) (f := f) (fa := fa) (en := pt_e en w (20 + nI r)) (wr := nI (pt_n w)) (inn := inn) (dr := dr - 1) E.1 E.2.1 hr
      rw [rO_16 E, c1]
      exact V_and E.1 (V_and c2 (V_and E.1 (V_K (cp_wk_y E.1 E.2.1 hr wk) (V_and hn (V_T rfl)))))
  · refine ⟨f, pt_e en w (20 + nI r), nI (pt_n w), rz_n w (va_up ζ 37 (dr - 1)), rg_n w (20 + nI r) γ, ?_, ?_, R2, FN, fun k h1 h2 => rg_n_o (by omega), oz⟩
    · unfold O_X6_shuts T_X6_shuts
      rw [e37]
      refine V_K vN (V_and as2 ?_)
      by_cases h0 : pl_slp f r = 0
      · exact V_pos (as1.mpr h0) (V_T rfl)
      · obtain ⟨s1, s2⟩ := as3 h0
        refine V_neg (fun q => h0 (as1.mp q)) ?_
        rw [l1, a3', s1]
        exact V_and l2 (V_and b3 (V_pos (Int32.not_le.mp (fun q => wk ⟨h0, q⟩)) (V_T rfl)))
    · unfold O_X2_goInto_86 T_X2_goInto_86
      rw [rO_17 E]
      refine V_and E.2.1 (V_K (cp_shut E.1 E.2.1 w1 _) ?_)
      obtain ⟨c1, c2⟩ := cp_loud (z := z) (g := g) (f := f) (fa := fa) (en := pt_e en w (20 + nI r)) (wr := nI (pt_n w)) (inn := inn) (dr := dr - 1) E.1 E.2.1 hr
      rw [rO_16 E, c1]
      exact V_and E.1 (V_and c2 (V_and E.1 (V_K (cp_wk_n E.1 E.2.1 hr wk) (V_and hn (V_T rfl)))))
theorem ra_popsR (E : rO tx len SL EN F z g h t) (R : rr D tx len SL EN f fa en wr inn dr ζ γ) (hr : r < 8) {x : Int32} (hx : x = 1 ∨ x = 0) (h35 : ζ 35 = nI (δ + 1)) (hd : δ < 9) (hP : rP δ s room left sec γ) (hs : s < len) (hw : ¬ R_X5_within (tx s) 48 55 = 0) (ht : tx s - 48 = nI r) : ∃ f' en' wr' ζ' γ', nr_V (O_X6_pops ζ γ) (T_X6_pops ζ γ) (0, ζ', γ') ∧ nr_V (O_X2_goInto_86 rc oc (nI r) x (PZ z t wr inn dr) (PG g h t f fa en)) (T_X2_goInto_86 rc oc (nI r) x (PZ z t wr inn dr) (PG g h t f fa en)) (x, PZ z t wr' inn (dr - 1), PG g h t f' fa en') ∧ rr D tx len SL EN f' fa en' wr' inn (dr - 1) ζ' γ' ∧ rF δ ζ γ ζ' γ' ∧ ζ' 35 = nI δ ∧ ζ' 36 = room ∧ ζ' 25 = ζ 25 := by
  have hl := E.2.2.2.2.1
  obtain ⟨f', en', wr', ζ', γ', v1, v2, R1, F1, o1, o2⟩ := rg_shut (rc := rc) (oc := oc) E (rr_z R (Or.inr (Or.inl rfl)) (nI δ)) hr hx
  have e35 : ζ' 35 = nI δ := by rw [o2 35 (by decide), pp_up_eq]
  refine ⟨f', en', wr', va_up ζ' 36 room, γ', ?_, v2, rr_z R1 (Or.inr (Or.inr rfl)) _, ((rF.z (i := 35) ⟨by decide, by decide⟩ _).trans (F1 δ) (Nat.le_refl _)).trans (rF.z ⟨by decide, by decide⟩ _) (Nat.le_refl _), by rw [pp_up_ne _ _ (by decide)]; exact e35, pp_up_eq _ _ _, by rw [pp_up_ne _ _ (by decide), o2 25 (by decide), pp_up_ne _ _ (by decide)]⟩
  unfold O_X6_pops T_X6_pops
  rw [h35, nI_pred, nI_clamp (by omega), hP.1, nI_clamp (by omega), rr_24 R s hs, pp_in07, ht]
  refine V_and (vp_in_nI hd (by decide)) (V_and (vp_in_nI (by omega) (by decide)) (V_neg hw (V_K v1 ?_)))
  unfold O_X6_pops_47 T_X6_pops_47
  rw [e35, nI_clamp (by omega), o1 30 (by decide) (by decide), hP.2.1]
  exact V_and (vp_in_nI hd (by decide)) (V_T rfl)
theorem rg_endR (E : rO tx len SL EN F z g h t) (R : rr D tx len SL EN f fa en wr inn dr ζ γ) (hr : r < 8) {x : Int32} (hx : (x = 1 ∧ fa 0 = 0 ∧ ζ 25 = nI q) ∨ (x = 0 ∧ ¬ fa 0 = 0 ∧ ∃ p, p ≤ len ∧ ζ 25 = nI p)) (hq : q < len) (hq2 : tx q = 125) (hE : EN s = nI q) (h35 : ζ 35 = nI (δ + 1)) (hd : δ < 9) (hP : rP δ s room left sec γ) (hs : s < len) (hw : ¬ R_X5_within (tx s) 48 55 = 0) (ht : tx s - 48 = nI r) : ∃ f' en' wr' ζ' γ', nr_V (O_X2_goInto_86 rc oc (nI r) x (PZ z t wr inn dr) (PG g h t f fa en)) (T_X2_goInto_86 rc oc (nI r) x (PZ z t wr inn dr) (PG g h t f fa en)) (x, PZ z t wr' inn (dr - 1), PG g h t f' fa en') ∧ rr D tx len SL EN f' fa en' wr' inn (dr - 1) ζ' γ' ∧ rF δ ζ γ ζ' γ' ∧ pr_D ζ γ ζ' γ' ∧ ζ' 35 = nI δ ∧ ζ' 36 = room ∧ ((x = 1 ∧ fa 0 = 0 ∧ ζ' 25 = nI (pp_s tx len (q + 1))) ∨ (x = 0 ∧ ¬ fa 0 = 0 ∧ ∃ p, p ≤ len ∧ ζ' 25 = nI p)) := by
  have hl := E.2.2.2.2.1
  rcases hx with ⟨x1, z0, p25⟩ | ⟨x0, n0, p, hp, p25⟩
  · obtain ⟨f', en', wr', ζ', γ', v1, v2, R1, F1, o35, o36, o25⟩ := ra_popsR (rc := rc) (oc := oc) E (rr_z R (Or.inl rfl) (nI (q + 1))) hr (Or.inl x1) (by rw [pp_up_ne _ _ (by decide)]; exact h35) hd hP hs hw ht
    rw [pp_up_eq] at o25
    have h64 : nr_V (O_X6_endsAt_64 (nI s) ζ γ) (T_X6_endsAt_64 (nI s) ζ γ) (0, ζ', γ') := by
      unfold O_X6_endsAt_64 T_X6_endsAt_64
      rw [nI_clamp (by omega), R.2.2.2.2.2.2.2.2.2, hE, nI_1]
      exact V_and (vp_in_nI (by omega) (by decide)) (V_K1 v1 (V_T rfl))
    have hb : nr_V (O_X6_endsAt (tx q) ζ γ) (T_X6_endsAt (tx q) ζ γ) (0, ζ', γ') := by
      unfold O_X6_endsAt T_X6_endsAt
      rw [h35, nI_pred, nI_clamp (by omega), hP.1, hP.2.2.1]
      exact V_and (vp_in_nI hd (by decide)) (V_neg (by rw [hq2]; decide) h64)
    exact ⟨f', en', wr', va_up ζ' 25 (nI (pp_s tx len (q + 1))), γ', v2, rr_z R1 (Or.inl rfl) _, ((rF.z ⟨by decide, by decide⟩ _).trans F1 (Nat.le_refl _)).trans (rF.z ⟨by decide, by decide⟩ _) (Nat.le_refl _), pr_end hl (rr_21 R) (rr_24 R) ((rr_30 R).trans z0) p25 hq (by rw [hq2]; unfold pr_dl; decide) hb (rr_21 R1) (rr_24 R1) o25 (by omega), by rw [pp_up_ne _ _ (by decide)]; exact o35, by rw [pp_up_ne _ _ (by decide)]; exact o36, Or.inl ⟨x1, z0, pp_up_eq _ _ _⟩⟩
  · obtain ⟨f', en', wr', ζ', γ', v1, v2, R1, F1, o35, o36, o25⟩ := ra_popsR (rc := rc) (oc := oc) E R hr (Or.inr x0) h35 hd hP hs hw ht
    have hne : ∀ c : Int32, R_X5_within c 48 55 = 0 → ¬ tx s = c := fun c hc q => hw (by rw [q]; exact hc)
    have hb := ra_down (ζ := ζ) (γ := γ) hl (rr_24 R) h35 hd hP hs (fun q => absurd q (hne 40 (by decide))) (fun q => absurd q (hne 91 (by decide))) (fun q => absurd q (hne 60 (by decide))) v1
    exact ⟨f', en', wr', va_up ζ' 25 (nI (pp_s tx len p)), γ', v2, rr_z R1 (Or.inl rfl) _, F1.trans (rF.z ⟨by decide, by decide⟩ _) (Nat.le_refl _), pr_down hl (by rw [rr_30 R]; exact n0) h35 hd hb (rr_21 R1) (rr_24 R1) (o25.trans p25) hp, by rw [pp_up_ne _ _ (by decide)]; exact o35, by rw [pp_up_ne _ _ (by decide)]; exact o36, Or.inr ⟨x0, n0, _, pp_s_le hp, pp_up_eq _ _ _⟩⟩
/-- the model goes in -/
theorem ra_in {u : Nat} {v : Int32 × nr_S} (hl : len ≤ 100) (R : rr D tx len SL EN f fa en wr inn dr ζ γ) (hk : fa 4 < 40) (hs : s < len) (hw : ¬ R_X5_within (tx s) 48 55 = 0) (hu1 : pp_s tx len (s + 1) = u) (hu2 : u < len) (hu3 : tx u = 123) (kv : nr_V (O_X6_goesIn (nI s) (va_up (rz_t s ζ) 25 (nI (u + 1))) γ) (T_X6_goesIn (nI s) (va_up (rz_t s ζ) 25 (nI (u + 1))) γ) v) (hv : v.1 = 0) : nr_V (O_X6_begins (nI s) ζ γ) (T_X6_begins (nI s) ζ γ) v := by
  have Rt := rz_t_rr (s := s) R hk
  have hbh := ra_beh (ζ := rz_t s ζ) (γ := γ) (p := s + 1) (u := u) hl (rr_21 Rt) (rr_24 R) hu2 hu3 (by omega) rz_t_25 (by omega) (fun i x y => by omega)
  unfold O_X6_begins T_X6_begins
  rw [nI_clamp (by omega), rr_24 R s hs, pp_in07]
  refine V_and (vp_in_nI (by omega) (by decide)) (V_neg (rr_n40 R hk) (V_neg hw (V_K hbh ?_)))
  obtain ⟨x, y⟩ := kv
  obtain ⟨v0, v1, v2⟩ := v
  have hv' : v0 = 0 := hv
  subst hv'
  exact V_K1 ⟨x, y⟩ (V_T rfl)
theorem rk_op {k : Nat} (hk : k ≤ 9999) : pl_op (nI k) = (if nI k = 9999 then 9999 else nI k + 1) ∧ ∃ j, j ≤ 9999 ∧ pl_op (nI k) = nI j := by
  unfold pl_op
  rw [nI_1]
  by_cases e : k = 9999
  · subst e
    rw [if_pos (by decide), if_pos (by decide)]
    exact ⟨rfl, 9999, by decide, rfl⟩
  · have n1 : ¬ (9999 : Int32) < nI (k + 1) := nI_nlt (a := 9999) (b := k + 1) (by omega) (by decide)
    have n2 : ¬ nI k = (9999 : Int32) := fun q => e ((nI_eq (b := 9999) (by omega) (by decide)).mp q)
    rw [if_neg n1, if_neg n2]
    exact ⟨rfl, k + 1, by omega, rfl⟩
end
