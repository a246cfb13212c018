/-! brackets -/
section
variable {D : Nat → Prop} {tx : Nat → Int32} {len : Nat} {SL EN : Nat → Int32} {F : Nat → Nat → Int32} {z : Nat → Int32} {g : Nat → Nat → Int32} {h t : Nat} {f fa en : Nat → Int32} {wr inn dr room left sec : Int32} {ζ ζ1 : Nat → Int32} {γ γ1 : Nat → Nat → Int32} {a s e c δ q r m : Nat} {rc : Int32 → Int32 → Int32 → Int32 → nr_S → Int32 × nr_S} {oc : Int32 → Int32 → Int32 → Int32 → nr_S → Prop} {L : Nat → Nat → Nat → Nat → Prop}
theorem pt_calm_0 : pt_calm fa 0 = 0 := by simp [pt_calm, upd]
theorem rg_par (E : rO tx len SL EN F z g h t) (hB : rB D tx len SL EN z g h t L (δ + 1) rc oc) (hd : δ < 9) (R : rr D tx len SL EN f fa en wr inn dr ζ γ) (h0 : fa 0 = 0) (hk : fa 4 < 40) (h25 : ζ 25 = nI s) (hs : s < len) (h35 : ζ 35 = nI δ) (h36 : ζ 36 = room) (hM : rM room) (ha : a < 100) (hc : tx s = 40) (hf : F 0 a = 40) (hn : F 3 a = nI c) (hc100 : c ≤ 100) (hT : ly_two L tx len F a s e c (s + 1) 41) : rG D tx len SL EN z g h t dr room δ (pp_s tx len e) ζ γ (O_X2_doAct rc oc (nI a) room (nI δ) (PZ z t wr inn dr) (PG g h t f fa en)) (T_X2_doAct rc oc (nI a) room (nI δ) (PZ z t wr inn dr) (PG g h t f fa en)) := by
  have hl := E.2.2.2.2.1
  obtain ⟨m, q1, q2, k1, k2, k3, k4, k5, k6, k7, k8, k9, k10, k11, k12, k13, k14, k15⟩ := hT
  rw [E.2.2.2.2.2.2.2.2.2.1] at k9
  rw [E.2.2.2.2.2.2.2.2.2.2] at k14
  obtain ⟨ζ1, γ1, D1, F1, R1, P1, a35, a36, a25⟩ := rD_open hl R h0 hk h25 hs h35 hd h36 (Or.inl hc)
  obtain ⟨x, f', fa', en', wr', inn', ζ2, γ2, v2, R2, F2, D2, p35, p36, hx⟩ := hB (a + 1) m (s + 1) q1 _ _ _ _ _ _ _ _ _ k6 (by omega) (by omega) R1 (rt_0 h0) a25 a35 a36 hM
  have P2 := P1.F F2
  have hw : R_X5_within (tx s) 48 55 = 0 := by rw [hc]; decide
  have hv1 := rc_first (room := room) (δ := δ) E ha k1 v2
  have F12 := F1.trans F2 (by omega)
  have D12 := D1.trans D2
  subst k15
  rcases hx with ⟨x1, z0, p25⟩ | ⟨x0, n0, p, hp, p25⟩
  · obtain ⟨ζ3, D3, F3, R3, b35, b36, b25⟩ := rD_end hl R2 z0 p25 k7 (Or.inl k8) (fun e => by rw [k8] at e; exact absurd e (by decide)) p35 hd P2 hs hw k14 k12
    subst x1
    refine ⟨1, f', fa', en', wr', inn', ζ3, γ2, cp_br E hk ha (Or.inl ⟨?_, hf⟩), R3, F12.trans F3 (Nat.le_refl _), D12.trans D3, b35, b36, Or.inl ⟨rfl, z0, b25⟩⟩
    unfold O_X2_doOrElse T_X2_doOrElse
    exact V_K hv1 (V_neg (by decide) (V_T rfl))
  · obtain ⟨k, kk1, kk2, kk3⟩ := rr_ev R2 n0
    subst x0
    by_cases h3 : 3 < k
    · obtain ⟨ζ3, D3, F3, R3, b35, b36, b25⟩ := rD_down hl R2 n0 p25 hp p35 hd P2 hs hw (fun _ _ => by rw [kk3]; exact nI_lt (a := 3) h3 (by omega)) (fun q => by rw [hc] at q; exact absurd q (by decide)) (fun q => by rw [hc] at q; exact absurd q (by decide))
      refine ⟨0, f', fa', en', wr', inn', ζ3, γ2, cp_br E hk ha (Or.inl ⟨?_, hf⟩), R3, F12.trans F3 (Nat.le_refl _), D12.trans D3, b35, b36, Or.inr ⟨rfl, n0, b25⟩⟩
      unfold O_X2_doOrElse T_X2_doOrElse
      refine V_K hv1 (V_pos rfl ?_)
      rw [rO_17 E, (rO_f0 E).1]
      refine V_and E.2.1 (V_and (rO_f0 E).2 (V_pos (pp_wn (fun q => ?_)) (V_T rfl)))
      have := q.2
      rw [kk3] at this
      exact nI_ge (b := k) (a := 3) h3 (by omega) this
    · obtain ⟨ζ3, γ3, D3, F3, R3, P3, b35, b36, b25⟩ := rD_sec hl R2 n0 p35 hd P2 hs k9 k7 hc (by rw [kk3]; exact nI_nlt (a := 3) (b := k) (by omega) (by decide))
      rw [p35] at b35
      rw [p36] at b36
      refine rg_sec (f0 := f') (fa0 := pt_calm fa') (en0 := en') (wr0 := wr') (inn0 := -1) E hB hd hM (D12.trans D3) (F12.trans F3 (Nat.le_refl _)) R3 pt_calm_0 P3 b35 b36 b25 k7 k11 hc100 hs (Or.inl hc) k12 (Or.inl k13) k14 (fun x u hx9 kv => cp_br E hk ha (Or.inl ⟨?_, hf⟩))
      unfold O_X2_doOrElse T_X2_doOrElse
      refine V_K hv1 (V_pos rfl ?_)
      rw [rO_17 E, (rO_f0 E).1]
      refine V_and E.2.1 (V_and (rO_f0 E).2 (V_neg ?_ ?_))
      · rw [pp_wy ⟨by rw [kk3]; exact nI_le (a := 1) kk1 (by omega), by rw [kk3]; exact nI_le (b := 3) (by omega) (by decide)⟩]; decide
      · obtain ⟨u1, u2⟩ := u
        refine V_K1 (rc_second E ha k1 hn kv) ?_
        rcases hx9 with e | e <;> subst e
        · exact V_negT (by decide) (V_T rfl)
        · exact V_posT rfl (V_T rfl)
theorem rg_sq (E : rO tx len SL EN F z g h t) (hB : rB D tx len SL EN z g h t L (δ + 1) rc oc) (hd : δ < 9) (R : rr D tx len SL EN f fa en wr inn dr ζ γ) (h0 : fa 0 = 0) (hk : fa 4 < 40) (h25 : ζ 25 = nI s) (hs : s < len) (h35 : ζ 35 = nI δ) (h36 : ζ 36 = room) (hM : rM room) (ha : a < 100) (hc : tx s = 91) (hf : F 0 a = 91) (hn : F 3 a = nI c) (hc100 : c ≤ 100) (hT : ly_two L tx len F a s e c (s + 1) 93) : rG D tx len SL EN z g h t dr room δ (pp_s tx len e) ζ γ (O_X2_doAct rc oc (nI a) room (nI δ) (PZ z t wr inn dr) (PG g h t f fa en)) (T_X2_doAct rc oc (nI a) room (nI δ) (PZ z t wr inn dr) (PG g h t f fa en)) := by
  have hl := E.2.2.2.2.1
  obtain ⟨m, q1, q2, k1, k2, k3, k4, k5, k6, k7, k8, k9, k10, k11, k12, k13, k14, k15⟩ := hT
  rw [E.2.2.2.2.2.2.2.2.2.1] at k9
  rw [E.2.2.2.2.2.2.2.2.2.2] at k14
  obtain ⟨ζ1, γ1, D1, F1, R1, P1, a35, a36, a25⟩ := rD_open hl R h0 hk h25 hs h35 hd h36 (Or.inr (Or.inl hc))
  obtain ⟨x, f', fa', en', wr', inn', ζ2, γ2, v2, R2, F2, D2, p35, p36, hx⟩ := hB (a + 1) m (s + 1) q1 _ _ _ _ _ _ _ _ _ k6 (by omega) (by omega) R1 (rt_0 h0) a25 a35 a36 hM
  have P2 := P1.F F2
  have hw : R_X5_within (tx s) 48 55 = 0 := by rw [hc]; decide
  have hv1 := rc_first (room := room) (δ := δ) E ha k1 v2
  have F12 := F1.trans F2 (by omega)
  have D12 := D1.trans D2
  subst k15
  rcases hx with ⟨x1, z0, p25⟩ | ⟨x0, n0, p, hp, p25⟩
  · obtain ⟨ζ3, D3, F3, R3, b35, b36, b25⟩ := rD_end hl R2 z0 p25 k7 (Or.inl k8) (fun e => by rw [k8] at e; exact absurd e (by decide)) p35 hd P2 hs hw k14 k12
    subst x1
    refine ⟨1, f', fa', en', wr', inn', ζ3, γ2, cp_br E hk ha (Or.inr (Or.inl ⟨?_, hf⟩)), R3, F12.trans F3 (Nat.le_refl _), D12.trans D3, b35, b36, Or.inl ⟨rfl, z0, b25⟩⟩
    unfold O_X2_doAndHear T_X2_doAndHear
    exact V_K hv1 (V_neg (by decide) (V_T rfl))
  · subst x0
    by_cases h45 : fa' 0 = 4 ∨ fa' 0 = 5
    · obtain ⟨ζ3, γ3, D3, F3, R3, P3, b35, b36, b25⟩ := rD_hear hl R2 p35 hd P2 hs k9 k7 hc h45
      rw [p35] at b35
      rw [p36] at b36
      refine rg_sec (fa0 := pt_calm fa') (en0 := en') (wr0 := wr') (inn0 := -1) E hB hd hM (D12.trans D3) (F12.trans F3 (Nat.le_refl _)) R3 pt_calm_0 P3 b35 b36 b25 k7 k11 hc100 hs (Or.inr hc) k12 (Or.inr k13) k14 (fun x u hx9 kv => cp_br E hk ha (Or.inr (Or.inl ⟨?_, hf⟩)))
      have k55 : ∀ i, i < 8 → (if fa' 0 = 4 then fa' 2 else fa' 3) = fa' i → nr_V (O_X2_doAndHear_55 rc oc (nI a) room (nI δ) h t (nI i) (PZ z t wr' inn' dr) (PG g h t f' fa' en')) (T_X2_doAndHear_55 rc oc (nI a) room (nI δ) h t (nI i) (PZ z t wr' inn' dr) (PG g h t f' fa' en')) (x, u) := by
        intro i hi ei
        obtain ⟨u1, u2⟩ := u
        obtain ⟨fa1, fa2⟩ := cp_fact (z := z) (g := g) (f := f') (fa := fa') (en := en') (wr := wr') (inn := inn') (dr := dr) E.1 E.2.1 hi
        rw [ei] at kv
        unfold O_X2_doAndHear_55 T_X2_doAndHear_55
        rw [fa1]
        exact V_and E.2.1 (V_and fa2 (V_and E.1 (V_Kn (cp_sum E.1 E.2.1 _) (V_K1 (rc_second E ha k1 hn kv) (V_T rfl)))))
      have k36 : nr_V (O_X2_doAndHear_36 rc oc (nI a) room (nI δ) (fa' 0) (PZ z t wr' inn' dr) (PG g h t f' fa' en')) (T_X2_doAndHear_36 rc oc (nI a) room (nI δ) (fa' 0) (PZ z t wr' inn' dr) (PG g h t f' fa' en')) (x, u) := by
        unfold O_X2_doAndHear_36 T_X2_doAndHear_36
        rw [rO_16 E, rO_17 E]
        by_cases e4 : fa' 0 = 4
        · exact V_pos e4 (k55 2 (by decide) (if_pos e4))
        · exact V_neg e4 (k55 3 (by decide) (if_neg e4))
      unfold O_X2_doAndHear T_X2_doAndHear
      refine V_K hv1 (V_pos rfl ?_)
      rw [rO_17 E, (rO_f0 E).1]
      refine V_and E.2.1 (V_and (rO_f0 E).2 ?_)
      by_cases e4 : fa' 0 = 4
      · exact V_pos e4 k36
      · exact V_neg e4 (V_pos (h45.resolve_left e4) k36)
    · obtain ⟨ζ3, D3, F3, R3, b35, b36, b25⟩ := rD_down hl R2 n0 p25 hp p35 hd P2 hs hw (fun q => by rw [hc] at q; exact absurd q (by decide)) (fun _ _ => ⟨fun q => h45 (Or.inl q), fun q => h45 (Or.inr q)⟩) (fun q => by rw [hc] at q; exact absurd q (by decide))
      refine ⟨0, f', fa', en', wr', inn', ζ3, γ2, cp_br E hk ha (Or.inr (Or.inl ⟨?_, hf⟩)), R3, F12.trans F3 (Nat.le_refl _), D12.trans D3, b35, b36, Or.inr ⟨rfl, n0, b25⟩⟩
      unfold O_X2_doAndHear T_X2_doAndHear
      refine V_K hv1 (V_pos rfl ?_)
      rw [rO_17 E, (rO_f0 E).1]
      exact V_and E.2.1 (V_and (rO_f0 E).2 (V_neg (fun q => h45 (Or.inl q)) (V_neg (fun q => h45 (Or.inr q)) (V_T rfl))))
/-- a report on the way down -/
theorem rD_rep (hl : len ≤ 100) (R : rr D tx len SL EN f fa en wr inn dr ζ γ) (h0 : ¬ fa 0 = 0) (h6 : ¬ fa 0 = 6) {p : Nat} (h25 : ζ 25 = nI p) (hp : p ≤ len) (h35 : ζ 35 = nI (δ + 1)) (hd : δ < 9) (hP : rP δ s room left sec γ) (hs : s < len) (hc : tx s = 60) : ∃ ζ', pr_D ζ γ ζ' γ ∧ rF δ ζ γ ζ' γ ∧ rr D tx len SL EN f (pt_rep fa) en wr (if fa 0 = 5 then inn else fa 0) dr ζ' γ ∧ ζ' 35 = nI δ ∧ ζ' 36 = room ∧ ∃ p, p ≤ len ∧ ζ' 25 = nI p := by
  have e30 := rr_30 R
  have R1 := rr_rep R h0
  have o : ∀ i, i ≠ 29 → i ≠ 30 → i ≠ 33 → rz_rep ζ i = ζ i := fun i a b c => by
    unfold rz_rep; rw [pp_up_ne _ _ a, pp_up_ne _ _ c, pp_up_ne _ _ b]
  have e35 : rz_rep ζ 35 = nI (δ + 1) := by rw [o 35 (by decide) (by decide) (by decide)]; exact h35
  have hpo := ra_pops (ζ := rz_rep ζ) hl (rr_24 R) e35 hd hP hs (by rw [hc]; decide)
  have hb : nr_V (O_X6_goesDown ζ γ) (T_X6_goesDown ζ γ) (0, rz_p δ room (rz_rep ζ), γ) := by
    have k206 : nr_V (O_X6_goesDown_206 (rz_rep ζ) γ) (T_X6_goesDown_206 (rz_rep ζ) γ) (0, rz_p δ room (rz_rep ζ), γ) := by
      unfold O_X6_goesDown_206 T_X6_goesDown_206
      exact V_K1 hpo (V_T rfl)
    have k166 : nr_V (O_X6_goesDown_166 60 ζ γ) (T_X6_goesDown_166 60 ζ γ) (0, rz_p δ room (rz_rep ζ), γ) := by
      unfold O_X6_goesDown_166 T_X6_goesDown_166
      exact V_pos rfl (V_neg (by rw [e30]; exact h6) k206)
    have k83 : ∀ x1 x2 x4, nr_V (O_X6_goesDown_83 x1 x2 60 x4 ζ γ) (T_X6_goesDown_83 x1 x2 60 x4 ζ γ) (0, rz_p δ room (rz_rep ζ), γ) := fun x1 x2 x4 => by
      unfold O_X6_goesDown_83 T_X6_goesDown_83
      exact V_neg (by decide) k166
    have k35 : ∀ x1 x2 x4, nr_V (O_X6_goesDown_35 x1 x2 60 x4 ζ γ) (T_X6_goesDown_35 x1 x2 60 x4 ζ γ) (0, rz_p δ room (rz_rep ζ), γ) := fun x1 x2 x4 => by
      unfold O_X6_goesDown_35 T_X6_goesDown_35
      exact V_neg (by decide) (k83 _ _ _)
    unfold O_X6_goesDown T_X6_goesDown
    rw [h35, nI_pred, nI_clamp (by omega), hP.1, nI_clamp (by omega), rr_24 R s hs, hP.2.2.2, hc]
    refine V_and (vp_in_nI hd (by decide)) (V_and (vp_in_nI (by omega) (by decide)) (V_and (vp_in_nI hd (by decide)) ?_))
    by_cases e : sec = 0
    · exact V_pos e (k35 _ _ _)
    · exact V_neg e (k35 _ _ _)
  have R2 := rz_p_rr (δ := δ) (room := room) R1
  have FR : rF δ ζ γ (rz_rep ζ) γ := ((rF.z (i := 30) ⟨by decide, by decide⟩ _).trans (rF.z (i := 33) ⟨by decide, by decide⟩ _) (Nat.le_refl _)).trans (rF.z (i := 29) ⟨by decide, by decide⟩ _) (Nat.le_refl _)
  exact ⟨va_up (rz_p δ room (rz_rep ζ)) 25 (nI (pp_s tx len p)), pr_down hl (by rw [e30]; exact h0) h35 hd hb (rr_21 R2) (rr_24 R2) (by rw [rz_p_o (by decide) (by decide), o 25 (by decide) (by decide) (by decide)]; exact h25) hp, (FR.trans rz_p_F (Nat.le_refl _)).trans (rF.z ⟨by decide, by decide⟩ _) (Nat.le_refl _), rr_z R2 (Or.inl rfl) _, by rw [pp_up_ne _ _ (by decide)]; exact rz_p_35, by rw [pp_up_ne _ _ (by decide)]; exact rz_p_36, _, pp_s_le hp, pp_up_eq _ _ _⟩
theorem rg_ang (E : rO tx len SL EN F z g h t) (hB : rB D tx len SL EN z g h t L (δ + 1) rc oc) (hd : δ < 9) (R : rr D tx len SL EN f fa en wr inn dr ζ γ) (h0 : fa 0 = 0) (hk : fa 4 < 40) (h25 : ζ 25 = nI s) (hs : s < len) (h35 : ζ 35 = nI δ) (h36 : ζ 36 = room) (hM : rM room) (ha : a < 100) (hc : tx s = 60) (hf : F 0 a = 60) (hc100 : c ≤ 100) (hT : ly_one L tx len F a s e c (s + 1) 62) : rG D tx len SL EN z g h t dr room δ (pp_s tx len e) ζ γ (O_X2_doAct rc oc (nI a) room (nI δ) (PZ z t wr inn dr) (PG g h t f fa en)) (T_X2_doAct rc oc (nI a) room (nI δ) (PZ z t wr inn dr) (PG g h t f fa en)) := by
  have hl := E.2.2.2.2.1
  obtain ⟨q1, k1, k2, k3, k6, k7, k8, k14, k15⟩ := hT
  rw [E.2.2.2.2.2.2.2.2.2.2] at k14
  obtain ⟨ζ1, γ1, D1, F1, R1, P1, a35, a36, a25⟩ := rD_open hl R h0 hk h25 hs h35 hd h36 (Or.inr (Or.inr hc))
  obtain ⟨x, f', fa', en', wr', inn', ζ2, γ2, v2, R2, F2, D2, p35, p36, hx⟩ := hB (a + 1) c (s + 1) q1 _ _ _ _ _ _ _ _ _ k6 hc100 (by omega) R1 (rt_0 h0) a25 a35 a36 hM
  have P2 := P1.F F2
  have hw : R_X5_within (tx s) 48 55 = 0 := by rw [hc]; decide
  have hv1 := rc_first (room := room) (δ := δ) E ha k1 v2
  have F12 := F1.trans F2 (by omega)
  have D12 := D1.trans D2
  subst k15
  rcases hx with ⟨x1, z0, p25⟩ | ⟨x0, n0, p, hp, p25⟩
  · obtain ⟨ζ3, D3, F3, R3, b35, b36, b25⟩ := rD_end hl R2 z0 p25 k7 (by rw [k8]; unfold pr_dl; decide) (fun e => by rw [k8] at e; exact absurd e (by decide)) p35 hd P2 hs hw k14 k7
    subst x1
    refine ⟨1, f', fa', en', wr', inn', ζ3, γ2, cp_br E hk ha (Or.inr (Or.inr (Or.inl ⟨?_, hf⟩))), R3, F12.trans F3 (Nat.le_refl _), D12.trans D3, b35, b36, Or.inl ⟨rfl, z0, b25⟩⟩
    unfold O_X2_doAndReport T_X2_doAndReport
    exact V_K hv1 (V_neg (by decide) (V_T rfl))
  · subst x0
    by_cases h6 : fa' 0 = 6
    · obtain ⟨ζ3, D3, F3, R3, b35, b36, b25⟩ := rD_down hl R2 n0 p25 hp p35 hd P2 hs hw (fun q => by rw [hc] at q; exact absurd q (by decide)) (fun q => by rw [hc] at q; exact absurd q (by decide)) (fun _ => h6)
      refine ⟨0, f', fa', en', wr', inn', ζ3, γ2, cp_br E hk ha (Or.inr (Or.inr (Or.inl ⟨?_, hf⟩))), R3, F12.trans F3 (Nat.le_refl _), D12.trans D3, b35, b36, Or.inr ⟨rfl, n0, b25⟩⟩
      unfold O_X2_doAndReport T_X2_doAndReport
      refine V_K hv1 (V_pos rfl ?_)
      rw [rO_17 E, (rO_f0 E).1]
      exact V_and E.2.1 (V_and (rO_f0 E).2 (V_pos h6 (V_T rfl)))
    · obtain ⟨ζ3, D3, F3, R3, b35, b36, b25⟩ := rD_rep hl R2 n0 h6 p25 hp p35 hd P2 hs hc
      refine ⟨0, f', pt_rep fa', en', wr', if fa' 0 = 5 then inn' else fa' 0, ζ3, γ2, cp_br E hk ha (Or.inr (Or.inr (Or.inl ⟨?_, hf⟩))), R3, F12.trans F3 (Nat.le_refl _), D12.trans D3, b35, b36, Or.inr ⟨rfl, ?_, b25⟩⟩
      · unfold O_X2_doAndReport T_X2_doAndReport
        refine V_K hv1 (V_pos rfl ?_)
        rw [rO_17 E, (rO_f0 E).1]
        refine V_and E.2.1 (V_and (rO_f0 E).2 (V_neg h6 (V_and E.2.1 (V_K1 ⟨?_, cp_rep E.1 E.2.1⟩ (V_T rfl)))))
        unfold O_X4_report O_X4_report_20
        exact ⟨fun _ => trivial, fun _ => trivial⟩
      · have : pt_rep fa' 0 = 5 := by simp [pt_rep, pt_bef, upd]
        rw [this]; decide
end
