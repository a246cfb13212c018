/-! into a room, by both -/
section
variable {D : Nat → Prop} {tx : Nat → Int32} {len : Nat} {SL EN : Nat → Int32} {F : Nat → Nat → Int32} {z : Nat → Int32} {g : Nat → Nat → Int32} {h t : Nat} {f fa en : Nat → Int32} {wr inn dr room left sec : Int32} {ζ ζ1 : Nat → Int32} {γ γ1 : Nat → Nat → Int32} {a s e c δ q r m : Nat} {rc : Int32 → Int32 → Int32 → Int32 → nr_S → Int32 × nr_S} {oc : Int32 → Int32 → Int32 → Int32 → nr_S → Prop} {L : Nat → Nat → Nat → Nat → Prop}
theorem rk_adm (R : rr D tx len SL EN f fa en wr inn dr ζ γ) (hr : r < 8) : (pl_adm f r ∧ (f (7 * r + 1) ≤ 0 ∨ ¬ f (7 * r + 1) ≤ 0 ∧ ¬ ((f 56 >>> (f (7 * r + 1) &&& 31)) &&& (1 : Int32)) = 0)) ∨ (¬ pl_adm f r ∧ ¬ f (7 * r + 1) ≤ 0 ∧ ((f 56 >>> (f (7 * r + 1) &&& 31)) &&& (1 : Int32)) = 0) := by
  obtain ⟨l, l1, l2⟩ := R.2.1.1 r 1 hr (by decide)
  obtain ⟨k, k1, k2⟩ := R.2.1.2.2
  unfold pl_adm
  rw [l2, k2]
  by_cases l0 : l = 0
  · subst l0
    exact Or.inl ⟨Or.inl rfl, Or.inl (by decide)⟩
  · have e := ra_keys k k1 l (by omega) l0
    have n1 : ¬ nI l ≤ 0 := nI_nle (by omega) (by omega)
    have n2 : ¬ nI l = 0 := nI_ne0 (by omega) (by omega)
    by_cases q : ((nI (2 * k) >>> (nI l &&& 31)) &&& (1 : Int32)) = 0
    · exact Or.inr ⟨fun p => p.elim n2 (fun p => p (e.mpr q)), n1, q⟩
    · exact Or.inl ⟨Or.inr (fun p => q (e.mp p)), Or.inr ⟨n1, q⟩⟩
theorem rg_room (E : rO tx len SL EN F z g h t) (hB : rB D tx len SL EN z g h t L (δ + 1) rc oc) (hd : δ < 9) (R : rr D tx len SL EN f fa en wr inn dr ζ γ) (h0 : fa 0 = 0) (hk : fa 4 < 40) (h25 : ζ 25 = nI s) (hs : s < len) (h35 : ζ 35 = nI δ) (h36 : ζ 36 = room) (ha : a < 100) (hc1 : (48 : Int32) ≤ tx s) (hc2 : tx s ≤ 55) (hf : F 0 a = 82) (hf1 : F 1 a = tx s - 48) (hc100 : c ≤ 100) (hu2 : pp_s tx len (s + 1) < len) (hu3 : tx (pp_s tx len (s + 1)) = 123) (hT : ly_one L tx len F a s e c (pp_s tx len (s + 1) + 1) 125) : rG D tx len SL EN z g h t dr room δ (pp_s tx len e) ζ γ (O_X2_doAct rc oc (nI a) room (nI δ) (PZ z t wr inn dr) (PG g h t f fa en)) (T_X2_doAct rc oc (nI a) room (nI δ) (PZ z t wr inn dr) (PG g h t f fa en)) := by
  have hl := E.2.2.2.2.1
  obtain ⟨q1, k1, k2, k3, k6, k7, k8, k14, k15⟩ := hT
  rw [E.2.2.2.2.2.2.2.2.2.2] at k14
  have hw : ¬ R_X5_within (tx s) 48 55 = 0 := by rw [pp_wy ⟨hc1, hc2⟩]; decide
  obtain ⟨r, hr, kk2⟩ : ∃ r, r < 8 ∧ tx s - 48 = nI r := by
    obtain ⟨k, kk1, kk2, kk3⟩ := pp_dg_k (c := tx s) ⟨hc1, Int32.le_trans hc2 (by decide)⟩
    refine ⟨k, ?_, kk2⟩
    rw [kk3] at hc2
    have := (nI_leI (b := 55) (by omega) (by decide)).mp hc2
    omega
  have hdl : ¬ pr_dl (tx s) := by
    intro q
    rcases q with e | e | e | e | e | e <;> rw [e] at hw <;> exact hw (by decide)
  generalize huu : pp_s tx len (s + 1) = u at *
  subst k15
  have Rt := rz_t_rr (s := s) R hk
  have Rb := rr_z Rt (Or.inl rfl) (nI (u + 1))
  generalize hzb : va_up (rz_t s ζ) 25 (nI (u + 1)) = ζb at Rb
  have Fb : rF δ ζ γ ζb γ := by rw [← hzb]; exact rz_t_F.trans (rF.z ⟨by decide, by decide⟩ _) (Nat.le_refl _)
  have b35 : ζb 35 = nI δ := by rw [← hzb, pp_up_ne _ _ (by decide), rz_t_o (by decide) (by decide)]; exact h35
  have b36 : ζb 36 = room := by rw [← hzb, pp_up_ne _ _ (by decide), rz_t_o (by decide) (by decide)]; exact h36
  have b25 : ζb 25 = nI (u + 1) := by rw [← hzb, pp_up_eq]
  have h0t := rt_0 h0
  generalize hft : upd fa 4 (fa 4 + 1) = ft at Rb h0t
  obtain ⟨fg1, fg2⟩ := rO_fg E ha wr inn dr f ft en
  rw [hf1, kk2] at fg1
  obtain ⟨ad1, ad2⟩ := cp_adm (z := z) (g := g) (f := f) (fa := ft) (en := en) (wr := wr) (inn := inn) (dr := dr) E.1 E.2.1 hr
  obtain ⟨m1, m2⟩ := ra_c Rb hr (w := 1) (by decide) (by decide)
  have m1' : R_X6_at (nI r) 1 ζb γ = f (7 * r + 1) := m1
  have hgo : ∀ {v : Int32 × nr_S}, nr_V (O_X2_goInto rc oc (nI a) room (nI δ) (PZ z t wr inn dr) (PG g h t f ft en)) (T_X2_goInto rc oc (nI a) room (nI δ) (PZ z t wr inn dr) (PG g h t f ft en)) v → nr_V (O_X2_doAct rc oc (nI a) room (nI δ) (PZ z t wr inn dr) (PG g h t f fa en)) (T_X2_doAct rc oc (nI a) room (nI δ) (PZ z t wr inn dr) (PG g h t f fa en)) v := fun {v} kv => cp_br E hk ha (Or.inr (Or.inr (Or.inr (Or.inr ⟨by rw [hft]; exact kv, hf⟩))))
  rcases rk_adm R hr with ⟨adm, mo⟩ | ⟨nadm, mo1, mo2⟩
  · obtain ⟨o, o1, o2⟩ := R.2.1.1 r 6 hr (by decide)
    obtain ⟨op1, j, op2, op3⟩ := rk_op (k := o) o1
    obtain ⟨w26, w, w1, w2, w3⟩ := Rb.2.2.2.2.1
    subst w2
    have hW1 : rW (upd f (7 * r + 6) (pl_op (f (7 * r + 6)))) := rW_upd R.2.1 hr (by decide) (by rw [o2]; exact ⟨j, op2, op3⟩) (by decide) (fun q => absurd q (by decide))
    have R1 := rr_h Rb (i := 7 * r + 6) (fun r1 h1 => by omega) hW1
    generalize hf1d : upd f (7 * r + 6) (pl_op (f (7 * r + 6))) = f1 at R1 hW1
    generalize hg1d : va_up γ 21 (upd (γ 21) (7 * r + 6) (pl_op (f (7 * r + 6)))) = γa at R1
    have Fa : rF δ ζb γ ζb γa := by rw [← hg1d]; exact rF.h _ (Or.inl rfl)
    have R2 := rr_n w1 R1 (10 + nI r)
    have vN := ra_notes (γ := γa) (ζ := ζb) w1 w26 (10 + nI r)
    have R3 := rr_37 R2 (dr + 1)
    generalize hzc : va_up (rz_n w ζb) 37 (dr + 1) = ζc at R3
    generalize hgc : rg_n w (10 + nI r) γa = γc at R3
    generalize hec : pt_e en w (10 + nI r) = enc at R3
    have c35 : ζc 35 = nI δ := by rw [← hzc, pp_up_ne _ _ (by decide), rz_n_o (by decide)]; exact b35
    have c36 : ζc 36 = room := by rw [← hzc, pp_up_ne _ _ (by decide), rz_n_o (by decide)]; exact b36
    have c25 : ζc 25 = nI (u + 1) := by rw [← hzc, pp_up_ne _ _ (by decide), rz_n_o (by decide)]; exact b25
    have Fc : rF δ ζb γ ζc γc := by rw [← hzc, ← hgc]; exact (Fa.trans (rn_F _) (Nat.le_refl _)).trans (rF.z ⟨by decide, by decide⟩ _) (Nat.le_refl _)
    have n37 : rz_n w ζb 37 = dr := by rw [rz_n_o (by decide)]; exact Rb.2.2.1.2.2.2
    have n28 : rz_n w ζb 28 = ft 6 := by rw [rz_n_o (by decide)]; exact Rb.2.2.1.2.1
    have R4 := rr_28 R3 (if ft 6 < dr + 1 then dr + 1 else ft 6)
    generalize hmo : (if ft 6 < dr + 1 then dr + 1 else ft 6) = mo6 at R4
    have d35 : va_up ζc 28 mo6 35 = nI δ := by rw [pp_up_ne _ _ (by decide)]; exact c35
    obtain ⟨γd, vP, Fd, P1, od⟩ := ra_push (γ := γc) d35 hd s (nI r) 0
    have d36 : va_up ζc 28 mo6 36 = room := by rw [pp_up_ne _ _ (by decide)]; exact c36
    rw [d36] at P1
    have R5 : rr D tx len SL EN f1 (upd ft 6 mo6) enc (nI (pt_n w)) inn (dr + 1) (va_up (va_up (va_up ζc 28 mo6) 35 (nI (δ + 1))) 36 (nI r)) γd := rr_cong R4 (fun i _ b c => by rw [pp_up_ne _ _ c, pp_up_ne _ _ b]) od
    generalize hzd : va_up (va_up (va_up ζc 28 mo6) 35 (nI (δ + 1))) 36 (nI r) = ζd at R5 vP
    have e35 : ζd 35 = nI (δ + 1) := by rw [← hzd, pp_up_ne _ _ (by decide), pp_up_eq]
    have e36 : ζd 36 = nI r := by rw [← hzd, pp_up_eq]
    have e25 : ζd 25 = nI (u + 1) := by rw [← hzd, pp_up_ne _ _ (by decide), pp_up_ne _ _ (by decide), pp_up_ne _ _ (by decide)]; exact c25
    have Fe : rF δ ζ γ ζd γd := by
      rw [← hzd]
      exact ((((Fb.trans Fc (Nat.le_refl _)).trans (rF.z (i := 28) ⟨by decide, by decide⟩ _) (Nat.le_refl _)).trans Fd (Nat.le_refl _)).trans (rF.z ⟨by decide, by decide⟩ _) (Nat.le_refl _)).trans (rF.z ⟨by decide, by decide⟩ _) (Nat.le_refl _)
    obtain ⟨as1, as2, as3⟩ := ra_asl R5 hr
    obtain ⟨l1, l2⟩ := ra_loud R5 hr
    obtain ⟨a3, b3⟩ := ra_c R5 hr (w := 3) (by decide) (by decide)
    have a3' : R_X6_at (nI r) 3 ζd γd = f1 (7 * r + 3) := a3
    have h74 : ∀ {v : Int32 × nr_S}, v.1 = 0 → nr_V ((R_X6_isAsleep (nI r) ζd γd = 0 → True) ∧ (¬ (R_X6_isAsleep (nI r) ζd γd = 0) → (O_X6_loud (nI r) ζd γd ∧ (O_X6_at (nI r) 3 ζd γd ∧ ((R_X6_loud (nI r) ζd γd < R_X6_at (nI r) 3 ζd γd → True) ∧ (¬ (R_X6_loud (nI r) ζd γd < R_X6_at (nI r) 3 ζd γd) → (O_X6_put (nI r) 4 1 ζd γd ∧ True))))))) (if R_X6_isAsleep (nI r) ζd γd = 0 then ((0 : Int32), ζd, γd) else if R_X6_loud (nI r) ζd γd < R_X6_at (nI r) 3 ζd γd then (0, ζd, γd) else nr_K (T_X6_put (nI r) 4 1 ζd γd) (fun _ z_154 g_154 => nr_K (T_X6_befalls 2 (-1) z_154 g_154) (fun _ z_160 g_160 => ((0 : Int32), z_160, g_160)))) v → nr_V (O_X6_begins (nI s) ζ γ) (T_X6_begins (nI s) ζ γ) v := by
      intro v hv0 kv
      have k118 : nr_V (O_X6_goesIn_118 (nI s) (nI r) mo6 ζc γc) (T_X6_goesIn_118 (nI s) (nI r) mo6 ζc γc) v := by
        unfold O_X6_goesIn_118 T_X6_goesIn_118
        exact V_K vP (V_and as2 kv)
      have k74 : nr_V (O_X6_goesIn_74 (nI s) (nI r) (nI r) 6 (pl_op (f (7 * r + 6))) ζb γ) (T_X6_goesIn_74 (nI s) (nI r) (nI r) 6 (pl_op (f (7 * r + 6))) ζb γ) v := by
        unfold O_X6_goesIn_74 T_X6_goesIn_74
        have vput := ra_put hr (w := 6) (by decide) (pl_op (f (7 * r + 6))) ζb γ
        rw [hg1d] at vput
        refine V_K vput (V_K vN ?_)
        rw [n37, n28, hzc, hgc]
        by_cases q : dr + 1 ≤ ft 6
        · rw [if_neg (Int32.not_lt.mpr q)] at hmo
          rw [hmo]
          exact V_pos (by rw [← hmo]; exact q) k118
        · rw [if_pos (Int32.not_le.mp q)] at hmo
          rw [hmo]
          exact V_neg (by rw [← hmo]; exact q) k118
      have k42 : nr_V (O_X6_goesIn_42 (nI s) (nI r) ζb γ) (T_X6_goesIn_42 (nI s) (nI r) ζb γ) v := by
        obtain ⟨m6, m7⟩ := ra_c Rb hr (w := 6) (by decide) (by decide)
        have m6' : R_X6_at (nI r) 6 ζb γ = f (7 * r + 6) := m6
        unfold O_X6_goesIn_42 T_X6_goesIn_42
        rw [m6']
        rw [o2, op1] at k74
        rw [o2]
        by_cases q : nI o = 9999
        · rw [if_pos q] at k74
          exact V_and m7 (V_pos q k74)
        · rw [if_neg q] at k74
          exact V_and m7 (V_neg q (V_and m7 k74))
      refine ra_in hl R hk hs hw huu hu2 hu3 ?_ hv0
      rw [hzb]
      unfold O_X6_goesIn T_X6_goesIn
      rw [nI_clamp (by omega), rr_24 R s hs, kk2, m1', show (56 : Int32) = nI 56 from rfl, nI_clamp (by decide), rr_56 R]
      refine V_and (vp_in_nI (by omega) (by decide)) (V_and m2 ?_)
      rcases mo with q | ⟨q1, q2⟩
      · exact V_pos q k42
      · exact V_neg q1 (V_neg q2 k42)
    obtain ⟨cl1, cl2⟩ := cp_loud (z := z) (g := g) (f := f1) (fa := upd ft 6 mo6) (en := enc) (wr := nI (pt_n w)) (inn := inn) (dr := dr + 1) E.1 E.2.1 hr
    have hpre : ∀ {v : Int32 × nr_S}, nr_V (O_X0_wakes h (nI r) (pl_loud (f1 (7 * r)) (f1 (7 * r + 6))) (PZ z t (nI (pt_n w)) inn (dr + 1)) (PG g h t f1 (upd ft 6 mo6) enc) ∧ nr_KP (T_X0_wakes h (nI r) (pl_loud (f1 (7 * r)) (f1 (7 * r + 6))) (PZ z t (nI (pt_n w)) inn (dr + 1)) (PG g h t f1 (upd ft 6 mo6) enc)) (fun r_62 z_62 g_62 => ((r_62 = 0 → ((O_X2_doFirstPart rc oc (nI a) (nI r) (nI δ) z_62 g_62 ∧ nr_KP (T_X2_doFirstPart rc oc (nI a) (nI r) (nI δ) z_62 g_62) (fun r_83 z_83 g_83 => (O_X2_goInto_86 rc oc (nI r) r_83 z_83 g_83))))) ∧ (¬ (r_62 = 0) → ((O_X2_befalls (2 : Int32) (nI r) z_62 g_62 ∧ nr_KP (T_X2_befalls (2 : Int32) (nI r) z_62 g_62) (fun r_72 z_72 g_72 => (O_X2_goInto_86 rc oc (nI r) r_72 z_72 g_72)))))))) (nr_K (T_X0_wakes h (nI r) (pl_loud (f1 (7 * r)) (f1 (7 * r + 6))) (PZ z t (nI (pt_n w)) inn (dr + 1)) (PG g h t f1 (upd ft 6 mo6) enc)) (fun r_62 z_62 g_62 => (if r_62 = 0 then (nr_K (T_X2_doFirstPart rc oc (nI a) (nI r) (nI δ) z_62 g_62) (fun r_83 z_83 g_83 => (T_X2_goInto_86 rc oc (nI r) r_83 z_83 g_83))) else (nr_K (T_X2_befalls (2 : Int32) (nI r) z_62 g_62) (fun r_72 z_72 g_72 => (T_X2_goInto_86 rc oc (nI r) r_72 z_72 g_72)))))) v → nr_V (O_X2_goInto rc oc (nI a) room (nI δ) (PZ z t (nI w) inn dr) (PG g h t f ft en)) (T_X2_goInto rc oc (nI a) room (nI δ) (PZ z t (nI w) inn dr) (PG g h t f ft en)) v := by
      intro v kv
      unfold O_X2_goInto T_X2_goInto
      rw [fg1, rO_16 E]
      refine V_and fg2 (V_and E.1 (V_and ad2 (V_neg (fun q => absurd adm (ad1.mp q)) ?_)))
      have vo := cp_open (z := z) (g := g) (f := f) (fa := ft) (en := en) (wr := nI w) (inn := inn) (dr := dr) E.1 E.2.1 hr
      rw [hf1d] at vo
      refine V_and E.1 (V_K vo ?_)
      rw [rO_17 E]
      have vd := cp_opened (z := z) (g := g) (f := f1) (fa := ft) (en := en) (inn := inn) (dr := dr) E.1 E.2.1 w1 (nI r)
      rw [hec, show pt_mo ft dr = upd ft 6 mo6 by rw [← hmo]; rfl] at vd
      refine V_and E.2.1 (V_K vd ?_)
      rw [rO_16 E, cl1]
      exact V_and E.1 (V_and cl2 (V_and E.1 kv))
    have edr : dr + 1 - 1 = dr := by simp
    by_cases wk : pl_wk f1 r (pl_loud (f1 (7 * r)) (f1 (7 * r + 6)))
    · obtain ⟨s1, s2⟩ := as3 wk.1
      have hb := h74 (v := (0, rz_bef (nI 2) (-1) ζd, va_up γd 21 (upd (γd 21) (7 * r + 4) 1))) rfl (by
        rw [l1, a3', s1]
        exact V_neg (fun q => wk.1 (as1.mp q)) (V_and l2 (V_and b3 (V_neg (fun q => absurd wk.2 (Int32.not_le.mpr q)) (V_K1 (ra_put hr (w := 4) (by decide) _ _ _) (V_K0 (ra_bef 2 (-1)) (V_T rfl)))))))
      have R6 := rr_h R5 (i := 7 * r + 4) (fun r1 h1 => by omega) (rW_upd hW1 hr (by decide) (Or.inr rfl) (by decide) (fun _ => s2))
      have h0u : upd ft 6 mo6 0 = 0 := by rw [pk_un (by decide)]; exact h0t
      have R7 := rr_bef R6 h0u (k := 2) (by decide) (by decide) (by decide) (b := -1) (c := -1) (fun q => absurd q (by decide)) (fun _ => rfl)
      rw [e36] at R7
      have D1 := pr_begin hl (rr_21 R) (rr_24 R) ((rr_30 R).trans h0) h25 hs hdl hb (rr_21 R7) (rr_24 R7) (p1 := u + 1) (by rw [rz_bef_o (by omega)]; exact e25) (by omega)
      have R8 := rr_z R7 (Or.inl rfl) (nI (pp_s tx len (u + 1)))
      have P8 : rP δ s room 0 0 (va_up γd 21 (upd (γd 21) (7 * r + 4) 1)) := ⟨by rw [pp_up_ne _ _ (by decide)]; exact P1.1, by rw [pp_up_ne _ _ (by decide)]; exact P1.2.1, by rw [pp_up_ne _ _ (by decide)]; exact P1.2.2.1, by rw [pp_up_ne _ _ (by decide)]; exact P1.2.2.2⟩
      obtain ⟨f', en', wr', ζ', γ', v9, R9, F9, D9, i35, i36, i25⟩ := rg_endR (rc := rc) (oc := oc) (x := 0) (q := q1) E R8 hr (Or.inr ⟨rfl, by rw [pt_bef_0]; decide, pp_s tx len (u + 1), pp_s_le (by omega), pp_up_eq _ _ _⟩) k7 k8 k14 (by rw [pp_up_ne _ _ (by decide), rz_bef_o (by omega)]; exact e35) hd P8 hs hw kk2
      rw [edr] at v9 R9
      refine ⟨0, f', _, en', wr', inn, ζ', γ', hgo (hpre (V_K (cp_wk_y E.1 E.2.1 hr wk) (V_neg (by decide) (V_K (rO_bef E 2 (nI r)) v9)))), R9, ?_, D1.trans D9, i35, i36, i25⟩
      exact (((Fe.trans (rF.h _ (Or.inl rfl)) (Nat.le_refl _)).trans (rz_bef_F _ _) (Nat.le_refl _)).trans (rF.z ⟨by decide, by decide⟩ _) (Nat.le_refl _)).trans F9 (Nat.le_refl _)
    · have hb := h74 (v := (0, ζd, γd)) rfl (by
        by_cases q0 : pl_slp f1 r = 0
        · exact V_pos (as1.mpr q0) (V_T rfl)
        · obtain ⟨s1, s2⟩ := as3 q0
          rw [l1, a3', s1]
          exact V_neg (fun q => q0 (as1.mp q)) (V_and l2 (V_and b3 (V_pos (Int32.not_le.mp (fun q => wk ⟨q0, q⟩)) (V_T rfl)))))
      have D1 := pr_begin hl (rr_21 R) (rr_24 R) ((rr_30 R).trans h0) h25 hs hdl hb (rr_21 R5) (rr_24 R5) (p1 := u + 1) e25 (by omega)
      have R8 := rr_z R5 (Or.inl rfl) (nI (pp_s tx len (u + 1)))
      have h0u : upd ft 6 mo6 0 = 0 := by rw [pk_un (by decide)]; exact h0t
      obtain ⟨x, f', fa', en', wr', inn', ζ2, γ2, v2, R2', F2, D2, p35, p36, hx⟩ := hB (a + 1) c (u + 1) q1 _ _ _ _ _ _ _ _ _ k6 hc100 (by omega) R8 h0u (pp_up_eq _ _ _) (by rw [pp_up_ne _ _ (by decide)]; exact e35) (by rw [pp_up_ne _ _ (by decide)]; exact e36) (Or.inr ⟨r, hr, rfl⟩)
      have hv1 := rc_first (room := nI r) (δ := δ) E ha k1 v2
      have P2 := P1.F F2
      obtain ⟨f9, en9, wr9, ζ9, γ9, v9, R9, F9, D9, i35, i36, i25⟩ := rg_endR (rc := rc) (oc := oc) (x := x) (q := q1) E R2' hr hx k7 k8 k14 p35 hd P2 hs hw kk2
      rw [edr] at v9 R9
      refine ⟨x, f9, _, en9, wr9, inn', ζ9, γ9, hgo (hpre (V_K (cp_wk_n E.1 E.2.1 hr wk) (V_pos rfl (V_K hv1 v9)))), R9, ?_, (D1.trans D2).trans D9, i35, i36, i25⟩
      exact ((Fe.trans (rF.z ⟨by decide, by decide⟩ _) (Nat.le_refl _)).trans F2 (by omega)).trans F9 (Nat.le_refl _)
  · have hb : nr_V (O_X6_begins (nI s) ζ γ) (T_X6_begins (nI s) ζ γ) (0, rz_bef (nI 1) (-1) ζb, γ) := by
      refine ra_in hl R hk hs hw huu hu2 hu3 ?_ rfl
      rw [hzb]
      unfold O_X6_goesIn T_X6_goesIn
      rw [nI_clamp (by omega), rr_24 R s hs, kk2, m1', show (56 : Int32) = nI 56 from rfl, nI_clamp (by decide), rr_56 R]
      exact V_and (vp_in_nI (by omega) (by decide)) (V_and m2 (V_neg mo1 (V_pos mo2 (V_K0 (ra_bef 1 (-1)) (V_T rfl)))))
    have hv : nr_V (O_X2_doAct rc oc (nI a) room (nI δ) (PZ z t wr inn dr) (PG g h t f fa en)) (T_X2_doAct rc oc (nI a) room (nI δ) (PZ z t wr inn dr) (PG g h t f fa en)) (0, PZ z t wr inn dr, PG g h t f (pt_bef ft 1 room (-1)) en) := by
      refine hgo ?_
      unfold O_X2_goInto T_X2_goInto
      rw [fg1, rO_16 E]
      exact V_and fg2 (V_and E.1 (V_and ad2 (V_pos (ad1.mpr nadm) (V_K1 (rO_bef E 1 room) (V_T rfl)))))
    have R1 := rr_bef Rb h0t (k := 1) (by decide) (by decide) (by decide) (b := -1) (c := -1) (fun q => absurd q (by decide)) (fun _ => rfl)
    rw [b36] at R1
    exact rG_begin hl R h0 h25 hs hdl hb hv R1 (Fb.trans (rz_bef_F _ _) (Nat.le_refl _)) (by rw [rz_bef_o (by omega)]; exact b35) (by rw [rz_bef_o (by omega)]; exact b36) (by rw [rz_bef_o (by omega)]; exact b25) (by omega) (Or.inr ⟨rfl, by rw [pt_bef_0]; decide⟩)
end
