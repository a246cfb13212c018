/-! acts with parts -/
section
variable {D : Nat → Prop} {tx : Nat → Int32} {len : Nat} {SL EN : Nat → Int32} {F : Nat → Nat → Int32} {z : Nat → Int32} {g : Nat → Nat → Int32} {h t : Nat} {f fa en : Nat → Int32} {wr inn dr room left sec : Int32} {ζ ζ1 : Nat → Int32} {γ γ1 : Nat → Nat → Int32} {a s e c δ q r m : Nat} {rc : Int32 → Int32 → Int32 → Int32 → nr_S → Int32 × nr_S} {oc : Int32 → Int32 → Int32 → Int32 → nr_S → Prop} {L : Nat → Nat → Nat → Nat → Prop}
/-- a bracket is begun -/
theorem rD_open (hl : len ≤ 100) (R : rr D tx len SL EN f fa en wr inn dr ζ γ) (h0 : fa 0 = 0) (hk : fa 4 < 40) (h25 : ζ 25 = nI s) (hs : s < len) (h35 : ζ 35 = nI δ) (hd : δ < 9) (h36 : ζ 36 = room) (hc : tx s = 40 ∨ tx s = 91 ∨ tx s = 60) : ∃ ζ' γ', pr_D ζ γ ζ' γ' ∧ rF δ ζ γ ζ' γ' ∧ rr D tx len SL EN f (upd fa 4 (fa 4 + 1)) en wr inn dr ζ' γ' ∧ rP δ s room 0 0 γ' ∧ ζ' 35 = nI (δ + 1) ∧ ζ' 36 = room ∧ ζ' 25 = nI (pp_s tx len (s + 1)) := by
  have Rt := rz_t_rr (s := s) R hk
  have e35 : rz_t s ζ 35 = nI δ := by rw [rz_t_o (by decide) (by decide)]; exact h35
  have e36 : rz_t s ζ 36 = room := by rw [rz_t_o (by decide) (by decide)]; exact h36
  obtain ⟨γ1, v1, F1, P1, o1⟩ := ra_push (γ := γ) e35 hd s room 0
  rw [e36] at P1
  have h87 : nr_V (O_X6_begins_87 (nI s) (rz_t s ζ) γ) (T_X6_begins_87 (nI s) (rz_t s ζ) γ) (0, va_up (va_up (rz_t s ζ) 35 (nI (δ + 1))) 36 room, γ1) := by
    unfold O_X6_begins_87 T_X6_begins_87
    rw [e36]
    exact V_K1 v1 (V_T rfl)
  have hb : nr_V (O_X6_begins (nI s) ζ γ) (T_X6_begins (nI s) ζ γ) (0, va_up (va_up (rz_t s ζ) 35 (nI (δ + 1))) 36 room, γ1) := by
    unfold O_X6_begins T_X6_begins
    rw [nI_clamp (by omega), rr_24 R s hs, pp_in07]
    refine V_and (vp_in_nI (by omega) (by decide)) (V_neg (rr_n40 R hk) ?_)
    rcases hc with e | e | e
    · exact V_pos (by rw [e]; decide) (V_pos e h87)
    · exact V_pos (by rw [e]; decide) (V_neg (by rw [e]; decide) (V_pos e h87))
    · exact V_pos (by rw [e]; decide) (V_neg (by rw [e]; decide) (V_neg (by rw [e]; decide) (V_pos e h87)))
  have R1 : rr D tx len SL EN f (upd fa 4 (fa 4 + 1)) en wr inn dr (va_up (va_up (rz_t s ζ) 35 (nI (δ + 1))) 36 room) γ1 := rr_cong Rt (fun i _ b c => by rw [pp_up_ne _ _ c, pp_up_ne _ _ b]) o1
  have hdl : ¬ pr_dl (tx s) := by
    unfold pr_dl
    rcases hc with e | e | e <;> rw [e] <;> decide
  refine ⟨va_up (va_up (va_up (rz_t s ζ) 35 (nI (δ + 1))) 36 room) 25 (nI (pp_s tx len (s + 1))), γ1, pr_begin hl (rr_21 R) (rr_24 R) ((rr_30 R).trans h0) h25 hs hdl hb (rr_21 R1) (rr_24 R1) (by rw [pp_up_ne _ _ (by decide), pp_up_ne _ _ (by decide), rz_t_25]) (by omega), ?_, rr_z R1 (Or.inl rfl) _, P1, by rw [pp_up_ne _ _ (by decide), pp_up_ne _ _ (by decide), pp_up_eq], by rw [pp_up_ne _ _ (by decide), pp_up_eq], pp_up_eq _ _ _⟩
  exact (((rz_t_F.trans F1 (Nat.le_refl _)).trans (rF.z ⟨by decide, by decide⟩ _) (Nat.le_refl _)).trans (rF.z ⟨by decide, by decide⟩ _) (Nat.le_refl _)).trans (rF.z ⟨by decide, by decide⟩ _) (Nat.le_refl _)
/-- on to the second part -/
theorem rD_sec (hl : len ≤ 100) (R : rr D tx len SL EN f fa en wr inn dr ζ γ) (h0 : ¬ fa 0 = 0) (h35 : ζ 35 = nI (δ + 1)) (hd : δ < 9) (hP : rP δ s room left 0 γ) (hs : s < len) {q1 : Nat} (hS : SL s = nI q1) (hq : q1 < len) (hc : tx s = 40) (h3 : ¬ (3 : Int32) < fa 0) : ∃ ζ' γ', pr_D ζ γ ζ' γ' ∧ rF δ ζ γ ζ' γ' ∧ rr D tx len SL EN f (pt_calm fa) en wr (-1) dr ζ' γ' ∧ rP δ s room left 1 γ' ∧ ζ' 35 = ζ 35 ∧ ζ' 36 = ζ 36 ∧ ζ' 25 = nI (pp_s tx len (q1 + 1)) := by
  have e30 := rr_30 R
  have R1 : rr D tx len SL EN f (pt_calm fa) en wr (-1) dr (va_up (va_up ζ 30 0) 25 (nI (q1 + 1))) (va_up γ 32 (upd (γ 32) δ 1)) := rr_z (rr_p (rr_calm R) (by decide) _) (Or.inl rfl) _
  have hb : nr_V (O_X6_goesDown ζ γ) (T_X6_goesDown ζ γ) (0, va_up (va_up ζ 30 0) 25 (nI (q1 + 1)), va_up γ 32 (upd (γ 32) δ 1)) := by
    unfold O_X6_goesDown T_X6_goesDown O_X6_goesDown_35 T_X6_goesDown_35
    rw [h35, nI_pred, nI_clamp (by omega), hP.1, nI_clamp (by omega), rr_24 R s hs, hP.2.2.2, e30, hc, pp_st_lit (by omega), pp_up_ne (i := 32) (j := 26) _ _ (by decide), R.2.2.2.2.2.2.2.2.1, hS, nI_1]
    exact V_and (vp_in_nI hd (by decide)) (V_and (vp_in_nI (by omega) (by decide)) (V_and (vp_in_nI hd (by decide)) (V_pos rfl (V_pos rfl (V_neg (by decide) (V_neg h3 (V_and (vp_in_nI hd (by decide)) (V_and (vp_in_nI (by omega) (by decide)) (V_T rfl)))))))))
  refine ⟨_, _, pr_down hl (by rw [e30]; exact h0) h35 hd hb (rr_21 R1) (rr_24 R1) (pp_up_eq _ _ _) (by omega), ?_, rr_z R1 (Or.inl rfl) _, ?_, ?_, ?_, pp_up_eq _ _ _⟩
  · exact (((rF.z ⟨by decide, by decide⟩ _).trans (rF.z ⟨by decide, by decide⟩ _) (Nat.le_refl _)).trans (rF.p ⟨by decide, by decide⟩ (Nat.le_refl _) _) (Nat.le_refl _)).trans (rF.z ⟨by decide, by decide⟩ _) (Nat.le_refl _)
  · exact ⟨by rw [pp_up_ne _ _ (by decide)]; exact hP.1, by rw [pp_up_ne _ _ (by decide)]; exact hP.2.1, by rw [pp_up_ne _ _ (by decide)]; exact hP.2.2.1, by rw [pp_up_eq, pk_us]⟩
  · rw [pp_up_ne _ _ (by decide), pp_up_ne _ _ (by decide), pp_up_ne _ _ (by decide)]
  · rw [pp_up_ne _ _ (by decide), pp_up_ne _ _ (by decide), pp_up_ne _ _ (by decide)]
theorem rD_hear (hl : len ≤ 100) (R : rr D tx len SL EN f fa en wr inn dr ζ γ) (h35 : ζ 35 = nI (δ + 1)) (hd : δ < 9) (hP : rP δ s room left 0 γ) (hs : s < len) {q1 : Nat} (hS : SL s = nI q1) (hq : q1 < len) (hc : tx s = 91) (h45 : fa 0 = 4 ∨ fa 0 = 5) : ∃ ζ' γ', pr_D ζ γ ζ' γ' ∧ rF δ ζ γ ζ' γ' ∧ rr D tx len SL EN (upd f 57 (f 57 + (if fa 0 = 4 then fa 2 else fa 3))) (pt_calm fa) en wr (-1) dr ζ' γ' ∧ rP δ s room left 1 γ' ∧ ζ' 35 = ζ 35 ∧ ζ' 36 = ζ 36 ∧ ζ' 25 = nI (pp_s tx len (q1 + 1)) := by
  have e30 := rr_30 R
  have h0 : ¬ fa 0 = 0 := by rcases h45 with e | e <;> rw [e] <;> decide
  have hx : (if fa 0 = 4 then ζ 32 else ζ 33) = (if fa 0 = 4 then fa 2 else fa 3) := by
    rcases R.2.2.2.2.2.1.2 with q | ⟨q1, q2, q3, q4, q5, q6⟩
    · exact absurd q.1 h0
    · by_cases e : fa 0 = 4
      · rw [if_pos e, if_pos e]; exact q3 e
      · rw [if_neg e, if_neg e]; exact (q5 (h45.resolve_left e)).1
  have R0 := rr_h R (i := 57) (fun r hr => by omega) (v := f 57 + (if fa 0 = 4 then fa 2 else fa 3)) (rW_sum R.2.1 _)
  have R1 := rr_z (rr_p (k := 32) (rr_calm R0) (by decide) (upd (γ 32) δ 1)) (Or.inl rfl) (nI (q1 + 1))
  have hb : nr_V (O_X6_goesDown ζ γ) (T_X6_goesDown ζ γ) (0, va_up (va_up ζ 30 0) 25 (nI (q1 + 1)), va_up (va_up γ 21 (upd (γ 21) 57 (f 57 + (if fa 0 = 4 then fa 2 else fa 3)))) 32 (upd (γ 32) δ 1)) := by
    have k110 : nr_V (O_X6_goesDown_110 (nI δ) (nI s) ζ γ) (T_X6_goesDown_110 (nI δ) (nI s) ζ γ) (0, va_up (va_up ζ 30 0) 25 (nI (q1 + 1)), va_up (va_up γ 21 (upd (γ 21) 57 (f 57 + (if fa 0 = 4 then fa 2 else fa 3)))) 32 (upd (γ 32) δ 1)) := by
      unfold O_X6_goesDown_110 T_X6_goesDown_110 O_X6_goesDown_137 T_X6_goesDown_137
      have fin : ∀ v : Int32, ((0 : Int32), va_up (va_up ζ 30 (0 : Int32)) 25 (((nr_st (nr_st γ 21 (57 : Int32) (γ 21 ((57 : Int32)).toNatClampNeg + v)) 32 (nI δ) (1 : Int32)) 26 (nI s).toNatClampNeg) + (1 : Int32)), nr_st (nr_st γ 21 (57 : Int32) (γ 21 ((57 : Int32)).toNatClampNeg + v)) 32 (nI δ) (1 : Int32)) = (0, va_up (va_up ζ 30 0) 25 (nI (q1 + 1)), va_up (va_up γ 21 (upd (γ 21) 57 (f 57 + v))) 32 (upd (γ 32) δ 1)) := by
        intro v
        have e1 : nr_st γ 21 (57 : Int32) (γ 21 ((57 : Int32)).toNatClampNeg + v) = va_up γ 21 (upd (γ 21) 57 (f 57 + v)) := by
          rw [show (57 : Int32) = nI 57 from rfl, nI_clamp (by decide), rr_57 R, pp_st_lit (by decide)]
        rw [e1, pp_st_lit (by omega), nI_clamp (by omega), pp_up_ne (i := 32) (j := 26) _ _ (by decide), pp_up_ne (i := 21) (j := 26) _ _ (by decide), R.2.2.2.2.2.2.2.2.1, hS, nI_1, pp_up_ne (i := 21) (j := 32) _ _ (by decide)]
      by_cases e : fa 0 = 4
      · rw [if_pos e] at hx ⊢
        rw [if_pos e] at hx
        refine V_pos (by rw [e30]; exact e) (V_and (vp_in_nI (n := 57) (N := 58) (by decide) (by decide)) (V_and (vp_in_nI hd (by decide)) (V_and (vp_in_nI (by omega) (by decide)) (V_T ?_))))
        rw [fin, hx]
      · rw [if_neg e] at hx ⊢
        rw [if_neg e] at hx
        refine V_neg (by rw [e30]; exact e) (V_and (vp_in_nI (n := 57) (N := 58) (by decide) (by decide)) (V_and (vp_in_nI hd (by decide)) (V_and (vp_in_nI (by omega) (by decide)) (V_T ?_))))
        rw [fin, hx]
    unfold O_X6_goesDown T_X6_goesDown O_X6_goesDown_35 T_X6_goesDown_35 O_X6_goesDown_83 T_X6_goesDown_83
    rw [h35, nI_pred, nI_clamp (by omega), hP.1, nI_clamp (by omega), rr_24 R s hs, hP.2.2.2, e30, hc]
    refine V_and (vp_in_nI hd (by decide)) (V_and (vp_in_nI (by omega) (by decide)) (V_and (vp_in_nI hd (by decide)) (V_pos rfl (V_neg (by decide) (V_pos rfl (V_neg (by decide) ?_))))))
    by_cases e : fa 0 = 4
    · exact V_pos e k110
    · exact V_neg e (V_pos (h45.resolve_left e) k110)
  refine ⟨_, _, pr_down hl (by rw [e30]; exact h0) h35 hd hb (rr_21 R1) (rr_24 R1) (pp_up_eq _ _ _) (by omega), ?_, rr_z R1 (Or.inl rfl) _, ?_, ?_, ?_, pp_up_eq _ _ _⟩
  · have k := rF.p (δ := δ) (ζ := ζ) (γ := va_up γ 21 (upd (γ 21) 57 (f 57 + (if fa 0 = 4 then fa 2 else fa 3)))) (k := 32) (i := δ) (by decide) (Nat.le_refl _) 1
    rw [pp_up_ne (i := 21) (j := 32) _ _ (by decide)] at k
    exact (((((rF.h _ (Or.inl rfl)).trans k (Nat.le_refl _))).trans (rF.z ⟨by decide, by decide⟩ _) (Nat.le_refl _)).trans (rF.z ⟨by decide, by decide⟩ _) (Nat.le_refl _)).trans (rF.z ⟨by decide, by decide⟩ _) (Nat.le_refl _)
  · exact ⟨by rw [pp_up_ne _ _ (by decide), pp_up_ne _ _ (by decide)]; exact hP.1, by rw [pp_up_ne _ _ (by decide), pp_up_ne _ _ (by decide)]; exact hP.2.1, by rw [pp_up_ne _ _ (by decide), pp_up_ne _ _ (by decide)]; exact hP.2.2.1, by rw [pp_up_eq, pk_us]⟩
  · rw [pp_up_ne _ _ (by decide), pp_up_ne _ _ (by decide), pp_up_ne _ _ (by decide)]
  · rw [pp_up_ne _ _ (by decide), pp_up_ne _ _ (by decide), pp_up_ne _ _ (by decide)]
/-- the porter's act, by its sign -/
theorem cp_br {v : Int32 × nr_S} (E : rO tx len SL EN F z g h t) (hk : fa 4 < 40) (ha : a < 100) (k : nr_V (O_X2_doOrElse rc oc (nI a) room (nI δ) (PZ z t wr inn dr) (PG g h t f (upd fa 4 (fa 4 + 1)) en)) (T_X2_doOrElse rc oc (nI a) room (nI δ) (PZ z t wr inn dr) (PG g h t f (upd fa 4 (fa 4 + 1)) en)) v ∧ F 0 a = 40 ∨ nr_V (O_X2_doAndHear rc oc (nI a) room (nI δ) (PZ z t wr inn dr) (PG g h t f (upd fa 4 (fa 4 + 1)) en)) (T_X2_doAndHear rc oc (nI a) room (nI δ) (PZ z t wr inn dr) (PG g h t f (upd fa 4 (fa 4 + 1)) en)) v ∧ F 0 a = 91 ∨ nr_V (O_X2_doAndReport rc oc (nI a) room (nI δ) (PZ z t wr inn dr) (PG g h t f (upd fa 4 (fa 4 + 1)) en)) (T_X2_doAndReport rc oc (nI a) room (nI δ) (PZ z t wr inn dr) (PG g h t f (upd fa 4 (fa 4 + 1)) en)) v ∧ F 0 a = 60 ∨ nr_V (O_X2_doSoOften rc oc (nI a) room (nI δ) (PZ z t wr inn dr) (PG g h t f (upd fa 4 (fa 4 + 1)) en)) (T_X2_doSoOften rc oc (nI a) room (nI δ) (PZ z t wr inn dr) (PG g h t f (upd fa 4 (fa 4 + 1)) en)) v ∧ F 0 a = 120 ∨ nr_V (O_X2_goInto rc oc (nI a) room (nI δ) (PZ z t wr inn dr) (PG g h t f (upd fa 4 (fa 4 + 1)) en)) (T_X2_goInto rc oc (nI a) room (nI δ) (PZ z t wr inn dr) (PG g h t f (upd fa 4 (fa 4 + 1)) en)) v ∧ F 0 a = 82) : nr_V (O_X2_doAct rc oc (nI a) room (nI δ) (PZ z t wr inn dr) (PG g h t f fa en)) (T_X2_doAct rc oc (nI a) room (nI δ) (PZ z t wr inn dr) (PG g h t f fa en)) v := by
  unfold O_X2_doAct T_X2_doAct
  rw [rO_17 E]
  refine V_and E.2.1 (V_Kn (cp_tick_y E.1 E.2.1 hk) (V_neg (by decide) (V_and (rO_sg E ha _ _ _ _ _ _).2 ?_)))
  rw [(rO_sg E ha _ _ _ _ _ _).1]
  obtain ⟨v0, v1, v2⟩ := v
  rcases k with ⟨k, e⟩ | ⟨k, e⟩ | ⟨k, e⟩ | ⟨k, e⟩ | ⟨k, e⟩ <;> rw [e]
  · exact V_neg (by decide) (V_pos rfl (V_K1 k (V_T rfl)))
  · exact V_neg (by decide) (V_neg (by decide) (V_neg (by decide) (V_neg (by decide) (V_neg (by decide) (V_pos rfl (V_K1 k (V_T rfl)))))))
  · exact V_neg (by decide) (V_neg (by decide) (V_neg (by decide) (V_pos rfl (V_K1 k (V_T rfl)))))
  · exact V_neg (by decide) (V_neg (by decide) (V_neg (by decide) (V_neg (by decide) (V_neg (by decide) (V_neg (by decide) (V_pos rfl (V_K1 k (V_T rfl))))))))
  · exact V_neg (by decide) (V_neg (by decide) (V_neg (by decide) (V_neg (by decide) (V_pos rfl (V_K1 k (V_T rfl))))))
/-- the second part, by both; then the bracket's end -/
theorem rg_sec {f0 fa0 en0 : Nat → Int32} {wr0 inn0 : Int32} {q2 : Nat} {ζ0 : Nat → Int32} {γ0 : Nat → Nat → Int32} {oR : Prop} {vR : Int32 × nr_S} (E : rO tx len SL EN F z g h t) (hB : rB D tx len SL EN z g h t L (δ + 1) rc oc) (hd : δ < 9) (hM : rM room) (D0 : pr_D ζ γ ζ0 γ0) (F0 : rF δ ζ γ ζ0 γ0) (R : rr D tx len SL EN f0 fa0 en0 wr0 inn0 dr ζ0 γ0) (h0 : fa0 0 = 0) (hP : rP δ s room left 1 γ0) (h35 : ζ0 35 = nI (δ + 1)) (h36 : ζ0 36 = room) {q1 : Nat} (h25 : ζ0 25 = nI (pp_s tx len (q1 + 1))) (hq1 : q1 < len) (hL : L m c (q1 + 1) q2) (hc100 : c ≤ 100) (hs : s < len) (hcs : tx s = 40 ∨ tx s = 91) (hq2 : q2 < len) (hcl : tx q2 = 41 ∨ tx q2 = 93) (hE : EN s = nI q2) (kv : ∀ x u, (x = 1 ∨ x = 0) → nr_V (oc (nI m) (nI c) room (nI (δ + 1)) (PZ z t wr0 inn0 dr, PG g h t f0 fa0 en0)) (rc (nI m) (nI c) room (nI (δ + 1)) (PZ z t wr0 inn0 dr, PG g h t f0 fa0 en0)) (x, u) → nr_V oR vR (x, u)) : rG D tx len SL EN z g h t dr room δ (pp_s tx len (q2 + 1)) ζ γ oR vR := by
  have hl := E.2.2.2.2.1
  obtain ⟨x, f', fa', en', wr', inn', ζ2, γ2, v2, R2, F2, D2, p35, p36, hx⟩ := hB m c (q1 + 1) q2 f0 fa0 en0 wr0 inn0 dr room ζ0 γ0 hL hc100 (by omega) R h0 h25 h35 h36 hM
  have P2 := hP.F F2
  have hw : R_X5_within (tx s) 48 55 = 0 := by rcases hcs with e | e <;> rw [e] <;> decide
  rcases hx with ⟨x1, z0, p25⟩ | ⟨x0, n0, p, hp, p25⟩
  · obtain ⟨ζ3, D3, F3, R3, a35, a36, a25⟩ := rD_end hl R2 z0 p25 hq2 (by unfold pr_dl; rcases hcl with e | e <;> rw [e] <;> decide) (fun e => by rcases hcl with e1 | e1 <;> rw [e1] at e <;> exact absurd e (by decide)) p35 hd P2 hs hw hE hq2
    exact ⟨x, f', fa', en', wr', inn', ζ3, γ2, kv x _ (Or.inl x1) v2, R3, (F0.trans F2 (by omega)).trans F3 (Nat.le_refl _), (D0.trans D2).trans D3, a35, a36, Or.inl ⟨x1, z0, a25⟩⟩
  · obtain ⟨ζ3, D3, F3, R3, a35, a36, a25⟩ := rD_down hl R2 n0 p25 hp p35 hd P2 hs hw (fun _ e => absurd e (by decide)) (fun _ e => absurd e (by decide)) (fun e => by rcases hcs with e1 | e1 <;> rw [e1] at e <;> exact absurd e (by decide))
    exact ⟨x, f', fa', en', wr', inn', ζ3, γ2, kv x _ (Or.inr x0) v2, R3, (F0.trans F2 (by omega)).trans F3 (Nat.le_refl _), (D0.trans D2).trans D3, a35, a36, Or.inr ⟨x0, n0, a25⟩⟩
end
