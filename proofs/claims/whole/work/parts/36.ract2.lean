/-! the small acts -/
section
variable {D : Nat → Prop} {tx : Nat → Int32} {len : Nat} {SL EN : Nat → Int32} {F : Nat → Nat → Int32} {z : Nat → Int32} {g : Nat → Nat → Int32} {h t : Nat} {f fa en : Nat → Int32} {wr inn dr room : Int32} {ζ ζ1 : Nat → Int32} {γ γ1 : Nat → Nat → Int32} {a s e c δ q r : Nat} {rc : Int32 → Int32 → Int32 → Int32 → nr_S → Int32 × nr_S} {oc : Int32 → Int32 → Int32 → Int32 → nr_S → Prop}
/-- a figure in the text -/
theorem ra_fig {d : Nat} (hl : len ≤ 100) (h21 : ζ 21 = nI len) (h24 : ∀ i, i < len → γ 24 i = tx i) (hp : d ≤ len) (hd : pp_s tx len d < len) : nr_V (O_X6_figureFrom (nI d) ζ γ) (T_X6_figureFrom (nI d) ζ γ) (tx (pp_s tx len d) - 48, va_up ζ 25 (nI (pp_s tx len d + 1)), γ) := by
  have e := pp_skip (z := va_up ζ 25 (nI d)) (g := γ) (p := d) (by rw [pp_up_ne _ _ (by decide)]; exact h21) hl hp (pp_up_eq _ _ _)
  rw [pp_s_congr h24, pp_up_up] at e
  unfold O_X6_figureFrom T_X6_figureFrom
  refine V_K e ?_
  rw [pp_up_eq, nI_clamp (by omega), h24 _ hd, nI_1, pp_up_up]
  exact V_and (vp_in_nI (by omega) (by decide)) (V_T rfl)
theorem rg_alarm (E : rO tx len SL EN F z g h t) (R : rr D tx len SL EN f fa en wr inn dr ζ γ) (h0 : fa 0 = 0) (hk : fa 4 < 40) (h25 : ζ 25 = nI s) (hs : s < len) (h35 : ζ 35 = nI δ) (h36 : ζ 36 = room) (ha : a < 100) (hc : tx s = 33) (hf : F 0 a = 33) (hd : pp_s tx len (s + 1) < len) (hf1 : F 1 a = tx (pp_s tx len (s + 1)) - 48) : rG D tx len SL EN z g h t dr room δ q ζ γ (O_X2_doAct rc oc (nI a) room (nI δ) (PZ z t wr inn dr) (PG g h t f fa en)) (T_X2_doAct rc oc (nI a) room (nI δ) (PZ z t wr inn dr) (PG g h t f fa en)) := by
  have hl := E.2.2.2.2.1
  have Rt := rz_t_rr (s := s) R hk
  have hb : nr_V (O_X6_begins (nI s) ζ γ) (T_X6_begins (nI s) ζ γ) (0, rz_bef 4 (tx (pp_s tx len (s + 1)) - 48) (va_up (rz_t s ζ) 25 (nI (pp_s tx len (s + 1) + 1))), γ) := by
    unfold O_X6_begins T_X6_begins
    rw [nI_clamp (by omega), rr_24 R s hs, hc, pp_in07]
    refine V_and (vp_in_nI (by omega) (by decide)) (V_neg (rr_n40 R hk) (V_pos (by decide) (V_neg (by decide) (V_neg (by decide) (V_neg (by decide) (V_neg (by decide) (V_pos rfl (V_K1 (z := va_up (rz_t s ζ) 25 (nI (pp_s tx len (s + 1) + 1))) ?_ (V_K0 (ra_bef 4 _) (V_T rfl))))))))))
    have := ra_fig (ζ := rz_t s ζ) (γ := γ) (d := s + 1) hl (rr_21 Rt) (rr_24 R) (by omega) hd
    rw [← nI_1] at this
    exact this
  have hv : nr_V (O_X2_doAct rc oc (nI a) room (nI δ) (PZ z t wr inn dr) (PG g h t f fa en)) (T_X2_doAct rc oc (nI a) room (nI δ) (PZ z t wr inn dr) (PG g h t f fa en)) (0, PZ z t wr inn dr, PG g h t f (pt_bef (upd fa 4 (fa 4 + 1)) 4 room (tx (pp_s tx len (s + 1)) - 48)) en) := by
    unfold O_X2_doAct T_X2_doAct
    rw [rO_17 E]
    refine V_and E.2.1 (V_Kn (cp_tick_y E.1 E.2.1 hk) (V_neg (by decide) (V_and (rO_sg E ha _ _ _ _ _ _).2 ?_)))
    rw [(rO_sg E ha _ _ _ _ _ _).1, hf, rO_17 E, (rO_fg E ha _ _ _ _ _ _).1, hf1]
    exact V_pos rfl (V_and (rO_fg E ha _ _ _ _ _ _).2 (V_and E.2.1 (V_K0 (cp_bef E.1 E.2.1 _ _ _) (V_T rfl))))
  have R2 := rr_z Rt (Or.inl rfl) (nI (pp_s tx len (s + 1) + 1))
  have R1 := rr_bef R2 (rt_0 h0) (k := 4) (by decide) (by decide) (by decide) (b := tx (pp_s tx len (s + 1)) - 48) (c := tx (pp_s tx len (s + 1)) - 48) (fun _ => rfl) (fun q => absurd rfl q)
  have e36 : va_up (rz_t s ζ) 25 (nI (pp_s tx len (s + 1) + 1)) 36 = room := by rw [pp_up_ne _ _ (by decide), rz_t_o (by decide) (by decide)]; exact h36
  rw [e36] at R1
  exact rG_begin hl R h0 h25 hs (by rw [hc]; unfold pr_dl; decide) hb hv R1 ((rz_t_F.trans (rF.z ⟨by decide, by decide⟩ _) (Nat.le_refl _)).trans (rz_bef_F _ _) (Nat.le_refl _)) (by rw [rz_bef_o (by omega), pp_up_ne _ _ (by decide), rz_t_o (by decide) (by decide)]; exact h35) (by rw [rz_bef_o (by omega)]; exact e36) (by rw [rz_bef_o (by omega), pp_up_eq]) (by omega) (Or.inr ⟨rfl, by rw [pt_bef_0]; decide⟩)
/-- a sign of a room's -/
def ly_rs (c : Int32) : Prop := c = 108 ∨ c = 107 ∨ c = 119 ∨ c = 98
theorem ly_rs_d {c : Int32} (h : ly_rs c) : ¬ pr_dl c ∧ R_X5_within c 48 55 = 0 ∧ ¬ c = 40 ∧ ¬ c = 91 ∧ ¬ c = 60 ∧ ¬ c = 120 ∧ ¬ c = 33 ∧ ¬ c = 43 ∧ ¬ c = 82 := by
  unfold pr_dl
  rcases h with rfl | rfl | rfl | rfl <;> decide
/-- the model's part of a room's act -/
theorem ra_room {v : Int32 × nr_S} (R : rr D tx len SL EN f fa en wr inn dr ζ γ) (hl : len ≤ 100) (hk : fa 4 < 40) (hs : s < len) (hc : ly_rs (tx s)) (kh : ζ 36 = -1 → v = (0, rz_bef 3 (-1) (rz_t s ζ), γ)) (kr : ¬ ζ 36 = -1 → nr_V ((tx s = 108 → (O_X6_at (ζ 36) 5 (rz_t s ζ) γ ∧ (O_X6_put (ζ 36) 5 (1 - R_X6_at (ζ 36) 5 (rz_t s ζ) γ) (rz_t s ζ) γ ∧ True))) ∧ (¬ tx s = 108 → ((tx s = 107 → (O_X6_takesKey (rz_t s ζ) γ ∧ True)) ∧ (¬ tx s = 107 → ((tx s = 119 → (O_X6_wakes (rz_t s ζ) γ ∧ True)) ∧ (¬ tx s = 119 → (O_X6_looksIn (rz_t s ζ) γ ∧ True))))))) (if tx s = 108 then nr_K (T_X6_put (ζ 36) 5 (1 - R_X6_at (ζ 36) 5 (rz_t s ζ) γ) (rz_t s ζ) γ) (fun r_236 z_236 g_236 => ((0 : Int32), z_236, g_236)) else if tx s = 107 then nr_K (T_X6_takesKey (rz_t s ζ) γ) (fun r_249 z_249 g_249 => ((0 : Int32), z_249, g_249)) else if tx s = 119 then nr_K (T_X6_wakes (rz_t s ζ) γ) (fun r_262 z_262 g_262 => ((0 : Int32), z_262, g_262)) else nr_K (T_X6_looksIn (rz_t s ζ) γ) (fun r_269 z_269 g_269 => ((0 : Int32), z_269, g_269))) v) : nr_V (O_X6_begins (nI s) ζ γ) (T_X6_begins (nI s) ζ γ) v := by
  obtain ⟨_, n0, n1, n2, n3, n4, n5, n6, _⟩ := ly_rs_d hc
  unfold O_X6_begins T_X6_begins
  rw [nI_clamp (by omega), rr_24 R s hs, pp_in07]
  refine V_and (vp_in_nI (by omega) (by decide)) (V_neg (rr_n40 R hk) (V_pos n0 (V_neg n1 (V_neg n2 (V_neg n3 (V_neg n4 (V_neg n5 (V_neg n6 ?_))))))))
  by_cases hh : ζ 36 = -1
  · rw [kh hh]
    exact V_pos hh (V_K0 (ra_bef 3 (-1)) (V_T rfl))
  · exact V_neg hh (kr hh)
/-- the porter's part of it -/
theorem cp_room {v : Int32 × nr_S} (E : rO tx len SL EN F z g h t) (hk : fa 4 < 40) (ha : a < 100) (hc : ly_rs (tx s)) (hf : F 0 a = tx s) (kh : room = -1 → v = (0, PZ z t wr inn dr, PG g h t f (pt_bef (upd fa 4 (fa 4 + 1)) 3 room (-1)) en)) (kr : ¬ room = -1 → nr_V (O_X2_doInRoom (tx s) room (PZ z t wr inn dr) (PG g h t f (upd fa 4 (fa 4 + 1)) en)) (T_X2_doInRoom (tx s) room (PZ z t wr inn dr) (PG g h t f (upd fa 4 (fa 4 + 1)) en)) v) : nr_V (O_X2_doAct rc oc (nI a) room (nI δ) (PZ z t wr inn dr) (PG g h t f fa en)) (T_X2_doAct rc oc (nI a) room (nI δ) (PZ z t wr inn dr) (PG g h t f fa en)) v := by
  obtain ⟨_, n0, n1, n2, n3, n4, n5, n6, n7⟩ := ly_rs_d hc
  unfold O_X2_doAct T_X2_doAct
  rw [rO_17 E]
  refine V_and E.2.1 (V_Kn (cp_tick_y E.1 E.2.1 hk) (V_neg (by decide) (V_and (rO_sg E ha _ _ _ _ _ _).2 ?_)))
  rw [(rO_sg E ha _ _ _ _ _ _).1, hf]
  refine V_neg n5 (V_neg n1 (V_neg n6 (V_neg n3 (V_neg n7 (V_neg n2 (V_neg n4 ?_))))))
  by_cases hh : room = -1
  · rw [kh hh]
    exact V_pos hh (V_K1 (rO_bef E 3 room) (V_T rfl))
  · refine V_neg hh (V_and (rO_sg E ha _ _ _ _ _ _).2 ?_)
    obtain ⟨x, y⟩ := kr hh
    obtain ⟨v0, v1, v2⟩ := v
    exact V_K1 ⟨x, y⟩ (V_T rfl)
theorem rg_hall (E : rO tx len SL EN F z g h t) (R : rr D tx len SL EN f fa en wr inn dr ζ γ) (h0 : fa 0 = 0) (hk : fa 4 < 40) (h25 : ζ 25 = nI s) (hs : s < len) (h35 : ζ 35 = nI δ) (h36 : ζ 36 = room) (hr : room = -1) (ha : a < 100) (hc : ly_rs (tx s)) (hf : F 0 a = tx s) : rG D tx len SL EN z g h t dr room δ q ζ γ (O_X2_doAct rc oc (nI a) room (nI δ) (PZ z t wr inn dr) (PG g h t f fa en)) (T_X2_doAct rc oc (nI a) room (nI δ) (PZ z t wr inn dr) (PG g h t f fa en)) := by
  have hl := E.2.2.2.2.1
  have Rt := rz_t_rr (s := s) R hk
  have hb := ra_room (v := (0, rz_bef 3 (-1) (rz_t s ζ), γ)) R hl hk hs hc (fun _ => rfl) (fun q => absurd (h36.trans hr) q)
  have hv := cp_room (rc := rc) (oc := oc) (wr := wr) (inn := inn) (dr := dr) (f := f) (en := en) (δ := δ) (room := room) (v := (0, PZ z t wr inn dr, PG g h t f (pt_bef (upd fa 4 (fa 4 + 1)) 3 room (-1)) en)) E hk ha hc hf (fun _ => rfl) (fun q => absurd hr q)
  have R1 := rr_bef Rt (rt_0 h0) (k := 3) (by decide) (by decide) (by decide) (b := -1) (c := -1) (fun q => absurd q (by decide)) (fun _ => rfl)
  have e36 : rz_t s ζ 36 = room := by rw [rz_t_o (by decide) (by decide)]; exact h36
  rw [e36] at R1
  exact rG_begin hl R h0 h25 hs (ly_rs_d hc).1 hb hv R1 (rz_t_F.trans (rz_bef_F _ _) (Nat.le_refl _)) (by rw [rz_bef_o (by omega), rz_t_o (by decide) (by decide)]; exact h35) (by rw [rz_bef_o (by omega)]; exact e36) (by rw [rz_bef_o (by omega), rz_t_25]) (by omega) (Or.inr ⟨rfl, by rw [pt_bef_0]; decide⟩)
theorem nI_nm1 {r : Nat} (hr : r < 8) : ¬ nI r = (-1 : Int32) := pp_nI_m1 (by omega)
/-- an act in a room that goes well -/
theorem rg_in {f' : Nat → Int32} {γ1 : Nat → Nat → Int32} (E : rO tx len SL EN F z g h t) (R : rr D tx len SL EN f fa en wr inn dr ζ γ) (h0 : fa 0 = 0) (hk : fa 4 < 40) (h25 : ζ 25 = nI s) (hs : s < len) (h35 : ζ 35 = nI δ) (h36 : ζ 36 = nI r) (hr : r < 8) (ha : a < 100) (hc : ly_rs (tx s)) (hf : F 0 a = tx s) (hq : q = pp_s tx len (s + 1)) (hb : nr_V (O_X6_begins (nI s) ζ γ) (T_X6_begins (nI s) ζ γ) (0, rz_t s ζ, γ1)) (hF : rF δ (rz_t s ζ) γ (rz_t s ζ) γ1) (R1 : rr D tx len SL EN f' (upd fa 4 (fa 4 + 1)) en wr inn dr (rz_t s ζ) γ1) (hv : nr_V (O_X2_doInRoom (tx s) (nI r) (PZ z t wr inn dr) (PG g h t f (upd fa 4 (fa 4 + 1)) en)) (T_X2_doInRoom (tx s) (nI r) (PZ z t wr inn dr) (PG g h t f (upd fa 4 (fa 4 + 1)) en)) (1, PZ z t wr inn dr, PG g h t f' (upd fa 4 (fa 4 + 1)) en)) : rG D tx len SL EN z g h t dr (nI r) δ q ζ γ (O_X2_doAct rc oc (nI a) (nI r) (nI δ) (PZ z t wr inn dr) (PG g h t f fa en)) (T_X2_doAct rc oc (nI a) (nI r) (nI δ) (PZ z t wr inn dr) (PG g h t f fa en)) := by
  have hl := E.2.2.2.2.1
  have hv2 := cp_room (rc := rc) (oc := oc) (wr := wr) (inn := inn) (dr := dr) (f := f) (en := en) (δ := δ) (room := nI r) E hk ha hc hf (fun q => absurd q (nI_nm1 hr)) (fun _ => hv)
  exact rG_begin hl R h0 h25 hs (ly_rs_d hc).1 hb hv2 R1 (rz_t_F.trans hF (Nat.le_refl _)) (by rw [rz_t_o (by decide) (by decide)]; exact h35) (by rw [rz_t_o (by decide) (by decide)]; exact h36) rz_t_25 (by omega) (Or.inl ⟨rfl, rt_0 h0, hq⟩)
/-- one that doesn't -/
theorem rg_out {f' : Nat → Int32} {γ1 : Nat → Nat → Int32} {k : Nat} (hk1 : 1 ≤ k) (hk2 : k ≤ 3) (E : rO tx len SL EN F z g h t) (R : rr D tx len SL EN f fa en wr inn dr ζ γ) (h0 : fa 0 = 0) (hk : fa 4 < 40) (h25 : ζ 25 = nI s) (hs : s < len) (h35 : ζ 35 = nI δ) (h36 : ζ 36 = nI r) (hr : r < 8) (ha : a < 100) (hc : ly_rs (tx s)) (hf : F 0 a = tx s) (hb : nr_V (O_X6_begins (nI s) ζ γ) (T_X6_begins (nI s) ζ γ) (0, rz_bef (nI k) (-1) (rz_t s ζ), γ1)) (hF : rF δ (rz_t s ζ) γ (rz_t s ζ) γ1) (R1 : rr D tx len SL EN f' (upd fa 4 (fa 4 + 1)) en wr inn dr (rz_t s ζ) γ1) (hv : nr_V (O_X2_doInRoom (tx s) (nI r) (PZ z t wr inn dr) (PG g h t f (upd fa 4 (fa 4 + 1)) en)) (T_X2_doInRoom (tx s) (nI r) (PZ z t wr inn dr) (PG g h t f (upd fa 4 (fa 4 + 1)) en)) (0, PZ z t wr inn dr, PG g h t f' (pt_bef (upd fa 4 (fa 4 + 1)) (nI k) (nI r) (-1)) en)) : rG D tx len SL EN z g h t dr (nI r) δ q ζ γ (O_X2_doAct rc oc (nI a) (nI r) (nI δ) (PZ z t wr inn dr) (PG g h t f fa en)) (T_X2_doAct rc oc (nI a) (nI r) (nI δ) (PZ z t wr inn dr) (PG g h t f fa en)) := by
  have hl := E.2.2.2.2.1
  have hv2 := cp_room (rc := rc) (oc := oc) (wr := wr) (inn := inn) (dr := dr) (f := f) (en := en) (δ := δ) (room := nI r) E hk ha hc hf (fun q => absurd q (nI_nm1 hr)) (fun _ => hv)
  have R2 := rr_bef R1 (rt_0 h0) (k := k) hk1 (by omega) (by omega) (b := -1) (c := -1) (fun q => absurd q (by omega)) (fun _ => rfl)
  have e36 : rz_t s ζ 36 = nI r := by rw [rz_t_o (by decide) (by decide)]; exact h36
  rw [e36] at R2
  exact rG_begin hl R h0 h25 hs (ly_rs_d hc).1 hb hv2 R2 ((rz_t_F.trans hF (Nat.le_refl _)).trans (rz_bef_F _ _) (Nat.le_refl _)) (by rw [rz_bef_o (by omega), rz_t_o (by decide) (by decide)]; exact h35) (by rw [rz_bef_o (by omega)]; exact e36) (by rw [rz_bef_o (by omega), rz_t_25]) (by omega) (Or.inr ⟨rfl, by rw [pt_bef_0]; exact nI_ne0 (by omega) (by omega)⟩)
theorem rg_l (E : rO tx len SL EN F z g h t) (R : rr D tx len SL EN f fa en wr inn dr ζ γ) (h0 : fa 0 = 0) (hk : fa 4 < 40) (h25 : ζ 25 = nI s) (hs : s < len) (h35 : ζ 35 = nI δ) (h36 : ζ 36 = nI r) (hr : r < 8) (ha : a < 100) (hc : tx s = 108) (hf : F 0 a = tx s) (hq : q = pp_s tx len (s + 1)) : rG D tx len SL EN z g h t dr (nI r) δ q ζ γ (O_X2_doAct rc oc (nI a) (nI r) (nI δ) (PZ z t wr inn dr) (PG g h t f fa en)) (T_X2_doAct rc oc (nI a) (nI r) (nI δ) (PZ z t wr inn dr) (PG g h t f fa en)) := by
  have hl := E.2.2.2.2.1
  have Rt := rz_t_rr (s := s) R hk
  have hcs : ly_rs (tx s) := Or.inl hc
  have hat := ra_c Rt hr (w := 5) (by decide) (by decide)
  have hb := ra_room (v := (0, rz_t s ζ, va_up γ 21 (upd (γ 21) (7 * r + 5) (1 - f (7 * r + 5))))) R hl hk hs hcs (fun q => absurd (h36.symm.trans q) (nI_nm1 hr)) (fun _ => by
    have e : R_X6_at (nI r) 5 (rz_t s ζ) γ = f (7 * r + 5) := hat.1
    rw [h36, e]
    exact V_pos hc (V_and hat.2 (V_K1 (ra_put hr (w := 5) (by decide) _ _ _) (V_T rfl))))
  have hW : rW (upd f (7 * r + 5) (1 - f (7 * r + 5))) := rW_upd R.2.1 hr (by decide) (by
    have c5 : f (7 * r + 5) = 0 ∨ f (7 * r + 5) = 1 := R.2.1.1 r 5 hr (by decide)
    show 1 - f (7 * r + 5) = 0 ∨ 1 - f (7 * r + 5) = 1
    rcases c5 with e | e <;> rw [e] <;> decide) (by decide) (fun q => absurd q (by decide))
  exact rg_in E R h0 hk h25 hs h35 h36 hr ha hcs hf hq hb (rF.h _ (Or.inl rfl)) (rr_h Rt (fun r1 h1 => by omega) hW) (by
    unfold O_X2_doInRoom T_X2_doInRoom
    rw [rO_16 E, hc]
    exact V_neg (by decide) (V_pos rfl (V_and E.1 (V_K1 (cp_lamp E.1 E.2.1 hr) (V_T rfl)))))
theorem rw_keys : ∀ k, k < 8 → ∀ j, j < 4 → j ≠ 0 → ∃ k', k' < 8 ∧ (nI (2 * k) ||| ((1 : Int32) <<< (nI j &&& 31))) = nI (2 * k') := by decide
theorem rg_k (E : rO tx len SL EN F z g h t) (R : rr D tx len SL EN f fa en wr inn dr ζ γ) (h0 : fa 0 = 0) (hk : fa 4 < 40) (h25 : ζ 25 = nI s) (hs : s < len) (h35 : ζ 35 = nI δ) (h36 : ζ 36 = nI r) (hr : r < 8) (ha : a < 100) (hc : tx s = 107) (hf : F 0 a = tx s) (hq : q = pp_s tx len (s + 1)) : rG D tx len SL EN z g h t dr (nI r) δ q ζ γ (O_X2_doAct rc oc (nI a) (nI r) (nI δ) (PZ z t wr inn dr) (PG g h t f fa en)) (T_X2_doAct rc oc (nI a) (nI r) (nI δ) (PZ z t wr inn dr) (PG g h t f fa en)) := by
  have hl := E.2.2.2.2.1
  have Rt := rz_t_rr (s := s) R hk
  have hcs : ly_rs (tx s) := Or.inr (Or.inl hc)
  have hat := ra_c Rt hr (w := 2) (by decide) (by decide)
  have e2 : R_X6_at (nI r) 2 (rz_t s ζ) γ = f (7 * r + 2) := hat.1
  have e36 : rz_t s ζ 36 = nI r := by rw [rz_t_o (by decide) (by decide)]; exact h36
  obtain ⟨j, j1, j2⟩ := R.2.1.1 r 2 hr (by decide)
  obtain ⟨k, k1, k2⟩ := R.2.1.2.2
  have hv : nr_V (O_X2_doInRoom (tx s) (nI r) (PZ z t wr inn dr) (PG g h t f (upd fa 4 (fa 4 + 1)) en)) (T_X2_doInRoom (tx s) (nI r) (PZ z t wr inn dr) (PG g h t f (upd fa 4 (fa 4 + 1)) en)) (1, PZ z t wr inn dr, PG g h t (if f (7 * r + 2) = 0 then f else upd (upd f 56 (f 56 ||| ((1 : Int32) <<< (f (7 * r + 2) &&& 31)))) (7 * r + 2) 0) (upd fa 4 (fa 4 + 1)) en) := by
    unfold O_X2_doInRoom T_X2_doInRoom
    rw [rO_16 E, hc]
    exact V_pos rfl (V_and E.1 (V_K1 (cp_take E.1 E.2.1 hr) (V_T rfl)))
  by_cases j0 : j = 0
  · have z2 : f (7 * r + 2) = 0 := by rw [j2, j0]; rfl
    rw [if_pos z2] at hv
    have hb := ra_room (v := (0, rz_t s ζ, γ)) R hl hk hs hcs (fun q => absurd (h36.symm.trans q) (nI_nm1 hr)) (fun _ => by
      refine V_neg (by rw [hc]; decide) (V_pos hc (V_K1 (r := 0) (z := rz_t s ζ) (g := γ) ?_ (V_T rfl)))
      unfold O_X6_takesKey T_X6_takesKey
      rw [e36, e2, z2]
      exact V_and hat.2 (V_pos (by decide) (V_T rfl)))
    exact rg_in E R h0 hk h25 hs h35 h36 hr ha hcs hf hq hb (rF.refl _ _ _) Rt hv
  · have n2 : ¬ f (7 * r + 2) = 0 := by rw [j2]; exact nI_ne0 (by omega) (by omega)
    rw [if_neg n2] at hv
    obtain ⟨k', k3, k4⟩ := rw_keys k k1 j (by omega) j0
    have hb := ra_room (v := (0, rz_t s ζ, va_up (va_up γ 21 (upd (γ 21) 56 (f 56 ||| ((1 : Int32) <<< (f (7 * r + 2) &&& 31))))) 21 (upd (va_up γ 21 (upd (γ 21) 56 (f 56 ||| ((1 : Int32) <<< (f (7 * r + 2) &&& 31)))) 21) (7 * r + 2) 0))) R hl hk hs hcs (fun q => absurd (h36.symm.trans q) (nI_nm1 hr)) (fun _ => by
      refine V_neg (by rw [hc]; decide) (V_pos hc (V_K1 (r := 0) ?_ (V_T rfl)))
      unfold O_X6_takesKey T_X6_takesKey
      rw [e36, e2, show (56 : Int32) = nI 56 from rfl, pp_st_lit (by decide), nI_clamp (by decide), rr_56 R]
      exact V_and hat.2 (V_neg (by rw [j2]; exact nI_nle (by omega) (by omega)) (V_K1 (ra_put hr (w := 2) (by decide) _ _ _) (V_T rfl))))
    have hW1 : rW (upd f 56 (f 56 ||| ((1 : Int32) <<< (f (7 * r + 2) &&& 31)))) := by
      rw [k2, j2, k4]; exact rW_keys R.2.1 k3
    have hW2 : rW (upd (upd f 56 (f 56 ||| ((1 : Int32) <<< (f (7 * r + 2) &&& 31)))) (7 * r + 2) 0) := rW_upd hW1 hr (by decide) (show ∃ k, k ≤ 3 ∧ (0 : Int32) = nI k from ⟨0, by decide, rfl⟩) (by decide) (fun q => absurd q (by decide))
    exact rg_in E R h0 hk h25 hs h35 h36 hr ha hcs hf hq hb ((rF.h _ (Or.inl rfl)).trans (rF.h _ (Or.inl rfl)) (Nat.le_refl _)) (rr_h (rr_h Rt (fun r1 h1 => by omega) hW1) (fun r1 h1 => by omega) hW2) hv
theorem rg_w (E : rO tx len SL EN F z g h t) (R : rr D tx len SL EN f fa en wr inn dr ζ γ) (h0 : fa 0 = 0) (hk : fa 4 < 40) (h25 : ζ 25 = nI s) (hs : s < len) (h35 : ζ 35 = nI δ) (h36 : ζ 36 = nI r) (hr : r < 8) (ha : a < 100) (hc : tx s = 119) (hf : F 0 a = tx s) (hq : q = pp_s tx len (s + 1)) : rG D tx len SL EN z g h t dr (nI r) δ q ζ γ (O_X2_doAct rc oc (nI a) (nI r) (nI δ) (PZ z t wr inn dr) (PG g h t f fa en)) (T_X2_doAct rc oc (nI a) (nI r) (nI δ) (PZ z t wr inn dr) (PG g h t f fa en)) := by
  have hl := E.2.2.2.2.1
  have Rt := rz_t_rr (s := s) R hk
  have hcs : ly_rs (tx s) := Or.inr (Or.inr (Or.inl hc))
  obtain ⟨as1, as2, as3⟩ := ra_asl Rt hr
  have e36 : rz_t s ζ 36 = nI r := by rw [rz_t_o (by decide) (by decide)]; exact h36
  obtain ⟨c3a, c3b⟩ := cp_c (z := z) (g := g) (f := f) (fa := upd fa 4 (fa 4 + 1)) (en := en) (wr := wr) (inn := inn) (dr := dr) E.1 E.2.1 hr (w := 3) (by decide)
  have c3a' : R_X0_cell h (nI r) 3 (PZ z t wr inn dr) (PG g h t f (upd fa 4 (fa 4 + 1)) en) = f (7 * r + 3) := c3a
  by_cases hw : pl_slp f r = 0
  · have hb := ra_room (v := (0, rz_t s ζ, γ)) R hl hk hs hcs (fun q => absurd (h36.symm.trans q) (nI_nm1 hr)) (fun _ => by
      refine V_neg (by rw [hc]; decide) (V_neg (by rw [hc]; decide) (V_pos hc (V_K1 (r := 0) (z := rz_t s ζ) (g := γ) ?_ (V_T rfl))))
      unfold O_X6_wakes T_X6_wakes
      rw [e36]
      exact V_and as2 (V_pos (as1.mpr hw) (V_T rfl)))
    exact rg_in E R h0 hk h25 hs h35 h36 hr ha hcs hf hq hb (rF.refl _ _ _) Rt (by
      unfold O_X2_doInRoom T_X2_doInRoom
      rw [rO_16 E, hc, c3a']
      exact V_neg (by decide) (V_neg (by decide) (V_pos rfl (V_and E.1 (V_and c3b (V_and E.1 (V_K (cp_wk_n E.1 E.2.1 hr (fun q => q.1 hw)) (V_pos rfl (V_T rfl)))))))))
  · obtain ⟨s1, s2⟩ := as3 hw
    have hb := ra_room (v := (0, rz_bef (nI 2) (-1) (rz_t s ζ), va_up γ 21 (upd (γ 21) (7 * r + 4) 1))) R hl hk hs hcs (fun q => absurd (h36.symm.trans q) (nI_nm1 hr)) (fun _ => by
      refine V_neg (by rw [hc]; decide) (V_neg (by rw [hc]; decide) (V_pos hc (V_K1 (r := 0) ?_ (V_T rfl))))
      unfold O_X6_wakes T_X6_wakes
      rw [e36]
      exact V_and as2 (V_neg (fun q => hw (as1.mp q)) (V_K1 (ra_put hr (w := 4) (by decide) _ _ _) (V_K0 (ra_bef 2 (-1)) (V_T rfl)))))
    have hW : rW (upd f (7 * r + 4) 1) := rW_upd R.2.1 hr (by decide) (Or.inr rfl) (by decide) (fun _ => s2)
    exact rg_out (k := 2) (by decide) (by decide) E R h0 hk h25 hs h35 h36 hr ha hcs hf hb (rF.h _ (Or.inl rfl)) (rr_h Rt (fun r1 h1 => by omega) hW) (by
      unfold O_X2_doInRoom T_X2_doInRoom
      rw [rO_16 E, hc, c3a']
      exact V_neg (by decide) (V_neg (by decide) (V_pos rfl (V_and E.1 (V_and c3b (V_and E.1 (V_K (cp_wk_y E.1 E.2.1 hr ⟨hw, by rw [s1]; exact Int32.le_refl _⟩) (V_neg (by decide) (V_K1 (rO_bef E 2 (nI r)) (V_T rfl))))))))))
theorem upd_self (f : Nat → Int32) (i : Nat) : upd f i (f i) = f := by
  funext j
  by_cases e : j = i
  · rw [e, pk_us]
  · rw [pk_un e]
theorem rg_b (E : rO tx len SL EN F z g h t) (R : rr D tx len SL EN f fa en wr inn dr ζ γ) (h0 : fa 0 = 0) (hk : fa 4 < 40) (h25 : ζ 25 = nI s) (hs : s < len) (h35 : ζ 35 = nI δ) (h36 : ζ 36 = nI r) (hr : r < 8) (ha : a < 100) (hc : tx s = 98) (hf : F 0 a = tx s) (hq : q = pp_s tx len (s + 1)) : rG D tx len SL EN z g h t dr (nI r) δ q ζ γ (O_X2_doAct rc oc (nI a) (nI r) (nI δ) (PZ z t wr inn dr) (PG g h t f fa en)) (T_X2_doAct rc oc (nI a) (nI r) (nI δ) (PZ z t wr inn dr) (PG g h t f fa en)) := by
  have hl := E.2.2.2.2.1
  have Rt := rz_t_rr (s := s) R hk
  have hcs : ly_rs (tx s) := Or.inr (Or.inr (Or.inr hc))
  obtain ⟨as1, as2, as3⟩ := ra_asl Rt hr
  have e36 : rz_t s ζ 36 = nI r := by rw [rz_t_o (by decide) (by decide)]; exact h36
  have hat := ra_c Rt hr (w := 5) (by decide) (by decide)
  have e5 : R_X6_at (nI r) 5 (rz_t s ζ) γ = f (7 * r + 5) := hat.1
  have hat3 := ra_c Rt hr (w := 3) (by decide) (by decide)
  have e3 : R_X6_at (nI r) 3 (rz_t s ζ) γ = f (7 * r + 3) := hat3.1
  obtain ⟨c5a, c5b⟩ := cp_c (z := z) (g := g) (f := f) (fa := upd fa 4 (fa 4 + 1)) (en := en) (wr := wr) (inn := inn) (dr := dr) E.1 E.2.1 hr (w := 5) (by decide)
  have c5a' : R_X0_cell h (nI r) 5 (PZ z t wr inn dr) (PG g h t f (upd fa 4 (fa 4 + 1)) en) = f (7 * r + 5) := c5a
  obtain ⟨csa, csb⟩ := cp_slp (z := z) (g := g) (f := f) (fa := upd fa 4 (fa 4 + 1)) (en := en) (wr := wr) (inn := inn) (dr := dr) E.1 E.2.1 hr
  by_cases h5 : f (7 * r + 5) = 0
  · have hb := ra_room (v := (0, rz_bef (nI 3) (-1) (rz_t s ζ), γ)) R hl hk hs hcs (fun q => absurd (h36.symm.trans q) (nI_nm1 hr)) (fun _ => by
      refine V_neg (by rw [hc]; decide) (V_neg (by rw [hc]; decide) (V_neg (by rw [hc]; decide) (V_K1 (r := 0) ?_ (V_T rfl))))
      unfold O_X6_looksIn T_X6_looksIn
      rw [e36, e5]
      exact V_and hat.2 (V_pos h5 (V_K0 (ra_bef 3 (-1)) (V_T rfl))))
    exact rg_out (k := 3) (by decide) (by decide) E R h0 hk h25 hs h35 h36 hr ha hcs hf hb (rF.refl _ _ _) Rt (by
      unfold O_X2_doInRoom T_X2_doInRoom
      rw [rO_16 E, hc, c5a']
      exact V_neg (by decide) (V_neg (by decide) (V_neg (by decide) (V_and E.1 (V_and c5b (V_pos h5 (V_K1 (rO_bef E 3 (nI r)) (V_T rfl))))))))
  · have hv : nr_V (O_X2_doInRoom (tx s) (nI r) (PZ z t wr inn dr) (PG g h t f (upd fa 4 (fa 4 + 1)) en)) (T_X2_doInRoom (tx s) (nI r) (PZ z t wr inn dr) (PG g h t f (upd fa 4 (fa 4 + 1)) en)) (1, PZ z t wr inn dr, PG g h t (upd f 57 (f 57 + pl_slp f r)) (upd fa 4 (fa 4 + 1)) en) := by
      unfold O_X2_doInRoom T_X2_doInRoom
      rw [rO_16 E, hc, c5a', csa]
      exact V_neg (by decide) (V_neg (by decide) (V_neg (by decide) (V_and E.1 (V_and c5b (V_neg h5 (V_and E.1 (V_and csb (V_and E.1 (V_K0 (cp_sum E.1 E.2.1 _) (V_T rfl))))))))))
    by_cases hw : pl_slp f r = 0
    · have hb := ra_room (v := (0, rz_t s ζ, γ)) R hl hk hs hcs (fun q => absurd (h36.symm.trans q) (nI_nm1 hr)) (fun _ => by
        refine V_neg (by rw [hc]; decide) (V_neg (by rw [hc]; decide) (V_neg (by rw [hc]; decide) (V_K1 (r := 0) (z := rz_t s ζ) (g := γ) ?_ (V_T rfl))))
        unfold O_X6_looksIn T_X6_looksIn
        rw [e36, e5]
        exact V_and hat.2 (V_neg h5 (V_and as2 (V_pos (as1.mpr hw) (V_T rfl)))))
      have e : upd f 57 (f 57 + pl_slp f r) = f := by
        rw [hw, show f 57 + 0 = f 57 by simp, upd_self]
      rw [e] at hv
      exact rg_in E R h0 hk h25 hs h35 h36 hr ha hcs hf hq hb (rF.refl _ _ _) Rt hv
    · obtain ⟨s1, s2⟩ := as3 hw
      have hb := ra_room (v := (0, rz_t s ζ, va_up γ 21 (upd (γ 21) 57 (f 57 + pl_slp f r)))) R hl hk hs hcs (fun q => absurd (h36.symm.trans q) (nI_nm1 hr)) (fun _ => by
        refine V_neg (by rw [hc]; decide) (V_neg (by rw [hc]; decide) (V_neg (by rw [hc]; decide) (V_K1 (r := 0) (z := rz_t s ζ) (g := va_up γ 21 (upd (γ 21) 57 (f 57 + pl_slp f r))) ?_ (V_T rfl))))
        unfold O_X6_looksIn T_X6_looksIn
        rw [e36, e5, e3, s1, show (57 : Int32) = nI 57 from rfl, pp_st_lit (by decide), nI_clamp (by decide), rr_57 R]
        exact V_and hat.2 (V_neg h5 (V_and as2 (V_neg (fun q => hw (as1.mp q)) (V_and hat3.2 (V_T rfl))))))
      exact rg_in E R h0 hk h25 hs h35 h36 hr ha hcs hf hq hb (rF.h _ (Or.inl rfl)) (rr_h Rt (fun r1 h1 => by omega) (rW_sum R.2.1 _)) hv
end
