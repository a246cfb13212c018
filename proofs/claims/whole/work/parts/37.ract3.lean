/-! acts with parts: the pile -/
def rB (D : Nat → Prop) (tx : Nat → Int32) (len : Nat) (SL EN : Nat → Int32) (z : Nat → Int32) (g : Nat → Nat → Int32) (h t : Nat) (L : Nat → Nat → Nat → Nat → Prop) (δ : Nat) (rc : Int32 → Int32 → Int32 → Int32 → nr_S → Int32 × nr_S) (oc : Int32 → Int32 → Int32 → Int32 → nr_S → Prop) : Prop := ∀ (a b p q : Nat) (f fa en : Nat → Int32) (wr inn dr room : Int32) (ζ : Nat → Int32) (γ : Nat → Nat → Int32), L a b p q → b ≤ 100 → p ≤ len → rr D tx len SL EN f fa en wr inn dr ζ γ → fa 0 = 0 → ζ 25 = nI (pp_s tx len p) → ζ 35 = nI δ → ζ 36 = room → rM room → rG D tx len SL EN z g h t dr room δ q ζ γ (oc (nI a) (nI b) room (nI δ) (PZ z t wr inn dr, PG g h t f fa en)) (rc (nI a) (nI b) room (nI δ) (PZ z t wr inn dr, PG g h t f fa en))
def rP (δ s : Nat) (room left sec : Int32) (γ : Nat → Nat → Int32) : Prop := γ 29 δ = nI s ∧ γ 30 δ = room ∧ γ 31 δ = left ∧ γ 32 δ = sec
theorem rP.F {δ s : Nat} {room left sec : Int32} {γ γ' : Nat → Nat → Int32} {ζ ζ' : Nat → Int32} (h : rP δ s room left sec γ) (hF : rF (δ + 1) ζ γ ζ' γ') : rP δ s room left sec γ' := by
  obtain ⟨a, b, c, d⟩ := h
  have k := fun i a b => hF.2.2 i δ a b (Nat.lt_succ_self δ)
  exact ⟨by rw [k 29 (by decide) (by decide)]; exact a, by rw [k 30 (by decide) (by decide)]; exact b, by rw [k 31 (by decide) (by decide)]; exact c, by rw [k 32 (by decide) (by decide)]; exact d⟩
section
variable {D : Nat → Prop} {tx : Nat → Int32} {len : Nat} {SL EN : Nat → Int32} {F : Nat → Nat → Int32} {z : Nat → Int32} {g : Nat → Nat → Int32} {h t : Nat} {f fa en : Nat → Int32} {wr inn dr room left sec : Int32} {ζ ζ1 : Nat → Int32} {γ γ1 : Nat → Nat → Int32} {a s e c δ q r m : Nat} {rc : Int32 → Int32 → Int32 → Int32 → nr_S → Int32 × nr_S} {oc : Int32 → Int32 → Int32 → Int32 → nr_S → Prop}
theorem ra_push (h35 : ζ 35 = nI δ) (hd : δ < 9) (s : Nat) (rm left : Int32) : ∃ γ1, nr_V (O_X6_pushes (nI s) rm left ζ γ) (T_X6_pushes (nI s) rm left ζ γ) (0, va_up (va_up ζ 35 (nI (δ + 1))) 36 rm, γ1) ∧ rF δ ζ γ ζ γ1 ∧ rP δ s (ζ 36) left 0 γ1 ∧ ∀ k, ¬ (29 ≤ k ∧ k ≤ 32) → γ1 k = γ k := by
  refine ⟨va_up (va_up (va_up (va_up γ 29 (upd (γ 29) δ (nI s))) 30 (upd (γ 30) δ (ζ 36))) 31 (upd (γ 31) δ left)) 32 (upd (γ 32) δ 0), ?_, ?_, ?_, ?_⟩
  · unfold O_X6_pushes T_X6_pushes
    have i9 : vp_in (ζ 35) 9 := by rw [h35]; exact vp_in_nI hd (by decide)
    refine V_and i9 (V_and i9 (V_and i9 (V_and i9 (V_T ?_))))
    rw [h35, nI_1, pp_st_lit (by omega), pp_st_lit (by omega), pp_st_lit (by omega), pp_st_lit (by omega), pp_up_ne (i := 29) (j := 30) _ _ (by decide), pp_up_ne (i := 30) (j := 31) _ _ (by decide), pp_up_ne (i := 29) (j := 31) _ _ (by decide), pp_up_ne (i := 31) (j := 32) _ _ (by decide), pp_up_ne (i := 30) (j := 32) _ _ (by decide), pp_up_ne (i := 29) (j := 32) _ _ (by decide)]
  · have k1 := rF.p (δ := δ) (ζ := ζ) (γ := γ) (k := 29) (i := δ) (by decide) (Nat.le_refl _) (nI s)
    have k2 := rF.p (δ := δ) (ζ := ζ) (γ := va_up γ 29 (upd (γ 29) δ (nI s))) (k := 30) (i := δ) (by decide) (Nat.le_refl _) (ζ 36)
    have k3 := rF.p (δ := δ) (ζ := ζ) (γ := va_up (va_up γ 29 (upd (γ 29) δ (nI s))) 30 (upd (γ 30) δ (ζ 36))) (k := 31) (i := δ) (by decide) (Nat.le_refl _) left
    have k4 := rF.p (δ := δ) (ζ := ζ) (γ := va_up (va_up (va_up γ 29 (upd (γ 29) δ (nI s))) 30 (upd (γ 30) δ (ζ 36))) 31 (upd (γ 31) δ left)) (k := 32) (i := δ) (by decide) (Nat.le_refl _) 0
    rw [pp_up_ne (i := 29) (j := 30) _ _ (by decide)] at k2
    rw [pp_up_ne (i := 30) (j := 31) _ _ (by decide), pp_up_ne (i := 29) (j := 31) _ _ (by decide)] at k3
    rw [pp_up_ne (i := 31) (j := 32) _ _ (by decide), pp_up_ne (i := 30) (j := 32) _ _ (by decide), pp_up_ne (i := 29) (j := 32) _ _ (by decide)] at k4
    exact ((k1.trans k2 (Nat.le_refl _)).trans k3 (Nat.le_refl _)).trans k4 (Nat.le_refl _)
  · refine ⟨?_, ?_, ?_, ?_⟩
    · rw [pp_up_ne _ _ (by decide), pp_up_ne _ _ (by decide), pp_up_ne _ _ (by decide), pp_up_eq, pk_us]
    · rw [pp_up_ne _ _ (by decide), pp_up_ne _ _ (by decide), pp_up_eq, pk_us]
    · rw [pp_up_ne _ _ (by decide), pp_up_eq, pk_us]
    · rw [pp_up_eq, pk_us]
  · intro k hk
    rw [pp_up_ne _ _ (by omega), pp_up_ne _ _ (by omega), pp_up_ne _ _ (by omega), pp_up_ne _ _ (by omega)]
/-- the pile's top off, no room -/
def rz_p (δ : Nat) (room : Int32) (ζ : Nat → Int32) : Nat → Int32 := va_up (va_up ζ 35 (nI δ)) 36 room
theorem ra_pops (hl : len ≤ 100) (h24 : ∀ i, i < len → γ 24 i = tx i) (h35 : ζ 35 = nI (δ + 1)) (hd : δ < 9) (hP : rP δ s room left sec γ) (hs : s < len) (hw : R_X5_within (tx s) 48 55 = 0) : nr_V (O_X6_pops ζ γ) (T_X6_pops ζ γ) (0, rz_p δ room ζ, γ) := by
  unfold O_X6_pops T_X6_pops O_X6_pops_47 T_X6_pops_47 rz_p
  rw [h35, nI_pred, nI_clamp (by omega), hP.1, nI_clamp (by omega), h24 s hs, pp_in07, pp_up_eq, nI_clamp (by omega), hP.2.1]
  exact V_and (vp_in_nI hd (by decide)) (V_and (vp_in_nI (by omega) (by decide)) (V_pos hw (V_and (vp_in_nI hd (by decide)) (V_T rfl))))
theorem rz_p_rr (R : rr D tx len SL EN f fa en wr inn dr ζ γ) : rr D tx len SL EN f fa en wr inn dr (rz_p δ room ζ) γ := rr_z (rr_z R (Or.inr (Or.inl rfl)) _) (Or.inr (Or.inr rfl)) _
theorem rz_p_F {δ' : Nat} : rF δ' ζ γ (rz_p δ room ζ) γ := (rF.z (i := 35) ⟨by decide, by decide⟩ _).trans (rF.z (i := 36) ⟨by decide, by decide⟩ _) (Nat.le_refl _)
theorem rz_p_35 : rz_p δ room ζ 35 = nI δ := by unfold rz_p; rw [pp_up_ne _ _ (by decide), pp_up_eq]
theorem rz_p_36 : rz_p δ room ζ 36 = room := by unfold rz_p; rw [pp_up_eq]
theorem rz_p_o {i : Nat} (h1 : i ≠ 35) (h2 : i ≠ 36) : rz_p δ room ζ i = ζ i := by unfold rz_p; rw [pp_up_ne _ _ h2, pp_up_ne _ _ h1]
/-- a part's end, not a room's and not to be done again -/
theorem rD_end (hl : len ≤ 100) (R : rr D tx len SL EN f fa en wr inn dr ζ γ) (h0 : fa 0 = 0) (h25 : ζ 25 = nI q) (hq : q < len) (hc : pr_dl (tx q)) (h59 : tx q = 59 → left ≤ 1) (h35 : ζ 35 = nI (δ + 1)) (hd : δ < 9) (hP : rP δ s room left sec γ) (hs : s < len) (hw : R_X5_within (tx s) 48 55 = 0) {e' : Nat} (hE : EN s = nI e') (he : e' < len) : ∃ ζ', pr_D ζ γ ζ' γ ∧ rF δ ζ γ ζ' γ ∧ rr D tx len SL EN f fa en wr inn dr ζ' γ ∧ ζ' 35 = nI δ ∧ ζ' 36 = room ∧ ζ' 25 = nI (pp_s tx len (e' + 1)) := by
  have R1 := rr_z R (Or.inl rfl) (nI (e' + 1))
  have hp := ra_pops (ζ := va_up ζ 25 (nI (e' + 1))) hl (rr_24 R) (by rw [pp_up_ne _ _ (by decide)]; exact h35) hd hP hs hw
  have R2 := rz_p_rr (δ := δ) (room := room) R1
  have h64 : nr_V (O_X6_endsAt_64 (nI s) ζ γ) (T_X6_endsAt_64 (nI s) ζ γ) (0, rz_p δ room (va_up ζ 25 (nI (e' + 1))), γ) := by
    unfold O_X6_endsAt_64 T_X6_endsAt_64
    rw [nI_clamp (by omega), R.2.2.2.2.2.2.2.2.2, hE, nI_1]
    exact V_and (vp_in_nI (by omega) (by decide)) (V_K1 hp (V_T rfl))
  have hb : nr_V (O_X6_endsAt (tx q) ζ γ) (T_X6_endsAt (tx q) ζ γ) (0, rz_p δ room (va_up ζ 25 (nI (e' + 1))), γ) := by
    unfold O_X6_endsAt T_X6_endsAt
    rw [h35, nI_pred, nI_clamp (by omega), hP.1, hP.2.2.1]
    have i9 : vp_in (nI δ) 9 := vp_in_nI hd (by decide)
    refine V_and i9 ?_
    by_cases e59 : tx q = 59
    · exact V_pos e59 (V_and i9 (V_pos (h59 e59) h64))
    · exact V_neg e59 h64
  refine ⟨va_up (rz_p δ room (va_up ζ 25 (nI (e' + 1)))) 25 (nI (pp_s tx len (e' + 1))), pr_end hl (rr_21 R) (rr_24 R) ((rr_30 R).trans h0) h25 hq hc hb (rr_21 R2) (rr_24 R2) (by rw [rz_p_o (by decide) (by decide), pp_up_eq]) (by omega), ((rF.z ⟨by decide, by decide⟩ _).trans rz_p_F (Nat.le_refl _)).trans (rF.z ⟨by decide, by decide⟩ _) (Nat.le_refl _), rr_z R2 (Or.inl rfl) _, by rw [pp_up_ne _ _ (by decide)]; exact rz_p_35, by rw [pp_up_ne _ _ (by decide)]; exact rz_p_36, pp_up_eq _ _ _⟩
/-- down through a part that doesn't hold what befell -/
theorem ra_down {v : Int32 × nr_S} (hl : len ≤ 100) (h24 : ∀ i, i < len → γ 24 i = tx i) (h35 : ζ 35 = nI (δ + 1)) (hd : δ < 9) (hP : rP δ s room left sec γ) (hs : s < len) (n40 : tx s = 40 → sec = 0 → (3 : Int32) < ζ 30) (n91 : tx s = 91 → sec = 0 → ¬ ζ 30 = 4 ∧ ¬ ζ 30 = 5) (n60 : tx s = 60 → ζ 30 = 6) (hp : nr_V (O_X6_pops ζ γ) (T_X6_pops ζ γ) v) : nr_V (O_X6_goesDown ζ γ) (T_X6_goesDown ζ γ) v := by
  have k206 : nr_V (O_X6_goesDown_206 ζ γ) (T_X6_goesDown_206 ζ γ) v → nr_V (O_X6_goesDown_166 (tx s) ζ γ) (T_X6_goesDown_166 (tx s) ζ γ) v := by
    intro k
    unfold O_X6_goesDown_166 T_X6_goesDown_166
    by_cases e : tx s = 60
    · exact V_pos e (V_pos (n60 e) k)
    · exact V_neg e k
  have kp : nr_V (O_X6_goesDown_206 ζ γ) (T_X6_goesDown_206 ζ γ) v → nr_V (O_X6_goesDown ζ γ) (T_X6_goesDown ζ γ) v := by
    intro k
    have k166 := k206 k
    have k83 : ∀ x1 x2 x4, (tx s = 91 → ¬ x4 = 0 → ¬ ζ 30 = 4 ∧ ¬ ζ 30 = 5) → nr_V (O_X6_goesDown_83 x1 x2 (tx s) x4 ζ γ) (T_X6_goesDown_83 x1 x2 (tx s) x4 ζ γ) v := by
      intro x1 x2 x4 hx
      unfold O_X6_goesDown_83 T_X6_goesDown_83
      by_cases e : tx s = 91
      · refine V_pos e ?_
        by_cases e4 : x4 = 0
        · exact V_pos e4 k166
        · exact V_neg e4 (V_neg (hx e e4).1 (V_neg (hx e e4).2 k166))
      · exact V_neg e k166
    have k35 : ∀ x1 x2 x4, (tx s = 40 → ¬ x4 = 0 → (3 : Int32) < ζ 30) → (tx s = 91 → ¬ x4 = 0 → ¬ ζ 30 = 4 ∧ ¬ ζ 30 = 5) → nr_V (O_X6_goesDown_35 x1 x2 (tx s) x4 ζ γ) (T_X6_goesDown_35 x1 x2 (tx s) x4 ζ γ) v := by
      intro x1 x2 x4 hy hx
      unfold O_X6_goesDown_35 T_X6_goesDown_35
      by_cases e : tx s = 40
      · refine V_pos e ?_
        by_cases e4 : x4 = 0
        · exact V_pos e4 (k83 _ _ _ hx)
        · exact V_neg e4 (V_pos (hy e e4) (k83 _ _ _ hx))
      · exact V_neg e (k83 _ _ _ hx)
    unfold O_X6_goesDown T_X6_goesDown
    rw [h35, nI_pred, nI_clamp (by omega), hP.1, nI_clamp (by omega), h24 s hs, hP.2.2.2]
    refine V_and (vp_in_nI hd (by decide)) (V_and (vp_in_nI (by omega) (by decide)) (V_and (vp_in_nI hd (by decide)) ?_))
    by_cases e : sec = 0
    · exact V_pos e (k35 _ _ _ (fun q _ => n40 q e) (fun q _ => n91 q e))
    · exact V_neg e (k35 _ _ _ (fun _ q => absurd rfl q) (fun _ q => absurd rfl q))
  refine kp ?_
  unfold O_X6_goesDown_206 T_X6_goesDown_206
  obtain ⟨x, y⟩ := hp
  obtain ⟨v0, v1, v2⟩ := v
  have v00 : v0 = 0 := by
    have : (T_X6_pops ζ γ).1 = 0 := by
      unfold T_X6_pops T_X6_pops_47
      split
      · rfl
      · rfl
    rw [y] at this
    exact this
  subst v00
  exact V_K1 ⟨x, y⟩ (V_T rfl)
theorem rD_down (hl : len ≤ 100) (R : rr D tx len SL EN f fa en wr inn dr ζ γ) (h0 : ¬ fa 0 = 0) {p : Nat} (h25 : ζ 25 = nI p) (hp : p ≤ len) (h35 : ζ 35 = nI (δ + 1)) (hd : δ < 9) (hP : rP δ s room left sec γ) (hs : s < len) (hw : R_X5_within (tx s) 48 55 = 0) (n40 : tx s = 40 → sec = 0 → (3 : Int32) < fa 0) (n91 : tx s = 91 → sec = 0 → ¬ fa 0 = 4 ∧ ¬ fa 0 = 5) (n60 : tx s = 60 → fa 0 = 6) : ∃ ζ', pr_D ζ γ ζ' γ ∧ rF δ ζ γ ζ' γ ∧ rr D tx len SL EN f fa en wr inn dr ζ' γ ∧ ζ' 35 = nI δ ∧ ζ' 36 = room ∧ ∃ p, p ≤ len ∧ ζ' 25 = nI p := by
  have e30 := rr_30 R
  have hpo := ra_pops hl (rr_24 R) h35 hd hP hs hw
  have hb := ra_down hl (rr_24 R) h35 hd hP hs (by rw [e30]; exact n40) (by rw [e30]; exact n91) (by rw [e30]; exact n60) hpo
  have R2 := rz_p_rr (δ := δ) (room := room) R
  exact ⟨va_up (rz_p δ room ζ) 25 (nI (pp_s tx len p)), pr_down hl (by rw [e30]; exact h0) h35 hd hb (rr_21 R2) (rr_24 R2) (by rw [rz_p_o (by decide) (by decide)]; exact h25) hp, rz_p_F.trans (rF.z ⟨by decide, by decide⟩ _) (Nat.le_refl _), rr_z R2 (Or.inl rfl) _, by rw [pp_up_ne _ _ (by decide)]; exact rz_p_35, by rw [pp_up_ne _ _ (by decide)]; exact rz_p_36, _, pp_s_le hp, pp_up_eq _ _ _⟩
/-- the porter's parts -/
theorem rc_first {v : Int32 × nr_S} (E : rO tx len SL EN F z g h t) (ha : a < 100) (hm : F 2 a = nI m) (k : nr_V (oc (nI (a + 1)) (nI m) room (nI (δ + 1)) (PZ z t wr inn dr, PG g h t f fa en)) (rc (nI (a + 1)) (nI m) room (nI (δ + 1)) (PZ z t wr inn dr, PG g h t f fa en)) v) : nr_V (O_X2_doFirstPart rc oc (nI a) room (nI δ) (PZ z t wr inn dr) (PG g h t f fa en)) (T_X2_doFirstPart rc oc (nI a) room (nI δ) (PZ z t wr inn dr) (PG g h t f fa en)) v := by
  unfold O_X2_doFirstPart T_X2_doFirstPart
  rw [nI_1, nI_1, (rO_md E ha _ _ _ _ _ _).1, hm]
  obtain ⟨x, y⟩ := k
  obtain ⟨v0, v1, v2⟩ := v
  exact V_and (rO_md E ha _ _ _ _ _ _).2 (V_K1 ⟨x, y⟩ (V_T rfl))
theorem rc_second {v : Int32 × nr_S} (E : rO tx len SL EN F z g h t) (ha : a < 100) (hm : F 2 a = nI m) (hn : F 3 a = nI c) (k : nr_V (oc (nI m) (nI c) room (nI (δ + 1)) (PZ z t wr (-1) dr, PG g h t f (pt_calm fa) en)) (rc (nI m) (nI c) room (nI (δ + 1)) (PZ z t wr (-1) dr, PG g h t f (pt_calm fa) en)) v) : nr_V (O_X2_doSecondPart rc oc (nI a) room (nI δ) (PZ z t wr inn dr) (PG g h t f fa en)) (T_X2_doSecondPart rc oc (nI a) room (nI δ) (PZ z t wr inn dr) (PG g h t f fa en)) v := by
  unfold O_X2_doSecondPart T_X2_doSecondPart
  rw [rO_17 E, nI_1]
  refine V_and E.2.1 (V_Kn (cp_calm E.1 E.2.1) ?_)
  rw [(rO_md E ha _ _ _ _ _ _).1, hm, (rO_nx E ha _ _ _ _ _ _).1, hn]
  obtain ⟨x, y⟩ := k
  obtain ⟨v0, v1, v2⟩ := v
  exact V_and (rO_md E ha _ _ _ _ _ _).2 (V_and (rO_nx E ha _ _ _ _ _ _).2 (V_K1 ⟨x, y⟩ (V_T rfl)))
theorem rO_f0 (E : rO tx len SL EN F z g h t) : R_X4_fact t 0 (PZ z t wr inn dr) (PG g h t f fa en) = fa 0 ∧ O_X4_fact t 0 (PZ z t wr inn dr) (PG g h t f fa en) := cp_fact E.1 E.2.1 (i := 0) (by decide)
theorem rr_ev (R : rr D tx len SL EN f fa en wr inn dr ζ γ) (h0 : ¬ fa 0 = 0) : ∃ k, 1 ≤ k ∧ k ≤ 6 ∧ fa 0 = nI k := by
  rcases R.2.2.2.2.2.1.2 with q | q
  · exact absurd q.1 h0
  · exact q.1
end
