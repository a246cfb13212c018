/-! a round: the porter beside the model, one act -/
def rO (tx : Nat → Int32) (len : Nat) (SL EN : Nat → Int32) (F : Nat → Nat → Int32) (z : Nat → Int32) (g : Nat → Nat → Int32) (h t : Nat) : Prop := nr_ho h ∧ nr_ta t ∧ z 16 = nI h ∧ z 17 = nI t ∧ len ≤ 100 ∧ F 0 = g 9 ∧ F 1 = g 10 ∧ F 2 = g 11 ∧ F 3 = g 12 ∧ F 4 = SL ∧ F 5 = EN
def rG (D : Nat → Prop) (tx : Nat → Int32) (len : Nat) (SL EN : Nat → Int32) (z : Nat → Int32) (g : Nat → Nat → Int32) (h t : Nat) (dr room : Int32) (δ q : Nat) (ζ : Nat → Int32) (γ : Nat → Nat → Int32) (oR : Prop) (vR : Int32 × nr_S) : Prop :=
  ∃ x f' fa' en' wr' inn' ζ' γ', nr_V oR vR (x, PZ z t wr' inn' dr, PG g h t f' fa' en') ∧ rr D tx len SL EN f' fa' en' wr' inn' dr ζ' γ' ∧ rF δ ζ γ ζ' γ' ∧ pr_D ζ γ ζ' γ' ∧ ζ' 35 = nI δ ∧ ζ' 36 = room ∧ ((x = 1 ∧ fa' 0 = 0 ∧ ζ' 25 = nI q) ∨ (x = 0 ∧ ¬ fa' 0 = 0 ∧ ∃ p, p ≤ len ∧ ζ' 25 = nI p))
def rM (room : Int32) : Prop := room = -1 ∨ ∃ r, r < 8 ∧ room = nI r
section
variable {D : Nat → Prop} {tx : Nat → Int32} {len : Nat} {SL EN : Nat → Int32} {F : Nat → Nat → Int32} {z : Nat → Int32} {g : Nat → Nat → Int32} {h t : Nat} {f fa en : Nat → Int32} {wr inn dr room : Int32} {ζ ζ1 : Nat → Int32} {γ γ1 : Nat → Nat → Int32} {a s e c δ q : Nat}
theorem rO_17 (E : rO tx len SL EN F z g h t) (wr inn dr : Int32) : nr_ix (PZ z t wr inn dr 17) = t := by
  rw [PZ_o E.2.1 (by omega), E.2.2.2.1, nr_ix_nI (by rcases E.2.1 with q | q <;> omega)]
theorem rO_16 (E : rO tx len SL EN F z g h t) (wr inn dr : Int32) : nr_ix (PZ z t wr inn dr 16) = h := by
  rw [PZ_o E.2.1 (by omega), E.2.2.1, nr_ix_nI (by rcases E.1 with q | q <;> omega)]
theorem rO_sg (E : rO tx len SL EN F z g h t) (ha : a < 100) (wr inn dr : Int32) (f fa en : Nat → Int32) : R_X3_sign (nI a) (PZ z t wr inn dr) (PG g h t f fa en) = F 0 a ∧ O_X3_sign (nI a) (PZ z t wr inn dr) (PG g h t f fa en) := by
  obtain ⟨x, y⟩ := cp_script (z := z) (g := g) (f := f) (fa := fa) (en := en) (wr := wr) (inn := inn) (dr := dr) E.1 E.2.1 (k := 9) (by decide) ha
  unfold R_X3_sign O_X3_sign
  rw [x, E.2.2.2.2.2.1]
  exact ⟨rfl, y, trivial⟩
theorem rO_fg (E : rO tx len SL EN F z g h t) (ha : a < 100) (wr inn dr : Int32) (f fa en : Nat → Int32) : R_X3_figure (nI a) (PZ z t wr inn dr) (PG g h t f fa en) = F 1 a ∧ O_X3_figure (nI a) (PZ z t wr inn dr) (PG g h t f fa en) := by
  obtain ⟨x, y⟩ := cp_script (z := z) (g := g) (f := f) (fa := fa) (en := en) (wr := wr) (inn := inn) (dr := dr) E.1 E.2.1 (k := 10) (by decide) ha
  unfold R_X3_figure O_X3_figure
  rw [x, E.2.2.2.2.2.2.1]
  exact ⟨rfl, y, trivial⟩
theorem rO_md (E : rO tx len SL EN F z g h t) (ha : a < 100) (wr inn dr : Int32) (f fa en : Nat → Int32) : R_X3_middle (nI a) (PZ z t wr inn dr) (PG g h t f fa en) = F 2 a ∧ O_X3_middle (nI a) (PZ z t wr inn dr) (PG g h t f fa en) := by
  obtain ⟨x, y⟩ := cp_script (z := z) (g := g) (f := f) (fa := fa) (en := en) (wr := wr) (inn := inn) (dr := dr) E.1 E.2.1 (k := 11) (by decide) ha
  unfold R_X3_middle O_X3_middle
  rw [x, E.2.2.2.2.2.2.2.1]
  exact ⟨rfl, y, trivial⟩
theorem rO_nx (E : rO tx len SL EN F z g h t) (ha : a < 100) (wr inn dr : Int32) (f fa en : Nat → Int32) : R_X3_next (nI a) (PZ z t wr inn dr) (PG g h t f fa en) = F 3 a ∧ O_X3_next (nI a) (PZ z t wr inn dr) (PG g h t f fa en) := by
  obtain ⟨x, y⟩ := cp_script (z := z) (g := g) (f := f) (fa := fa) (en := en) (wr := wr) (inn := inn) (dr := dr) E.1 E.2.1 (k := 12) (by decide) ha
  unfold R_X3_next O_X3_next
  rw [x, E.2.2.2.2.2.2.2.2.1]
  exact ⟨rfl, y, trivial⟩
theorem rO_bef (E : rO tx len SL EN F z g h t) (k room : Int32) : nr_V (O_X2_befalls k room (PZ z t wr inn dr) (PG g h t f fa en)) (T_X2_befalls k room (PZ z t wr inn dr) (PG g h t f fa en)) (0, PZ z t wr inn dr, PG g h t f (pt_bef fa k room (-1)) en) := by
  unfold O_X2_befalls T_X2_befalls
  rw [rO_17 E]
  exact V_and E.2.1 (V_K0 (cp_bef E.1 E.2.1 k room (-1)) (V_T rfl))
theorem rr_30 (R : rr D tx len SL EN f fa en wr inn dr ζ γ) : ζ 30 = fa 0 := R.2.2.2.2.2.1.1
theorem rr_21 (R : rr D tx len SL EN f fa en wr inn dr ζ γ) : ζ 21 = nI len := R.2.2.2.2.2.2.1
theorem rr_24 (R : rr D tx len SL EN f fa en wr inn dr ζ γ) : ∀ i, i < len → γ 24 i = tx i := R.2.2.2.2.2.2.2.1
/-- an act that the model does in one turn -/
theorem rG_begin {oR : Prop} {vR : Int32 × nr_S} {x : Int32} {f' fa' en' : Nat → Int32} {wr' inn' : Int32} {p1 : Nat} (hl : len ≤ 100) (R : rr D tx len SL EN f fa en wr inn dr ζ γ) (h0 : fa 0 = 0) (h25 : ζ 25 = nI s) (hs : s < len) (hc : ¬ pr_dl (tx s)) (hb : nr_V (O_X6_begins (nI s) ζ γ) (T_X6_begins (nI s) ζ γ) (0, ζ1, γ1)) (hv : nr_V oR vR (x, PZ z t wr' inn' dr, PG g h t f' fa' en')) (R1 : rr D tx len SL EN f' fa' en' wr' inn' dr ζ1 γ1) (hF : rF δ ζ γ ζ1 γ1) (h35 : ζ1 35 = nI δ) (h36 : ζ1 36 = room) (k25 : ζ1 25 = nI p1) (hp1 : p1 ≤ len) (hx : (x = 1 ∧ fa' 0 = 0 ∧ q = pp_s tx len p1) ∨ (x = 0 ∧ ¬ fa' 0 = 0)) : rG D tx len SL EN z g h t dr room δ q ζ γ oR vR := by
  refine ⟨x, f', fa', en', wr', inn', va_up ζ1 25 (nI (pp_s tx len p1)), γ1, hv, rr_z R1 (Or.inl rfl) _, hF.trans (rF.z ⟨by decide, by decide⟩ _) (Nat.le_refl _), pr_begin hl (rr_21 R) (rr_24 R) ((rr_30 R).trans h0) h25 hs hc hb (rr_21 R1) (rr_24 R1) k25 hp1, by rw [pp_up_ne _ _ (by decide)]; exact h35, by rw [pp_up_ne _ _ (by decide)]; exact h36, ?_⟩
  rcases hx with ⟨a, b, c⟩ | ⟨a, b⟩
  · exact Or.inl ⟨a, b, by rw [pp_up_eq, c]⟩
  · exact Or.inr ⟨a, b, pp_s tx len p1, pp_s_le hp1, pp_up_eq _ _ _⟩
/-- the model's state once an act is begun -/
def rz_t (s : Nat) (ζ : Nat → Int32) : Nat → Int32 := va_up (va_up ζ 27 (ζ 27 + 1)) 25 (nI s + 1)
theorem rz_t_o {i : Nat} (h1 : i ≠ 27) (h2 : i ≠ 25) : rz_t s ζ i = ζ i := by
  unfold rz_t; rw [pp_up_ne _ _ h2, pp_up_ne _ _ h1]
theorem rz_t_25 : rz_t s ζ 25 = nI (s + 1) := by
  unfold rz_t; rw [pp_up_eq, nI_1]
theorem rz_t_F : rF δ ζ γ (rz_t s ζ) γ := (rF.z (i := 27) ⟨by decide, by decide⟩ _).trans (rF.z (i := 25) ⟨by decide, by decide⟩ _) (Nat.le_refl _)
theorem rz_t_rr (R : rr D tx len SL EN f fa en wr inn dr ζ γ) (hk : fa 4 < 40) : rr D tx len SL EN f (upd fa 4 (fa 4 + 1)) en wr inn dr (rz_t s ζ) γ := rr_z (rr_tick R hk) (Or.inl rfl) _
theorem rt_0 (h0 : fa 0 = 0) : upd fa 4 (fa 4 + 1) 0 = 0 := by rw [pk_un (by decide)]; exact h0
theorem pt_bef_0 (k b c : Int32) : pt_bef fa k b c 0 = k := by simp [pt_bef, upd]
theorem rz_bef_o {i : Nat} {k b : Int32} (hi : i < 29 ∨ 34 < i) : rz_bef k b ζ i = ζ i := by
  unfold rz_bef
  rw [pp_up_ne _ _ (by omega), pp_up_ne _ _ (by omega), pp_up_ne _ _ (by omega), pp_up_ne _ _ (by omega), pp_up_ne _ _ (by omega), pp_up_ne _ _ (by omega)]
/-- tired -/
theorem rg_tired {rc : Int32 → Int32 → Int32 → Int32 → nr_S → Int32 × nr_S} {oc : Int32 → Int32 → Int32 → Int32 → nr_S → Prop} (E : rO tx len SL EN F z g h t) (R : rr D tx len SL EN f fa en wr inn dr ζ γ) (h0 : fa 0 = 0) (hk : ¬ fa 4 < 40) (h25 : ζ 25 = nI s) (hs : s < len) (hc : ¬ pr_dl (tx s)) (h35 : ζ 35 = nI δ) (h36 : ζ 36 = room) : rG D tx len SL EN z g h t dr room δ q ζ γ (O_X2_doAct rc oc (nI a) room (nI δ) (PZ z t wr inn dr) (PG g h t f fa en)) (T_X2_doAct rc oc (nI a) room (nI δ) (PZ z t wr inn dr) (PG g h t f fa en)) := by
  have hl := E.2.2.2.2.1
  have k40 : ζ 27 = 40 := by
    rw [R.2.2.1.1]
    obtain ⟨k, k1, k2⟩ := R.2.2.2.1
    rw [k2] at hk ⊢
    have : ¬ k < 40 := fun q => hk ((nI_ltI (b := 40) (by omega) (by decide)).mpr q)
    exact (nI_eq (b := 40) (by omega) (by decide)).mpr (by omega)
  have hb : nr_V (O_X6_begins (nI s) ζ γ) (T_X6_begins (nI s) ζ γ) (0, rz_bef 6 (-1) ζ, γ) := by
    unfold O_X6_begins T_X6_begins
    exact V_and (vp_in_nI (by omega) (by decide)) (V_pos k40 (V_K0 (ra_bef 6 (-1)) (V_T rfl)))
  have hv : nr_V (O_X2_doAct rc oc (nI a) room (nI δ) (PZ z t wr inn dr) (PG g h t f fa en)) (T_X2_doAct rc oc (nI a) room (nI δ) (PZ z t wr inn dr) (PG g h t f fa en)) (0, PZ z t wr inn dr, PG g h t f (pt_bef fa 6 room (-1)) en) := by
    unfold O_X2_doAct T_X2_doAct
    rw [rO_17 E]
    exact V_and E.2.1 (V_Kn (cp_tick_n E.1 E.2.1 hk) (V_pos rfl (V_K1 (rO_bef E 6 room) (V_T rfl))))
  have R1 := rr_bef R h0 (k := 6) (by decide) (by decide) (by decide) (b := -1) (c := -1) (fun q => absurd q (by decide)) (fun _ => rfl)
  rw [h36] at R1
  exact rG_begin hl R h0 h25 hs hc hb hv R1 (rz_bef_F _ _) (by rw [rz_bef_o (by omega)]; exact h35) (by rw [rz_bef_o (by omega)]; exact h36) (by rw [rz_bef_o (by omega)]; exact h25) (by omega) (Or.inr ⟨rfl, by rw [pt_bef_0]; decide⟩)
theorem rr_n40 (R : rr D tx len SL EN f fa en wr inn dr ζ γ) (hk : fa 4 < 40) : ¬ ζ 27 = 40 := by
  rw [R.2.2.1.1]
  intro q
  rw [q] at hk
  exact Int32.lt_irrefl hk
/-- the plus -/
theorem rg_plus {rc : Int32 → Int32 → Int32 → Int32 → nr_S → Int32 × nr_S} {oc : Int32 → Int32 → Int32 → Int32 → nr_S → Prop} (E : rO tx len SL EN F z g h t) (R : rr D tx len SL EN f fa en wr inn dr ζ γ) (h0 : fa 0 = 0) (hk : fa 4 < 40) (h25 : ζ 25 = nI s) (hs : s < len) (h35 : ζ 35 = nI δ) (h36 : ζ 36 = room) (ha : a < 100) (hc : tx s = 43) (hf : F 0 a = 43) (hq : q = pp_s tx len (s + 1)) : rG D tx len SL EN z g h t dr room δ q ζ γ (O_X2_doAct rc oc (nI a) room (nI δ) (PZ z t wr inn dr) (PG g h t f fa en)) (T_X2_doAct rc oc (nI a) room (nI δ) (PZ z t wr inn dr) (PG g h t f fa en)) := by
  have hl := E.2.2.2.2.1
  have hb : nr_V (O_X6_begins (nI s) ζ γ) (T_X6_begins (nI s) ζ γ) (0, rz_t s ζ, va_up γ 21 (upd (γ 21) 57 (f 57 + dr))) := by
    unfold O_X6_begins T_X6_begins
    rw [nI_clamp (by omega), rr_24 R s hs, hc, pp_in07]
    refine V_and (vp_in_nI (by omega) (by decide)) (V_neg (rr_n40 R hk) (V_pos (by decide) (V_neg (by decide) (V_neg (by decide) (V_neg (by decide) (V_neg (by decide) (V_neg (by decide) (V_pos rfl (V_T ?_)))))))))
    rw [show (57 : Int32) = nI 57 from rfl, pp_st_lit (by decide), nI_clamp (by decide), rr_57 R, R.2.2.1.2.2.2]
    rfl
  have hv : nr_V (O_X2_doAct rc oc (nI a) room (nI δ) (PZ z t wr inn dr) (PG g h t f fa en)) (T_X2_doAct rc oc (nI a) room (nI δ) (PZ z t wr inn dr) (PG g h t f fa en)) (1, PZ z t wr inn dr, PG g h t (upd f 57 (f 57 + dr)) (upd fa 4 (fa 4 + 1)) en) := by
    unfold O_X2_doAct T_X2_doAct
    rw [rO_17 E]
    refine V_and E.2.1 (V_Kn (cp_tick_y E.1 E.2.1 hk) (V_neg (by decide) (V_and (rO_sg E ha _ _ _ _ _ _).2 ?_)))
    rw [(rO_sg E ha _ _ _ _ _ _).1, hf, rO_17 E, rO_16 E]
    refine V_neg (by decide) (V_neg (by decide) (V_pos rfl (V_and E.2.1 (V_and E.1 (V_K0 (cp_sum E.1 E.2.1 _) (V_T ?_))))))
    unfold R_X4_doorsOpen
    rw [PZ_1]
  have R1 := rr_h (rz_t_rr (s := s) R hk) (i := 57) (fun r hr => by omega) (v := f 57 + dr) (rW_sum R.2.1 _)
  exact rG_begin hl R h0 h25 hs (by rw [hc]; unfold pr_dl; decide) hb hv R1 (rz_t_F.trans (rF.h _ (Or.inl rfl)) (Nat.le_refl _)) (by rw [rz_t_o (by decide) (by decide)]; exact h35) (by rw [rz_t_o (by decide) (by decide)]; exact h36) rz_t_25 (by omega) (Or.inl ⟨rfl, rt_0 h0, hq⟩)
end
