/-! acts with parts -/
section
variable {rc : pa_fn} {oc : pa_on} {tx : Nat → Int32} {len δ s A : Nat}
theorem pa_partsF {z : Nat → Int32} {g : Nat → Nat → Int32} {cl : Int32} (hF : pa_BodyF rc oc (δ + 1)) (h9 : ¬ z 9 = -1) (hA : A < 100) : nr_V (O_X3_readParts rc oc (nI A) (-1) cl (nI (δ + 1)) z g) (T_X3_readParts rc oc (nI A) (-1) cl (nI (δ + 1)) z g) (0, z, va_up g 11 (upd (g 11) A (z 5))) := by
  unfold O_X3_readParts T_X3_readParts
  exact V_K (hF _ _ h9) (V_K (pp_put (k := 11) rfl rfl hA) (V_pos rfl (pa_34f h9)))
def pa_zb (z : Nat → Int32) (s A δ : Nat) (dp : Int32) : Nat → Int32 := va_up (va_up (va_up (va_up z 8 (nI s)) 6 (pa_mx dp δ)) 5 (nI (A + 1))) 8 (nI (s + 1))
def pa_gb (g : Nat → Nat → Int32) (A : Nat) (c : Int32) : Nat → Nat → Int32 := va_up (va_up g 9 (upd (g 9) A (pa_sg c))) 10 (upd (g 10) A (pa_fg c))
theorem pa_gb_C {z : Nat → Int32} {g : Nat → Nat → Int32} {dp c : Int32} : pa_C A z g (pa_zb z s A δ dp) (pa_gb g A c) := by
  have x1 : pa_C A z g (pa_zb z s A δ dp) g := (((pa_C.z (i := 8) ⟨by decide, by decide⟩ _).trans (pa_C.z (i := 6) ⟨by decide, by decide⟩ _) (Nat.le_refl _)).trans (pa_C.z (i := 5) ⟨by decide, by decide⟩ _) (Nat.le_refl _)).trans (pa_C.z (i := 8) ⟨by decide, by decide⟩ _) (Nat.le_refl _)
  have x2 := pa_C.g (A := A) (z := pa_zb z s A δ dp) (g := g) (k := 9) (i := A) ⟨by decide, by decide⟩ (Nat.le_refl _) (pa_sg c)
  have x3 := pa_C.g (A := A) (z := pa_zb z s A δ dp) (g := va_up g 9 (upd (g 9) A (pa_sg c))) (k := 10) (i := A) ⟨by decide, by decide⟩ (Nat.le_refl _) (pa_fg c)
  rw [pp_up_ne (i := 9) (j := 10) _ _ (by decide)] at x3
  exact (x1.trans x2 (Nat.le_refl _)).trans x3 (Nat.le_refl _)
theorem pa_gb8 {g : Nat → Nat → Int32} {c : Int32} (h : g 8 = tx) : pa_gb g A c 8 = tx := by unfold pa_gb; rw [pp_up_ne _ _ (by decide), pp_up_ne _ _ (by decide)]; exact h
theorem pa_gb9 {g : Nat → Nat → Int32} {c : Int32} : pa_gb g A c 9 A = pa_sg c := by unfold pa_gb; rw [pp_up_ne _ _ (by decide), pp_up_eq, pk_us]
theorem pa_gb10 {g : Nat → Nat → Int32} {c : Int32} : pa_gb g A c 10 A = pa_fg c := by unfold pa_gb; rw [pp_up_eq, pk_us]
theorem pa_act_deep {z : Nat → Int32} {g : Nat → Nat → Int32} {ζ : Nat → Int32} {γ : Nat → Nat → Int32} {p : Nat} {dp rb : Int32} (hl : len ≤ 100) (hp : p ≤ len) (hC : pa_CS tx len p A dp rb z g) (hs : pp_s tx len p < len) (hR : pa_RS tx len (pp_s tx len p) A dp rb ζ γ) (h0 : ¬ R_X3_holdsActs (tx (pp_s tx len p)) = 0) :
    ∃ z' g', nr_V (O_X3_readAct rc oc (nI 8) z g) (T_X3_readAct rc oc (nI 8) z g) (0, z', g') ∧ pa_Fail 8 z g ζ γ z' g' := by
  have hv := pa_head hl hp hC hs
  refine ⟨va_up (va_up z 8 (nI (pp_s tx len p))) 9 (nI (pp_s tx len p)), g, ?_, pp_s tx len p, ζ, γ, by omega, by simp [va_up], (pa_C.z (A := 0) (i := 8) ⟨by decide, by decide⟩ _).1.trans (pa_C.z (A := 0) (i := 9) ⟨by decide, by decide⟩ _).1, pa_Rw.refl _ _, pa_deep hR hs hl h0⟩
  unfold O_X3_readAct T_X3_readAct
  refine V_K hv (V_neg h0 (V_neg (by decide) (V_T ?_)))
  rw [pp_up_eq]
theorem pa_act_hold {L : (Nat → Nat → Int32) → Nat → Nat → Nat → Nat → Prop} (hLm : ∀ F F' a b p q, ly_ok F F' a b p q → L F a b p q → L F' a b p q) (hB : pa_Body tx len rc oc (δ + 1) L) (hF : pa_BodyF rc oc (δ + 1)) {z : Nat → Int32} {g : Nat → Nat → Int32} {ζ : Nat → Int32} {γ : Nat → Nat → Int32} {p : Nat} {dp rb : Int32} (hl : len ≤ 100) (hd : δ < 8) (hp : p ≤ len) (hAp : A ≤ p) (hC : pa_CS tx len p A dp rb z g) (h9 : z 9 = -1) (hs : pp_s tx len p < len) (hR : pa_RS tx len (pp_s tx len p) A dp rb ζ γ) (h0 : ¬ R_X3_holdsActs (tx (pp_s tx len p)) = 0) :
    ∃ z' g', nr_V (O_X3_readAct rc oc (nI δ) z g) (T_X3_readAct rc oc (nI δ) z g) (0, z', g') ∧ (pa_Fail δ z g ζ γ z' g' ∨ ∃ A' e, pa_Good tx len δ δ A (pp_s tx len p) z g ζ γ z' g' A' e (fun F => ly_act (L F) tx len F A (pp_s tx len p) e A') ∧ pp_s tx len p < e) := by
  have hv := pa_head hl hp hC hs
  have hps := pp_s_ge (tx := tx) hp
  generalize hse : pp_s tx len p = s at *
  obtain ⟨b1, b2, b3, b4, b5, b6⟩ := id hC
  have hA : A < 100 := by omega
  have go : ∀ z3 g3, nr_V (O_X3_readRest rc oc (nI A) (tx s) (nI (δ + 1)) (pa_zb z s A δ dp) (pa_gb g A (tx s))) (T_X3_readRest rc oc (nI A) (tx s) (nI (δ + 1)) (pa_zb z s A δ dp) (pa_gb g A (tx s))) (0, z3, g3) → nr_V (O_X3_readAct rc oc (nI δ) z g) (T_X3_readAct rc oc (nI δ) z g) (0, z3, va_up g3 12 (upd (g3 12) A (z3 5))) := by
    intro z3 g3 k
    unfold O_X3_readAct T_X3_readAct
    refine V_K hv (V_neg h0 (V_pos (nI_lt (by omega) (by decide)) ?_))
    rw [nI_1, pp_up_ne (i := 8) (j := 6) _ _ (by decide), b3]
    exact pa_41 (by simp [va_up, b2]) (by simp [va_up]) hA k
  have hCb : pa_C A z g (pa_zb z s A δ dp) (pa_gb g A (tx s)) := pa_gb_C
  have hg8 : pa_gb g A (tx s) 8 = tx := pa_gb8 b6
  have hz9 : pa_zb z s A δ dp 9 = -1 := by simp [pa_zb, va_up, h9]
  have hCS : pa_CS tx len (s + 1) (A + 1) (pa_mx dp δ) rb (pa_zb z s A δ dp) (pa_gb g A (tx s)) := ⟨by simp [pa_zb, va_up, b1], by simp [pa_zb, va_up], by simp [pa_zb, va_up], by simp [pa_zb, va_up, b4], by simp [pa_zb, va_up], hg8⟩
  rcases pa_holds h0 with hrm | ⟨hnr, hcs⟩
  · -- a room
    obtain ⟨sg1, sg2⟩ := pa_sg_room hrm
    have hisR : ¬ R_X3_isRoomSign (tx s) = 0 := by
      rw [show R_X3_isRoomSign (tx s) = 1 from pp_wy hrm]; decide
    have nc : ∀ c : Int32, (c < 48 ∨ 55 < c) → ¬ tx s = c := by
      intro c hc e
      rw [← e] at hc
      rcases hc with hc | hc
      · exact Int32.lt_irrefl (Int32.lt_of_lt_of_le hc hrm.1)
      · exact Int32.lt_irrefl (Int32.lt_of_le_of_lt hrm.2 hc)
    have rest : ∀ z3 g3, nr_V (O_X3_expect 123 (va_up (pa_zb z s A δ dp) 7 (pa_rb rb (tx s))) (pa_gb g A (tx s)) ∧ nr_KP (T_X3_expect 123 (va_up (pa_zb z s A δ dp) 7 (pa_rb rb (tx s))) (pa_gb g A (tx s))) (fun _ z_160 g_160 => (O_X3_readParts rc oc (nI A) (-1) 125 (nI (δ + 1)) z_160 g_160 ∧ True))) (nr_K (T_X3_expect 123 (va_up (pa_zb z s A δ dp) 7 (pa_rb rb (tx s))) (pa_gb g A (tx s))) (fun _ z_160 g_160 => (nr_K (T_X3_readParts rc oc (nI A) (-1) 125 (nI (δ + 1)) z_160 g_160) (fun _ z_169 g_169 => ((0 : Int32), z_169, g_169))))) (0, z3, g3) → nr_V (O_X3_readRest rc oc (nI A) (tx s) (nI (δ + 1)) (pa_zb z s A δ dp) (pa_gb g A (tx s))) (T_X3_readRest rc oc (nI A) (tx s) (nI (δ + 1)) (pa_zb z s A δ dp) (pa_gb g A (tx s))) (0, z3, g3) := by
      intro z3 g3 k
      have e7 : pa_zb z s A δ dp 7 = rb := by simp [pa_zb, va_up, b4]
      unfold O_X3_readRest T_X3_readRest
      rw [e7]
      exact V_neg (nc 33 (by decide)) (V_neg (nc 40 (by decide)) (V_neg (nc 60 (by decide)) (V_neg (nc 91 (by decide)) (V_neg (nc 120 (by decide)) (V_neg hisR k)))))
    have hx4 : va_up (pa_zb z s A δ dp) 7 (pa_rb rb (tx s)) 4 = nI len := by simp [pa_zb, va_up, b1]
    have hx8 : va_up (pa_zb z s A δ dp) 7 (pa_rb rb (tx s)) 8 = nI (s + 1) := by simp [pa_zb, va_up]
    have hx9 : va_up (pa_zb z s A δ dp) 7 (pa_rb rb (tx s)) 9 = -1 := by simp [pa_zb, va_up, h9]
    have px := pp_expect (g := pa_gb g A (tx s)) hx4 hl (by omega) hx8 hx9 123
    rw [hg8] at px
    have hCb7 : pa_C A z g (va_up (pa_zb z s A δ dp) 7 (pa_rb rb (tx s))) (pa_gb g A (tx s)) := hCb.trans (pa_C.z (i := 7) ⟨by decide, by decide⟩ _) (Nat.le_refl _)
    have hsl := pp_s_le (tx := tx) (len := len) (p := s + 1) (by omega)
    have hsg := pp_s_ge (tx := tx) (len := len) (p := s + 1) (by omega)
    by_cases hq : pp_s tx len (s + 1) < len ∧ tx (pp_s tx len (s + 1)) = 123
    · rw [pp_c_lt hq.1, if_pos hq.2] at px
      obtain ⟨ζ1, γ1, r1, r2, r3, r4, r5⟩ := pa_room hR hs hl hd hrm hq.1 hq.2
      have hcl : R_X6_endsBy (tx s) = 125 := by
        unfold R_X6_endsBy
        rw [pp_in07, pp_wy hrm, if_neg (by decide)]
      obtain ⟨z3, g3, v3, o3⟩ := pa_one (s := s) (A := A) (cl := 125) hLm hB (z := va_up (va_up (pa_zb z s A δ dp) 7 (pa_rb rb (tx s))) 8 (nI (pp_s tx len (s + 1) + 1))) (g := pa_gb g A (tx s)) (ζ := ζ1) (γ := γ1) (b := pp_s tx len (s + 1) + 1) (dp := pa_mx dp δ) (rb := pa_rb rb (tx s)) hl hd (by omega) (by omega) hA (by omega) ⟨by simp [pa_zb, va_up, b1], by simp [pa_zb, va_up], by simp [pa_zb, va_up], by simp [va_up], by simp [va_up], hg8⟩ (by simp [pa_zb, va_up, h9]) r1 r3 r4 hcl (fun q => q.elim (nc 40 (by decide)) (nc 91 (by decide)))
      have vv := go z3 g3 (rest z3 g3 (V_K px (V_K1 v3 (V_T rfl))))
      refine ⟨_, _, vv, ?_⟩
      have hCc := hCb7.trans (pa_C.z (A := A) (i := 8) ⟨by decide, by decide⟩ (nI (pp_s tx len (s + 1) + 1))) (Nat.le_refl _)
      rcases o3 with o3 | ⟨A', e, o3, o4, o5, o6⟩
      · exact Or.inl (pa_failfin hCc r2 r5 o3 _)
      · refine Or.inr ⟨A', e, pa_fin hCc r2 r5 o3 (fun γ' hy => ?_), o5⟩
        have hy' := ly_one_next hLm (ly_F_next (g := g3) (γ := γ') (A := A) (v := nI A')) hy
        refine ⟨o4, o5, ?_, ?_, Or.inr (Or.inr (Or.inl ⟨hrm.1, hrm.2, ?_, ?_, hq.1, hq.2, hy'⟩))⟩
        · obtain ⟨qq, _, _, _, _, y5, _, _, y8⟩ := hy
          omega
        · show (va_up g3 12 (upd (g3 12) A (nI A')) : Nat → Nat → Int32) 12 A = _
          rw [pp_up_eq, pk_us]
        · show (va_up g3 12 (upd (g3 12) A (nI A')) : Nat → Nat → Int32) 9 A = _
          rw [pp_up_ne _ _ (by decide), o6 9 (by decide), pa_gb9, sg1]
        · show (va_up g3 12 (upd (g3 12) A (nI A')) : Nat → Nat → Int32) 10 A = _
          rw [pp_up_ne _ _ (by decide), o6 10 (by decide), pa_gb10, sg2]
    · have hcn : ¬ pp_c tx len (pp_s tx len (s + 1)) = 123 := by
        intro e
        by_cases x : pp_s tx len (s + 1) < len
        · rw [pp_c_lt x] at e; exact hq ⟨x, e⟩
        · rw [pp_c_ge x] at e; exact absurd e (by decide)
      rw [if_neg hcn] at px
      obtain ⟨ζ1, r1, r2⟩ := pa_room_f hR hs hl hd hrm hq
      have n9 : ¬ va_up (va_up (va_up (pa_zb z s A δ dp) 7 (pa_rb rb (tx s))) 8 (nI (pp_s tx len (s + 1)))) 9 (nI (pp_s tx len (s + 1))) 9 = -1 := by rw [pp_up_eq]; exact pp_nI_m1 (by omega)
      have vv := go _ _ (rest _ _ (V_K px (V_K1 (pa_partsF hF n9 hA) (V_T rfl))))
      refine ⟨_, _, vv, Or.inl ⟨pp_s tx len (s + 1), ζ1, γ, by omega, by simp [va_up], ?_, r1, r2⟩⟩
      exact ((((hCb7.trans (pa_C.z (i := 8) ⟨by decide, by decide⟩ _) (Nat.le_refl _)).trans (pa_C.z (i := 9) ⟨by decide, by decide⟩ _) (Nat.le_refl _)).trans (pa_C.g (k := 11) ⟨by decide, by decide⟩ (Nat.le_refl _) _) (Nat.le_refl _)).trans (pa_C.g (k := 12) ⟨by decide, by decide⟩ (Nat.le_refl _) _) (Nat.le_refl _)).1
  · obtain ⟨sg1, sg2⟩ := pa_sg_smp (c := tx s) hnr
    have fin2 : ∀ cl : Int32, (tx s = 40 ∧ cl = 41) ∨ (tx s = 91 ∧ cl = 93) → (∀ z3 g3, nr_V (O_X3_readParts rc oc (nI A) 47 cl (nI (δ + 1)) (pa_zb z s A δ dp) (pa_gb g A (tx s))) (T_X3_readParts rc oc (nI A) 47 cl (nI (δ + 1)) (pa_zb z s A δ dp) (pa_gb g A (tx s))) (0, z3, g3) → nr_V (O_X3_readRest rc oc (nI A) (tx s) (nI (δ + 1)) (pa_zb z s A δ dp) (pa_gb g A (tx s))) (T_X3_readRest rc oc (nI A) (tx s) (nI (δ + 1)) (pa_zb z s A δ dp) (pa_gb g A (tx s))) (0, z3, g3)) → ∃ z' g', nr_V (O_X3_readAct rc oc (nI δ) z g) (T_X3_readAct rc oc (nI δ) z g) (0, z', g') ∧ (pa_Fail δ z g ζ γ z' g' ∨ ∃ A' e, pa_Good tx len δ δ A s z g ζ γ z' g' A' e (fun F => ly_act (L F) tx len F A s e A') ∧ s < e) := by
      intro cl hcc rest
      obtain ⟨ζ1, γ1, r1, r2, r3, r4, r5⟩ := pa_brack hR hs hl hd (hcc.elim (fun q => Or.inl q.1) (fun q => Or.inr (Or.inl q.1)))
      obtain ⟨z3, g3, v3, o3⟩ := pa_two (s := s) (A := A) (cl := cl) hLm hB hF (z := pa_zb z s A δ dp) (g := pa_gb g A (tx s)) (ζ := ζ1) (γ := γ1) (b := s + 1) (dp := pa_mx dp δ) (rb := rb) hl hd (by omega) (by omega) hA (by omega) hCS hz9 r1 r3 r4 (by rcases hcc with ⟨e1, e2⟩ | ⟨e1, e2⟩ <;> (rw [e1, e2]; decide)) (hcc.elim (fun q => Or.inl q.1) (fun q => Or.inr q.1))
      have vv := go z3 g3 (rest z3 g3 v3)
      refine ⟨_, _, vv, ?_⟩
      rcases o3 with o3 | ⟨A', e, o3, o4, o5, o6⟩
      · exact Or.inl (pa_failfin hCb r2 r5 o3 _)
      · refine Or.inr ⟨A', e, pa_fin hCb r2 r5 o3 (fun γ' hy => ?_), o5⟩
        have hy' := ly_two_next hLm (ly_F_next (g := g3) (γ := γ') (A := A) (v := nI A')) hy
        have hF0 : ly_F (va_up g3 12 (upd (g3 12) A (nI A'))) γ' 0 A = tx s := by
          show (va_up g3 12 (upd (g3 12) A (nI A')) : Nat → Nat → Int32) 9 A = _
          rw [pp_up_ne _ _ (by decide), o6 9 (by decide), pa_gb9, sg1]
        refine ⟨o4, o5, ?_, ?_, ?_⟩
        · obtain ⟨_, _, qq, _, _, _, _, _, _, _, _, _, _, _, y5, _, _, y8⟩ := hy
          omega
        · show (va_up g3 12 (upd (g3 12) A (nI A')) : Nat → Nat → Int32) 12 A = _
          rw [pp_up_eq, pk_us]
        · rcases hcc with ⟨e1, e2⟩ | ⟨e1, e2⟩
          · rw [e2] at hy'
            exact Or.inr (Or.inr (Or.inr (Or.inl ⟨e1, hF0.trans e1, hy'⟩)))
          · rw [e2] at hy'
            exact Or.inr (Or.inr (Or.inr (Or.inr (Or.inl ⟨e1, hF0.trans e1, hy'⟩))))
    rcases hcs with hc | hc | hc | hc
    · refine fin2 41 (Or.inl ⟨hc, rfl⟩) (fun z3 g3 k => ?_)
      unfold O_X3_readRest T_X3_readRest
      exact V_neg (by rw [hc]; decide) (V_pos hc (V_K1 k (V_T rfl)))
    · refine fin2 93 (Or.inr ⟨hc, rfl⟩) (fun z3 g3 k => ?_)
      unfold O_X3_readRest T_X3_readRest
      exact V_neg (by rw [hc]; decide) (V_neg (by rw [hc]; decide) (V_neg (by rw [hc]; decide) (V_pos hc (V_K1 k (V_T rfl)))))
    · obtain ⟨ζ1, γ1, r1, r2, r3, r4, r5⟩ := pa_brack hR hs hl hd (Or.inr (Or.inr hc))
      obtain ⟨z3, g3, v3, o3⟩ := pa_one (s := s) (A := A) (cl := 62) hLm hB (z := pa_zb z s A δ dp) (g := pa_gb g A (tx s)) (ζ := ζ1) (γ := γ1) (b := s + 1) (dp := pa_mx dp δ) (rb := rb) hl hd (by omega) (by omega) hA (by omega) hCS hz9 r1 r3 r4 (by rw [hc]; decide) (by rw [hc]; decide)
      have vv := go z3 g3 (by
        unfold O_X3_readRest T_X3_readRest
        exact V_neg (by rw [hc]; decide) (V_neg (by rw [hc]; decide) (V_pos hc (V_K1 v3 (V_T rfl)))))
      refine ⟨_, _, vv, ?_⟩
      rcases o3 with o3 | ⟨A', e, o3, o4, o5, o6⟩
      · exact Or.inl (pa_failfin hCb r2 r5 o3 _)
      · refine Or.inr ⟨A', e, pa_fin hCb r2 r5 o3 (fun γ' hy => ?_), o5⟩
        have hy' := ly_one_next hLm (ly_F_next (g := g3) (γ := γ') (A := A) (v := nI A')) hy
        refine ⟨o4, o5, ?_, ?_, Or.inr (Or.inr (Or.inr (Or.inr (Or.inr (Or.inl ⟨hc, ?_, hy'⟩)))))⟩
        · obtain ⟨qq, _, _, _, _, y5, _, _, y8⟩ := hy
          omega
        · show (va_up g3 12 (upd (g3 12) A (nI A')) : Nat → Nat → Int32) 12 A = _
          rw [pp_up_eq, pk_us]
        · show (va_up g3 12 (upd (g3 12) A (nI A')) : Nat → Nat → Int32) 9 A = _
          rw [pp_up_ne _ _ (by decide), o6 9 (by decide), pa_gb9, sg1, hc]
    · -- x
      have hz4 : pa_zb z s A δ dp 4 = nI len := by simp [pa_zb, va_up, b1]
      have hz8 : pa_zb z s A δ dp 8 = nI (s + 1) := by simp [pa_zb, va_up]
      have hsl := pp_s_le (tx := tx) (len := len) (p := s + 1) (by omega)
      have hsg := pp_s_ge (tx := tx) (len := len) (p := s + 1) (by omega)
      have rest : ∀ z3 g3, nr_V (O_X3_readFigure (pa_zb z s A δ dp) (pa_gb g A (tx s)) ∧ nr_KP (T_X3_readFigure (pa_zb z s A δ dp) (pa_gb g A (tx s))) (fun r_111 z_111 g_111 => ((O_X5_put 10 (nI A) r_111 z_111 g_111 ∧ nr_KP (T_X5_put 10 (nI A) r_111 z_111 g_111) (fun _ z_114 g_114 => ((O_X3_expect 58 z_114 g_114 ∧ nr_KP (T_X3_expect 58 z_114 g_114) (fun _ z_120 g_120 => ((O_X3_readParts rc oc (nI A) (-1) 59 (nI (δ + 1)) z_120 g_120 ∧ True))))))))) ) (nr_K (T_X3_readFigure (pa_zb z s A δ dp) (pa_gb g A (tx s))) (fun r_111 z_111 g_111 => (nr_K (T_X5_put 10 (nI A) r_111 z_111 g_111) (fun _ z_114 g_114 => (nr_K (T_X3_expect 58 z_114 g_114) (fun _ z_120 g_120 => (nr_K (T_X3_readParts rc oc (nI A) (-1) 59 (nI (δ + 1)) z_120 g_120) (fun _ z_129 g_129 => ((0 : Int32), z_129, g_129))))))))) (0, z3, g3) → nr_V (O_X3_readRest rc oc (nI A) (tx s) (nI (δ + 1)) (pa_zb z s A δ dp) (pa_gb g A (tx s))) (T_X3_readRest rc oc (nI A) (tx s) (nI (δ + 1)) (pa_zb z s A δ dp) (pa_gb g A (tx s))) (0, z3, g3) := by
        intro z3 g3 k
        unfold O_X3_readRest T_X3_readRest
        exact V_neg (by rw [hc]; decide) (V_neg (by rw [hc]; decide) (V_neg (by rw [hc]; decide) (V_neg (by rw [hc]; decide) (V_pos hc k))))
      by_cases hq : pp_s tx len (s + 1) < len ∧ pp_dg (tx (pp_s tx len (s + 1)))
      · have pf := pp_fig (g := pa_gb g A (tx s)) hz4 hl (by omega) hz8 (by rw [hg8]; exact hq.1) (by rw [hg8]; exact hq.2)
        rw [hg8] at pf
        have pp := pp_put (k := 10) (i := A) (v := tx (pp_s tx len (s + 1)) - 48) (z := va_up (pa_zb z s A δ dp) 8 (nI (pp_s tx len (s + 1) + 1))) (g := pa_gb g A (tx s)) rfl rfl hA
        generalize hgc : va_up (pa_gb g A (tx s)) 10 (upd (pa_gb g A (tx s) 10) A (tx (pp_s tx len (s + 1)) - 48)) = gc at pp
        have gc8 : gc 8 = tx := by rw [← hgc, pp_up_ne _ _ (by decide)]; exact hg8
        have gc9 : gc 9 A = tx s := by rw [← hgc, pp_up_ne _ _ (by decide), pa_gb9, sg1]
        have gc10 : gc 10 A = tx (pp_s tx len (s + 1)) - 48 := by rw [← hgc, pp_up_eq, pk_us]
        have hCc : pa_C A z g (va_up (pa_zb z s A δ dp) 8 (nI (pp_s tx len (s + 1) + 1))) gc := by
          rw [← hgc]
          exact (hCb.trans (pa_C.z (i := 8) ⟨by decide, by decide⟩ _) (Nat.le_refl _)).trans (pa_C.g (k := 10) ⟨by decide, by decide⟩ (Nat.le_refl _) _) (Nat.le_refl _)
        have hx4 : va_up (pa_zb z s A δ dp) 8 (nI (pp_s tx len (s + 1) + 1)) 4 = nI len := by simp [pa_zb, va_up, b1]
        have hx8 : va_up (pa_zb z s A δ dp) 8 (nI (pp_s tx len (s + 1) + 1)) 8 = nI (pp_s tx len (s + 1) + 1) := by simp [va_up]
        have hx9 : va_up (pa_zb z s A δ dp) 8 (nI (pp_s tx len (s + 1) + 1)) 9 = -1 := by simp [pa_zb, va_up, h9]
        have px := pp_expect (g := gc) hx4 hl (by omega) hx8 hx9 58
        rw [gc8, pp_up_up] at px
        have hsl2 := pp_s_le (tx := tx) (len := len) (p := pp_s tx len (s + 1) + 1) (by omega)
        have hsg2 := pp_s_ge (tx := tx) (len := len) (p := pp_s tx len (s + 1) + 1) (by omega)
        by_cases hq2 : pp_s tx len (pp_s tx len (s + 1) + 1) < len ∧ tx (pp_s tx len (pp_s tx len (s + 1) + 1)) = 58
        · rw [pp_c_lt hq2.1, if_pos hq2.2] at px
          obtain ⟨ζ1, γ1, r1, r2, r3, r4, r5⟩ := pa_x hR hs hl hd hc hq.1 hq.2 hq2.1 hq2.2
          obtain ⟨z3, g3, v3, o3⟩ := pa_one (s := s) (A := A) (cl := 59) hLm hB (z := va_up (pa_zb z s A δ dp) 8 (nI (pp_s tx len (pp_s tx len (s + 1) + 1) + 1))) (g := gc) (ζ := ζ1) (γ := γ1) (b := pp_s tx len (pp_s tx len (s + 1) + 1) + 1) (dp := pa_mx dp δ) (rb := rb) hl hd (by omega) (by omega) hA (by omega) ⟨by simp [pa_zb, va_up, b1], by simp [pa_zb, va_up], by simp [pa_zb, va_up], by simp [pa_zb, va_up, b4], by simp [va_up], gc8⟩ (by simp [pa_zb, va_up, h9]) r1 r3 r4 (by rw [hc]; decide) (by rw [hc]; decide)
          have vv := go z3 g3 (rest z3 g3 (V_K pf (V_K pp (V_K px (V_K1 v3 (V_T rfl))))))
          refine ⟨_, _, vv, ?_⟩
          have hCd : pa_C A z g (va_up (pa_zb z s A δ dp) 8 (nI (pp_s tx len (pp_s tx len (s + 1) + 1) + 1))) gc := by
            rw [← hgc]
            exact (hCb.trans (pa_C.z (i := 8) ⟨by decide, by decide⟩ _) (Nat.le_refl _)).trans (pa_C.g (k := 10) ⟨by decide, by decide⟩ (Nat.le_refl _) _) (Nat.le_refl _)
          rcases o3 with o3 | ⟨A', e, o3, o4, o5, o6⟩
          · exact Or.inl (pa_failfin hCd r2 r5 o3 _)
          · refine Or.inr ⟨A', e, pa_fin hCd r2 r5 o3 (fun γ' hy => ?_), o5⟩
            have hy' := ly_one_next hLm (ly_F_next (g := g3) (γ := γ') (A := A) (v := nI A')) hy
            refine ⟨o4, o5, ?_, ?_, Or.inr (Or.inr (Or.inr (Or.inr (Or.inr (Or.inr ⟨hc, ?_, hq.1, hq.2, ?_, hq2.1, hq2.2, hy'⟩)))))⟩
            · obtain ⟨qq, _, _, _, _, y5, _, _, y8⟩ := hy
              omega
            · show (va_up g3 12 (upd (g3 12) A (nI A')) : Nat → Nat → Int32) 12 A = _
              rw [pp_up_eq, pk_us]
            · show (va_up g3 12 (upd (g3 12) A (nI A')) : Nat → Nat → Int32) 9 A = _
              rw [pp_up_ne _ _ (by decide), o6 9 (by decide), gc9, hc]
            · show (va_up g3 12 (upd (g3 12) A (nI A')) : Nat → Nat → Int32) 10 A = _
              rw [pp_up_ne _ _ (by decide), o6 10 (by decide), gc10]
        · have hcn : ¬ pp_c tx len (pp_s tx len (pp_s tx len (s + 1) + 1)) = 58 := by
            intro e
            by_cases x : pp_s tx len (pp_s tx len (s + 1) + 1) < len
            · rw [pp_c_lt x] at e; exact hq2 ⟨x, e⟩
            · rw [pp_c_ge x] at e; exact absurd e (by decide)
          rw [if_neg hcn, pp_up_up] at px
          obtain ⟨ζ1, r1, r2⟩ := pa_x_f2 hR hs hl hd hc hq.1 hq.2 hq2
          generalize hfz : va_up (va_up (pa_zb z s A δ dp) 8 (nI (pp_s tx len (pp_s tx len (s + 1) + 1)))) 9 (nI (pp_s tx len (pp_s tx len (s + 1) + 1))) = fz at px
          have f9 : fz 9 = nI (pp_s tx len (pp_s tx len (s + 1) + 1)) := by rw [← hfz, pp_up_eq]
          have n9 : ¬ fz 9 = -1 := by rw [f9]; exact pp_nI_m1 (by omega)
          have vv := go _ _ (rest _ _ (V_K pf (V_K pp (V_K px (V_K1 (pa_partsF hF n9 hA) (V_T rfl))))))
          refine ⟨_, _, vv, Or.inl ⟨pp_s tx len (pp_s tx len (s + 1) + 1), ζ1, γ, by omega, f9, ?_, r1, r2⟩⟩
          have hCe : pa_C A z g fz gc := by
            rw [← hgc, ← hfz]
            exact ((hCb.trans (pa_C.z (i := 8) ⟨by decide, by decide⟩ _) (Nat.le_refl _)).trans (pa_C.z (i := 9) ⟨by decide, by decide⟩ _) (Nat.le_refl _)).trans (pa_C.g (k := 10) ⟨by decide, by decide⟩ (Nat.le_refl _) _) (Nat.le_refl _)
          exact ((hCe.trans (pa_C.g (k := 11) ⟨by decide, by decide⟩ (Nat.le_refl _) _) (Nat.le_refl _)).trans (pa_C.g (k := 12) ⟨by decide, by decide⟩ (Nat.le_refl _) _) (Nat.le_refl _)).1
      · have pf := pp_fig_f (g := pa_gb g A (tx s)) hz4 hl (by omega) hz8 (by rw [hg8]; exact hq)
        rw [hg8] at pf
        generalize hfz : va_up (va_up (pa_zb z s A δ dp) 8 (nI (pp_s tx len (s + 1)))) 9 (nI (pp_s tx len (s + 1))) = fz at pf
        have f9 : fz 9 = nI (pp_s tx len (s + 1)) := by rw [← hfz, pp_up_eq]
        have n9 : ¬ fz 9 = -1 := by rw [f9]; exact pp_nI_m1 (by omega)
        have pp := pp_put (k := 10) (i := A) (v := 0) (z := fz) (g := pa_gb g A (tx s)) rfl rfl hA
        obtain ⟨ζ1, r1, r2⟩ := pa_x_f1 hR hs hl hd hc hq
        have vv := go _ _ (rest _ _ (V_K pf (V_K pp (V_K (pp_expect_f n9 58) (V_K1 (pa_partsF hF n9 hA) (V_T rfl))))))
        refine ⟨_, _, vv, Or.inl ⟨pp_s tx len (s + 1), ζ1, γ, by omega, f9, ?_, r1, r2⟩⟩
        have hCe : pa_C A z g fz (pa_gb g A (tx s)) := by
          rw [← hfz]
          exact (hCb.trans (pa_C.z (i := 8) ⟨by decide, by decide⟩ _) (Nat.le_refl _)).trans (pa_C.z (i := 9) ⟨by decide, by decide⟩ _) (Nat.le_refl _)
        exact (((hCe.trans (pa_C.g (k := 10) ⟨by decide, by decide⟩ (Nat.le_refl _) _) (Nat.le_refl _)).trans (pa_C.g (k := 11) ⟨by decide, by decide⟩ (Nat.le_refl _) _) (Nat.le_refl _)).trans (pa_C.g (k := 12) ⟨by decide, by decide⟩ (Nat.le_refl _) _) (Nat.le_refl _)).1
end
