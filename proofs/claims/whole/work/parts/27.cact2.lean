/-! an act, whole -/
theorem ly_one_next {L : (Nat → Nat → Int32) → Nat → Nat → Nat → Nat → Prop} (hLm : ∀ F F' a b p q, ly_ok F F' a b p q → L F a b p q → L F' a b p q) {tx : Nat → Int32} {len : Nat} {F F' : Nat → Nat → Int32} {A s e c b : Nat} {cl : Int32} (hF : ∀ k i, ¬ (k = 3 ∧ i = A) → F' k i = F k i) (h : ly_one (L F) tx len F A s e c b cl) : ly_one (L F') tx len F' A s e c b cl := by
  obtain ⟨q, a1, a2, a3, a4, a5, a6, a7, a8⟩ := h
  exact ⟨q, by rw [hF 2 A (by omega)]; exact a1, a2, a3, hLm _ _ _ _ _ _ ⟨fun k i _ h1 _ => hF k i (by omega), fun k i h1 _ _ _ => hF k i (by omega)⟩ a4, a5, a6, by rw [hF 5 s (by omega)]; exact a7, a8⟩
theorem ly_two_next {L : (Nat → Nat → Int32) → Nat → Nat → Nat → Nat → Prop} (hLm : ∀ F F' a b p q, ly_ok F F' a b p q → L F a b p q → L F' a b p q) {tx : Nat → Int32} {len : Nat} {F F' : Nat → Nat → Int32} {A s e c b : Nat} {cl : Int32} (hF : ∀ k i, ¬ (k = 3 ∧ i = A) → F' k i = F k i) (h : ly_two (L F) tx len F A s e c b cl) : ly_two (L F') tx len F' A s e c b cl := by
  obtain ⟨m, q1, q2, a1, a2, a3, a4, a5, a6, a7, a8, a9, b1, b2, b3, b4, b5, b6⟩ := h
  exact ⟨m, q1, q2, by rw [hF 2 A (by omega)]; exact a1, a2, a3, a4, a5, hLm _ _ _ _ _ _ ⟨fun k i _ h1 _ => hF k i (by omega), fun k i h1 _ _ _ => hF k i (by omega)⟩ a6, a7, a8, by rw [hF 4 s (by omega)]; exact a9, b1, hLm _ _ _ _ _ _ ⟨fun k i _ h1 _ => hF k i (by omega), fun k i h1 _ _ _ => hF k i (by omega)⟩ b2, b3, b4, by rw [hF 5 s (by omega)]; exact b5, b6⟩
theorem ly_F_next {g γ : Nat → Nat → Int32} {A : Nat} {v : Int32} : ∀ k i, ¬ (k = 3 ∧ i = A) → ly_F (va_up g 12 (upd (g 12) A v)) γ k i = ly_F g γ k i := by
  intro k i h
  match k, h with
  | 0, h => exact congrFun (pp_up_ne g _ (by decide)) i
  | 1, h => exact congrFun (pp_up_ne g _ (by decide)) i
  | 2, h => exact congrFun (pp_up_ne g _ (by decide)) i
  | 3, h =>
    show va_up g 12 (upd (g 12) A v) 12 i = g 12 i
    rw [pp_up_eq, pk_un (fun e => h ⟨rfl, e⟩)]
  | 4, h => rfl
  | (k + 5), h => rfl
section
variable {rc : pa_fn} {oc : pa_on} {tx : Nat → Int32} {len δ s A : Nat}
/-- out of its parts an act -/
theorem pa_fin {L : (Nat → Nat → Int32) → Nat → Nat → Nat → Nat → Prop} {z zb z3 : Nat → Int32} {g gb g3 : Nat → Nat → Int32} {ζ ζ1 : Nat → Int32} {γ γ1 : Nat → Nat → Int32} {A' e : Nat} {LP : (Nat → Nat → Int32) → Prop} (hCb : pa_C A z g zb gb) (hRo : pa_R δ s ζ γ ζ1 γ1) (hDo : pa_D (nI δ) ζ γ (nI (δ + 1)) ζ1 γ1) (hG : pa_Good tx len (δ + 1) δ A s zb gb ζ1 γ1 z3 g3 A' e LP)
    (hLY : ∀ γ', LP (ly_F g3 γ') → ly_act (L (ly_F (va_up g3 12 (upd (g3 12) A (nI A'))) γ')) tx len (ly_F (va_up g3 12 (upd (g3 12) A (nI A'))) γ') A s e A') :
    pa_Good tx len δ δ A s z g ζ γ z3 (va_up g3 12 (upd (g3 12) A (z3 5))) A' e (fun F => ly_act (L F) tx len F A s e A') := by
  obtain ⟨dp, rb, ζ', γ', a1, a2, a3, a4, a5, a6, a7, a8, a9, aL⟩ := hG
  obtain ⟨b1, b2, b3, b4, b5, b6⟩ := id a2
  rw [b2]
  exact ⟨dp, rb, ζ', γ', a1, ⟨b1, b2, b3, b4, b5, by rw [pp_up_ne _ _ (by decide)]; exact b6⟩, (hCb.trans a3 (Nat.le_refl _)).trans (pa_C.g ⟨by decide, by decide⟩ (Nat.le_refl _) _) (Nat.le_refl _), a4, hRo.trans a5 (Nat.le_refl _) (Nat.le_refl _), hDo.trans a6, a7, a8, a9, hLY γ' aL⟩
theorem pa_failfin {z zb z3 : Nat → Int32} {g gb g3 : Nat → Nat → Int32} {ζ ζ1 : Nat → Int32} {γ γ1 : Nat → Nat → Int32} (hCb : pa_C A z g zb gb) (hRo : pa_R δ s ζ γ ζ1 γ1) (hDo : pa_D (nI δ) ζ γ (nI (δ + 1)) ζ1 γ1) (hf : pa_Fail (δ + 1) zb gb ζ1 γ1 z3 g3) (v : Int32) : pa_Fail δ z g ζ γ z3 (va_up g3 12 (upd (g3 12) A v)) := by
  obtain ⟨f, ζ', γ', f1, f2, f3, f4, f5⟩ := hf
  exact ⟨f, ζ', γ', f1, f2, (hCb.1.trans f3).trans (pa_C.g (A := 0) ⟨by decide, by decide⟩ (Nat.zero_le _) _).1, hRo.1.trans f4, hDo.ret f5⟩
theorem pa_head {z : Nat → Int32} {g : Nat → Nat → Int32} {p : Nat} {dp rb : Int32} (hl : len ≤ 100) (hp : p ≤ len) (hC : pa_CS tx len p A dp rb z g) (hs : pp_s tx len p < len) : nr_V (O_X3_nextSign z g) (T_X3_nextSign z g) (tx (pp_s tx len p), va_up z 8 (nI (pp_s tx len p)), g) := by
  obtain ⟨b1, b2, b3, b4, b5, b6⟩ := hC
  have e := pp_nx (g := g) b1 hl hp b5
  rw [b6, pp_c_lt hs] at e
  exact e
theorem pa_sg_smp {c : Int32} (h : R_X3_isRoomSign c = 0) : pa_sg c = c ∧ pa_fg c = 0 := by
  unfold pa_sg pa_fg
  rw [if_pos h, if_pos h]
  exact ⟨rfl, rfl⟩
theorem pa_sg_room {c : Int32} (h : (48 : Int32) ≤ c ∧ c ≤ 55) : pa_sg c = 82 ∧ pa_fg c = c - 48 := by
  have e : R_X3_isRoomSign c = 1 := pp_wy h
  unfold pa_sg pa_fg
  rw [e]
  exact ⟨rfl, rfl⟩
/-- acts without parts -/
theorem pa_act_smp {L : (Nat → Nat → Int32) → Nat → Nat → Nat → Nat → Prop} {z : Nat → Int32} {g : Nat → Nat → Int32} {ζ : Nat → Int32} {γ : Nat → Nat → Int32} {p : Nat} {dp rb : Int32} (hl : len ≤ 100) (hd : δ ≤ 8) (hp : p ≤ len) (hAp : A ≤ p) (hC : pa_CS tx len p A dp rb z g) (h9 : z 9 = -1) (hs : pp_s tx len p < len) (hR : pa_RS tx len (pp_s tx len p) A dp rb ζ γ) (h0 : R_X3_holdsActs (tx (pp_s tx len p)) = 0) (hc : ly_smp (tx (pp_s tx len p)) ∨ tx (pp_s tx len p) = 33) :
    ∃ z' g', nr_V (O_X3_readAct rc oc (nI δ) z g) (T_X3_readAct rc oc (nI δ) z g) (0, z', g') ∧ (pa_Fail δ z g ζ γ z' g' ∨ ∃ A' e, pa_Good tx len δ δ A (pp_s tx len p) z g ζ γ z' g' A' e (fun F => ly_act (L F) tx len F A (pp_s tx len p) e A') ∧ pp_s tx len p < e) := by
  have hv := pa_head hl hp hC hs
  have hps := pp_s_ge (tx := tx) hp
  generalize hse : pp_s tx len p = s at *
  obtain ⟨b1, b2, b3, b4, b5, b6⟩ := id hC
  have hrm : R_X3_isRoomSign (tx s) = 0 := by
    by_cases q : R_X3_isRoomSign (tx s) = 0
    · exact q
    · unfold R_X3_holdsActs at h0
      rw [if_neg q] at h0
      exact absurd h0 (by decide)
  obtain ⟨sg1, sg2⟩ := pa_sg_smp hrm
  have hA : A < 100 := by omega
  have go : ∀ z3 g3, nr_V (O_X3_readRest rc oc (nI A) (tx s) (nI (δ + 1)) (va_up (va_up (va_up z 8 (nI s)) 5 (nI (A + 1))) 8 (nI (s + 1))) (va_up (va_up g 9 (upd (g 9) A (pa_sg (tx s)))) 10 (upd (g 10) A (pa_fg (tx s))))) (T_X3_readRest rc oc (nI A) (tx s) (nI (δ + 1)) (va_up (va_up (va_up z 8 (nI s)) 5 (nI (A + 1))) 8 (nI (s + 1))) (va_up (va_up g 9 (upd (g 9) A (pa_sg (tx s)))) 10 (upd (g 10) A (pa_fg (tx s))))) (0, z3, g3) → nr_V (O_X3_readAct rc oc (nI δ) z g) (T_X3_readAct rc oc (nI δ) z g) (0, z3, va_up g3 12 (upd (g3 12) A (z3 5))) := by
    intro z3 g3 k
    unfold O_X3_readAct T_X3_readAct
    exact V_K hv (V_pos h0 (pa_41 (by rw [pp_up_ne _ _ (by decide)]; exact b2) (by rw [pp_up_eq]) hA k))
  rw [sg1, sg2] at go
  have hCb : pa_C A z g (va_up (va_up (va_up z 8 (nI s)) 5 (nI (A + 1))) 8 (nI (s + 1))) (va_up (va_up g 9 (upd (g 9) A (tx s))) 10 (upd (g 10) A 0)) := by
    have x1 : pa_C A z g (va_up (va_up (va_up z 8 (nI s)) 5 (nI (A + 1))) 8 (nI (s + 1))) g := ((pa_C.z (i := 8) ⟨by decide, by decide⟩ _).trans (pa_C.z (i := 5) ⟨by decide, by decide⟩ _) (Nat.le_refl _)).trans (pa_C.z (i := 8) ⟨by decide, by decide⟩ _) (Nat.le_refl _)
    have x2 := pa_C.g (A := A) (z := va_up (va_up (va_up z 8 (nI s)) 5 (nI (A + 1))) 8 (nI (s + 1))) (g := g) (k := 9) (i := A) ⟨by decide, by decide⟩ (Nat.le_refl _) (tx s)
    have x3 := pa_C.g (A := A) (z := va_up (va_up (va_up z 8 (nI s)) 5 (nI (A + 1))) 8 (nI (s + 1))) (g := va_up g 9 (upd (g 9) A (tx s))) (k := 10) (i := A) ⟨by decide, by decide⟩ (Nat.le_refl _) 0
    rw [pp_up_ne (i := 9) (j := 10) _ _ (by decide)] at x3
    exact (x1.trans x2 (Nat.le_refl _)).trans x3 (Nat.le_refl _)
  have hg8 : (va_up (va_up g 9 (upd (g 9) A (tx s))) 10 (upd (g 10) A 0)) 8 = tx := by rw [pp_up_ne _ _ (by decide), pp_up_ne _ _ (by decide)]; exact b6
  rcases hc with hc | hc
  · -- simple
    obtain ⟨ζ1, r1, r2, r3⟩ := pa_simple (δ := δ) hR hs hl (by omega) h0 hc
    have vv := go (va_up (va_up (va_up z 8 (nI s)) 5 (nI (A + 1))) 8 (nI (s + 1))) (va_up (va_up g 9 (upd (g 9) A (tx s))) 10 (upd (g 10) A 0)) (by
      unfold O_X3_readRest T_X3_readRest
      rcases hc with e | e | e | e | e <;> rw [e] <;> exact V_neg (by decide) (V_neg (by decide) (V_neg (by decide) (V_neg (by decide) (V_neg (by decide) (V_pos (by decide) (V_T rfl)))))))
    refine ⟨_, _, vv, Or.inr ⟨A + 1, s + 1, ⟨dp, rb, ζ1, γ, by simp [va_up, h9], ⟨by simp [va_up, b1], by simp [va_up], by simp [va_up, b3], by simp [va_up, b4], by simp [va_up], by rw [pp_up_ne _ _ (by decide)]; exact hg8⟩, hCb.trans (pa_C.g ⟨by decide, by decide⟩ (Nat.le_refl _) _) (Nat.le_refl _), r1, r2, r3, by omega, by omega, by omega, ?_⟩, by omega⟩⟩
    · refine ⟨by omega, by omega, by omega, ?_, Or.inl ⟨hc, ?_, rfl, rfl⟩⟩
      · show (va_up _ 12 _ : Nat → Nat → Int32) 12 A = _
        rw [pp_up_eq, pk_us]
        simp [va_up]
      · show (va_up _ 12 _ : Nat → Nat → Int32) 9 A = _
        rw [pp_up_ne _ _ (by decide), pp_up_ne _ _ (by decide), pp_up_eq, pk_us]
  · -- alarm
    have hz4 : va_up (va_up (va_up z 8 (nI s)) 5 (nI (A + 1))) 8 (nI (s + 1)) 4 = nI len := by simp [va_up, b1]
    have hz8 : va_up (va_up (va_up z 8 (nI s)) 5 (nI (A + 1))) 8 (nI (s + 1)) 8 = nI (s + 1) := by simp [va_up]
    by_cases hq : pp_s tx len (s + 1) < len ∧ pp_dg (tx (pp_s tx len (s + 1)))
    · have pf := pp_fig (g := va_up (va_up g 9 (upd (g 9) A (tx s))) 10 (upd (g 10) A 0)) hz4 hl (by omega) hz8 (by rw [hg8]; exact hq.1) (by rw [hg8]; exact hq.2)
      rw [hg8] at pf
      have pp := pp_put (k := 10) (i := A) (v := tx (pp_s tx len (s + 1)) - 48) (z := va_up (va_up (va_up (va_up z 8 (nI s)) 5 (nI (A + 1))) 8 (nI (s + 1))) 8 (nI (pp_s tx len (s + 1) + 1))) (g := va_up (va_up g 9 (upd (g 9) A (tx s))) 10 (upd (g 10) A 0)) rfl rfl hA
      obtain ⟨ζ1, r1, r2, r3⟩ := pa_alarm (δ := δ) hR hs hl (by omega) hc hq.1 hq.2
      have hsq := pp_s_ge (tx := tx) (len := len) (p := s + 1) (by omega)
      have vv := go (va_up (va_up (va_up (va_up z 8 (nI s)) 5 (nI (A + 1))) 8 (nI (s + 1))) 8 (nI (pp_s tx len (s + 1) + 1))) (va_up (va_up (va_up g 9 (upd (g 9) A (tx s))) 10 (upd (g 10) A 0)) 10 (upd ((va_up (va_up g 9 (upd (g 9) A (tx s))) 10 (upd (g 10) A 0)) 10) A (tx (pp_s tx len (s + 1)) - 48))) (by
        unfold O_X3_readRest T_X3_readRest
        rw [hc] at pf pp ⊢
        exact V_pos rfl (V_K pf (V_K1 pp (V_T rfl))))
      refine ⟨_, _, vv, Or.inr ⟨A + 1, pp_s tx len (s + 1) + 1, ⟨dp, rb, ζ1, γ, by simp [va_up, h9], ⟨by simp [va_up, b1], by simp [va_up], by simp [va_up, b3], by simp [va_up, b4], by simp [va_up], ?_⟩, ?_, r1, r2, r3, by omega, by omega, by omega, ?_⟩, by omega⟩⟩
      · rw [pp_up_ne _ _ (by decide), pp_up_ne _ _ (by decide)]; exact hg8
      · exact ((hCb.trans (pa_C.z (i := 8) ⟨by decide, by decide⟩ _) (Nat.le_refl _)).trans (pa_C.g (k := 10) ⟨by decide, by decide⟩ (Nat.le_refl _) _) (Nat.le_refl _)).trans (pa_C.g (k := 12) ⟨by decide, by decide⟩ (Nat.le_refl _) _) (Nat.le_refl _)
      · refine ⟨by omega, by omega, by omega, ?_, Or.inr (Or.inl ⟨hc, ?_, hq.1, hq.2, ?_, rfl, rfl⟩)⟩
        · show (va_up _ 12 _ : Nat → Nat → Int32) 12 A = _
          rw [pp_up_eq, pk_us]
          simp [va_up]
        · show (va_up _ 12 _ : Nat → Nat → Int32) 9 A = _
          rw [pp_up_ne _ _ (by decide), pp_up_ne _ _ (by decide), pp_up_ne _ _ (by decide), pp_up_eq, pk_us, hc]
        · show (va_up _ 12 _ : Nat → Nat → Int32) 10 A = _
          rw [pp_up_ne _ _ (by decide), pp_up_eq, pk_us]
    · have pf := pp_fig_f (g := va_up (va_up g 9 (upd (g 9) A (tx s))) 10 (upd (g 10) A 0)) hz4 hl (by omega) hz8 (by rw [hg8]; exact hq)
      rw [hg8] at pf
      have pp := pp_put (k := 10) (i := A) (v := 0) (z := va_up (va_up (va_up (va_up (va_up z 8 (nI s)) 5 (nI (A + 1))) 8 (nI (s + 1))) 8 (nI (pp_s tx len (s + 1)))) 9 (nI (pp_s tx len (s + 1)))) (g := va_up (va_up g 9 (upd (g 9) A (tx s))) 10 (upd (g 10) A 0)) rfl rfl hA
      obtain ⟨ζ1, r1, r2⟩ := pa_alarm_f (δ := δ) hR hs hl (by omega) hc hq
      have hsl := pp_s_le (tx := tx) (len := len) (p := s + 1) (by omega)
      have vv := go (va_up (va_up (va_up (va_up (va_up z 8 (nI s)) 5 (nI (A + 1))) 8 (nI (s + 1))) 8 (nI (pp_s tx len (s + 1)))) 9 (nI (pp_s tx len (s + 1)))) (va_up (va_up (va_up g 9 (upd (g 9) A (tx s))) 10 (upd (g 10) A 0)) 10 (upd ((va_up (va_up g 9 (upd (g 9) A (tx s))) 10 (upd (g 10) A 0)) 10) A 0)) (by
        unfold O_X3_readRest T_X3_readRest
        rw [hc] at pf pp ⊢
        exact V_pos rfl (V_K pf (V_K1 pp (V_T rfl))))
      refine ⟨_, _, vv, Or.inl ⟨pp_s tx len (s + 1), ζ1, γ, by omega, by simp [va_up], ?_, r1, r2⟩⟩
      · exact ((((hCb.trans (pa_C.z (i := 8) ⟨by decide, by decide⟩ _) (Nat.le_refl _)).trans (pa_C.z (i := 9) ⟨by decide, by decide⟩ _) (Nat.le_refl _)).trans (pa_C.g (k := 10) ⟨by decide, by decide⟩ (Nat.le_refl _) _) (Nat.le_refl _)).trans (pa_C.g (k := 12) ⟨by decide, by decide⟩ (Nat.le_refl _) _) (Nat.le_refl _)).1
end
