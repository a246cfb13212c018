/-! the class's reader: an act's head, its parts -/
def ly_F (g γ : Nat → Nat → Int32) : Nat → Nat → Int32 := fun k => match k with
  | 0 => g 9
  | 1 => g 10
  | 2 => g 11
  | 3 => g 12
  | 4 => γ 26
  | _ => γ 25
theorem ly_F_ok {g γ g' γ' : Nat → Nat → Int32} {a b p q : Nat} (h1 : ∀ k i, 9 ≤ k → k ≤ 12 → a ≤ i → i < b → g' k i = g k i) (h2 : ∀ k i, k = 25 ∨ k = 26 → p ≤ i → i < q → γ' k i = γ k i) : ly_ok (ly_F g γ) (ly_F g' γ') a b p q := by
  refine ⟨fun k i hk h3 h4 => ?_, fun k i hk hk2 h3 h4 => ?_⟩
  · rcases (show k = 0 ∨ k = 1 ∨ k = 2 ∨ k = 3 by omega) with rfl | rfl | rfl | rfl
    · exact h1 9 i (by decide) (by decide) h3 h4
    · exact h1 10 i (by decide) (by decide) h3 h4
    · exact h1 11 i (by decide) (by decide) h3 h4
    · exact h1 12 i (by decide) (by decide) h3 h4
  · rcases (show k = 4 ∨ k = 5 by omega) with rfl | rfl
    · exact h2 26 i (Or.inr rfl) h3 h4
    · exact h2 25 i (Or.inl rfl) h3 h4
def pa_Fail (δ : Nat) (z : Nat → Int32) (g : Nat → Nat → Int32) (ζ : Nat → Int32) (γ : Nat → Nat → Int32) (z' : Nat → Int32) (g' : Nat → Nat → Int32) : Prop := ∃ f ζ' γ', f ≤ 100 ∧ z' 9 = nI f ∧ pa_Cw z g z' g' ∧ pa_Rw ζ γ ζ' γ' ∧ pa_T (nI δ) ζ γ (nI f, ζ', γ')
/-- both readers have gone on: the model's from depth δ to depth δ'; LY tells how what was read lies -/
def pa_Good (tx : Nat → Int32) (len δ δ' : Nat) (A s : Nat) (z : Nat → Int32) (g : Nat → Nat → Int32) (ζ : Nat → Int32) (γ : Nat → Nat → Int32) (z' : Nat → Int32) (g' : Nat → Nat → Int32) (A' p' : Nat) (LY : (Nat → Nat → Int32) → Prop) : Prop := ∃ dp rb ζ' γ', z' 9 = -1 ∧ pa_CS tx len p' A' dp rb z' g' ∧ pa_C A z g z' g' ∧ pa_RS tx len (pp_s tx len p') A' dp rb ζ' γ' ∧ pa_R δ' s ζ γ ζ' γ' ∧ pa_D (nI δ) ζ γ (nI δ') ζ' γ' ∧ p' ≤ len ∧ A ≤ A' ∧ A' ≤ p' ∧ LY (ly_F g' γ')
abbrev pa_fn : Type := Int32 → nr_S → Int32 × nr_S
abbrev pa_on : Type := Int32 → nr_S → Prop
def pa_Body (tx : Nat → Int32) (len : Nat) (rc : pa_fn) (oc : pa_on) (δ : Nat) (L : (Nat → Nat → Int32) → Nat → Nat → Nat → Nat → Prop) : Prop :=
  ∀ (z : Nat → Int32) (g : Nat → Nat → Int32) (ζ : Nat → Int32) (γ : Nat → Nat → Int32) (p A : Nat) (dp rb : Int32), p ≤ len → A ≤ p → pa_CS tx len p A dp rb z g → z 9 = -1 → pa_RS tx len (pp_s tx len p) A dp rb ζ γ →
    ∃ z' g', nr_V (oc (nI δ) (z, g)) (rc (nI δ) (z, g)) (0, z', g') ∧ (pa_Fail δ z g ζ γ z' g' ∨ ∃ A' p', pa_Good tx len δ δ A (pp_s tx len p) z g ζ γ z' g' A' p' (fun F => L F A A' p p') ∧ p ≤ p' ∧ pp_s tx len p' = p' ∧ (p' < len → R_X3_beginsAct (tx p') = 0))
def pa_BodyF (rc : pa_fn) (oc : pa_on) (δ : Nat) : Prop := ∀ (z : Nat → Int32) (g : Nat → Nat → Int32), ¬ z 9 = -1 → nr_V (oc (nI δ) (z, g)) (rc (nI δ) (z, g)) (0, z, g)
def pa_sg (c : Int32) : Int32 := if R_X3_isRoomSign c = 0 then c else 82
def pa_fg (c : Int32) : Int32 := if R_X3_isRoomSign c = 0 then 0 else c - 48
section
variable {rc : pa_fn} {oc : pa_on} {tx : Nat → Int32} {len δ s A : Nat} {c : Int32}
theorem pa_41 {z z3 : Nat → Int32} {g g3 : Nat → Nat → Int32} (h5 : z 5 = nI A) (h8 : z 8 = nI s) (hA : A < 100)
    (k : nr_V (O_X3_readRest rc oc (nI A) c (nI (δ + 1)) (va_up (va_up z 5 (nI (A + 1))) 8 (nI (s + 1))) (va_up (va_up g 9 (upd (g 9) A (pa_sg c))) 10 (upd (g 10) A (pa_fg c)))) (T_X3_readRest rc oc (nI A) c (nI (δ + 1)) (va_up (va_up z 5 (nI (A + 1))) 8 (nI (s + 1))) (va_up (va_up g 9 (upd (g 9) A (pa_sg c))) 10 (upd (g 10) A (pa_fg c)))) (0, z3, g3)) :
    nr_V (O_X3_readAct_41 rc oc (nI δ) c z g) (T_X3_readAct_41 rc oc (nI δ) c z g) (0, z3, va_up g3 12 (upd (g3 12) A (z3 5))) := by
  have e10 : va_up g 9 (upd (g 9) A (pa_sg c)) 10 = g 10 := pp_up_ne _ _ (by decide)
  have k107 : ∀ f, f = pa_fg c → nr_V (O_X3_readAct_107 rc oc (nI δ) c (nI A) (nI A) f (va_up (va_up z 5 (nI (A + 1))) 8 (nI (s + 1))) (va_up g 9 (upd (g 9) A (pa_sg c)))) (T_X3_readAct_107 rc oc (nI δ) c (nI A) (nI A) f (va_up (va_up z 5 (nI (A + 1))) 8 (nI (s + 1))) (va_up g 9 (upd (g 9) A (pa_sg c)))) (0, z3, va_up g3 12 (upd (g3 12) A (z3 5))) := by
    intro f hf
    subst hf
    unfold O_X3_readAct_107 T_X3_readAct_107
    have p1 := pp_put (k := 10) (i := A) (v := pa_fg c) (z := va_up (va_up z 5 (nI (A + 1))) 8 (nI (s + 1))) (g := va_up g 9 (upd (g 9) A (pa_sg c))) rfl rfl hA
    rw [e10] at p1
    rw [nI_1]
    exact V_K p1 (V_K k (V_K1 (pp_put (k := 12) rfl rfl hA) (V_T rfl)))
  have k84 : ∀ f, f = pa_sg c → nr_V (O_X3_readAct_84 rc oc (nI δ) c (nI A) (nI A) f (va_up (va_up z 5 (nI (A + 1))) 8 (nI (s + 1))) g) (T_X3_readAct_84 rc oc (nI δ) c (nI A) (nI A) f (va_up (va_up z 5 (nI (A + 1))) 8 (nI (s + 1))) g) (0, z3, va_up g3 12 (upd (g3 12) A (z3 5))) := by
    intro f hf
    subst hf
    unfold O_X3_readAct_84 T_X3_readAct_84
    refine V_K (pp_put (k := 9) rfl rfl hA) ?_
    unfold pa_fg at k107
    by_cases hr : R_X3_isRoomSign c = 0
    · exact V_pos hr (k107 _ (by rw [if_pos hr]))
    · exact V_neg hr (k107 _ (by rw [if_neg hr]))
  unfold O_X3_readAct_41 T_X3_readAct_41
  rw [h5, h8, nI_1, nI_1]
  unfold pa_sg at k84
  by_cases hr : R_X3_isRoomSign c = 0
  · exact V_pos hr (k84 _ (by rw [if_pos hr]))
  · exact V_neg hr (k84 _ (by rw [if_neg hr]))
/-- behind the parts: the closing sign -/
theorem pa_34 {z : Nat → Int32} {g : Nat → Nat → Int32} {p : Nat} {cl : Int32} (h4 : z 4 = nI len) (hl : len ≤ 100) (hp : p ≤ len) (h8 : z 8 = nI p) (h9 : z 9 = -1) (hg : g 8 = tx) : nr_V (O_X3_readParts_34 rc oc cl z g) (T_X3_readParts_34 rc oc cl z g) (0, (if pp_c tx len (pp_s tx len p) = cl then va_up z 8 (nI (pp_s tx len p + 1)) else va_up (va_up z 8 (nI (pp_s tx len p))) 9 (nI (pp_s tx len p))), g) := by
  unfold O_X3_readParts_34 T_X3_readParts_34
  have e := pp_expect (g := g) h4 hl hp h8 h9 cl
  rw [hg] at e
  exact V_K1 e (V_T rfl)
theorem pa_34f {z : Nat → Int32} {g : Nat → Nat → Int32} {cl : Int32} (h9 : ¬ z 9 = -1) : nr_V (O_X3_readParts_34 rc oc cl z g) (T_X3_readParts_34 rc oc cl z g) (0, z, g) := by
  unfold O_X3_readParts_34 T_X3_readParts_34
  exact V_K1 (pp_expect_f h9 cl) (V_T rfl)
theorem pa_nf {f : Nat} {z : Nat → Int32} (hf : f ≤ 100) (h : z 9 = nI f) : ¬ z 9 = -1 := by rw [h]; exact pp_nI_m1 (by omega)
/-- one part, and its closing sign -/
theorem pa_one {L : (Nat → Nat → Int32) → Nat → Nat → Nat → Nat → Prop} (hLm : ∀ F F' a b p q, ly_ok F F' a b p q → L F a b p q → L F' a b p q) (hB : pa_Body tx len rc oc (δ + 1) L) {z : Nat → Int32} {g : Nat → Nat → Int32} {ζ : Nat → Int32} {γ : Nat → Nat → Int32} {b : Nat} {dp rb cl : Int32} (hl : len ≤ 100) (hd : δ < 8) (hs : s < b) (hb : b ≤ len) (hA : A < 100) (hAb : A + 1 ≤ b) (hC : pa_CS tx len b (A + 1) dp rb z g) (h9 : z 9 = -1) (hR : pa_RS tx len (pp_s tx len b) (A + 1) dp rb ζ γ) (h27 : γ 27 δ = nI s) (h26 : γ 26 s = -1) (hcl : R_X6_endsBy (tx s) = cl) (hop : ¬ (tx s = 40 ∨ tx s = 91)) :
    ∃ z' g', nr_V (O_X3_readParts rc oc (nI A) (-1) cl (nI (δ + 1)) z g) (T_X3_readParts rc oc (nI A) (-1) cl (nI (δ + 1)) z g) (0, z', g') ∧ (pa_Fail (δ + 1) z g ζ γ z' g' ∨ ∃ A' e, pa_Good tx len (δ + 1) δ A s z g ζ γ z' g' A' e (fun F => ly_one (L F) tx len F A s e A' b cl) ∧ A < A' ∧ s < e ∧ ∀ k, k ≠ 11 → g' k A = g k A) := by
  obtain ⟨z1, g1, v1, r1⟩ := hB z g ζ γ b (A + 1) dp rb hb hAb hC h9 hR
  have p11 := pp_put (k := 11) (i := A) (v := z1 5) (z := z1) (g := g1) rfl rfl hA
  rcases r1 with ⟨f, ζ1, γ1, f1, f2, f3, f4, f5⟩ | ⟨A1, q, ⟨dp1, rb1, ζ1, γ1, a1, a2, a3, a4, a5, a6, a7, a8, a9, aL⟩, hbq, hqq, hqn⟩
  · refine ⟨z1, va_up g1 11 (upd (g1 11) A (z1 5)), ?_, Or.inl ⟨f, ζ1, γ1, f1, f2, f3.trans (pa_C.g (A := 0) ⟨by decide, by decide⟩ (Nat.zero_le _) _).1, f4, f5⟩⟩
    unfold O_X3_readParts T_X3_readParts
    exact V_K v1 (V_K p11 (V_pos rfl (pa_34f (pa_nf f1 f2))))
  · obtain ⟨b1, b2, b3, b4, b5, b6⟩ := id a2
    have g8 : va_up g1 11 (upd (g1 11) A (z1 5)) 8 = tx := by rw [pp_up_ne _ _ (by decide)]; exact b6
    have p34 := pa_34 (rc := rc) (oc := oc) (cl := cl) (z := z1) (g := va_up g1 11 (upd (g1 11) A (z1 5))) b1 hl a7 b5 a1 g8
    rw [hqq] at p34 a4
    have vv : nr_V (O_X3_readParts rc oc (nI A) (-1) cl (nI (δ + 1)) z g) (T_X3_readParts rc oc (nI A) (-1) cl (nI (δ + 1)) z g) (0, (if pp_c tx len q = cl then va_up z1 8 (nI (q + 1)) else va_up (va_up z1 8 (nI q)) 9 (nI q)), va_up g1 11 (upd (g1 11) A (z1 5))) := by
      unfold O_X3_readParts T_X3_readParts
      exact V_K v1 (V_K p11 (V_pos rfl p34))
    have hCw1 : pa_C A z g z1 (va_up g1 11 (upd (g1 11) A (z1 5))) := (a3.le (A := A) (by omega)).trans (pa_C.g ⟨by decide, by decide⟩ (Nat.le_refl _) _) (Nat.le_refl _)
    have hsq : s < q := by omega
    have h27' : γ1 27 δ = nI s := by rw [a5.2.1 δ (by omega)]; exact h27
    have h26' : γ1 26 s = -1 := by
      have := pp_s_ge (tx := tx) hb
      rw [(a5.2.2 s (by omega)).2]; exact h26
    by_cases hc : pp_c tx len q = cl
    · have hql : q < len := by
        by_cases x : q < len
        · exact x
        · rw [pp_c_ge x] at hc
          rcases pa_ends (tx s) with e | e | e | e | e <;> (rw [e] at hcl; rw [← hcl] at hc; exact absurd hc (by decide))
      rw [pp_c_lt hql] at hc
      rw [pp_c_lt hql, if_pos hc] at vv
      obtain ⟨ζ2, c1, c2, c3⟩ := pa_close a4 hql hl hd h27' (by omega) (hc.trans hcl.symm) (Or.inl hop)
      refine ⟨_, _, vv, Or.inr ⟨A1, q + 1, ⟨dp1, rb1, ζ2, va_up γ1 25 (upd (γ1 25) s (nI q)), ?_, ?_, ?_, c1, ?_, a6.trans c3, by omega, by omega, by omega, ?_⟩, by omega, by omega, fun k hk => by rw [pp_up_ne _ _ hk]; exact a3.2 k A (by omega)⟩⟩
      · rw [pp_up_ne _ _ (by decide)]; exact a1
      · exact ⟨by simp [va_up, b1], by simp [va_up, b2], by simp [va_up, b3], by simp [va_up, b4], by simp [va_up], g8⟩
      · exact hCw1.trans (pa_C.z ⟨by decide, by decide⟩ _) (Nat.le_refl _)
      · exact (a5.le (δ := δ) (s := s) (by omega) (by have := pp_s_ge (tx := tx) hb; omega)).trans c2 (by omega) (Nat.le_refl _)
      · refine ⟨q, ?_, hs, hbq, ?_, hql, hc, ?_, rfl⟩
        · show (va_up g1 11 (upd (g1 11) A (z1 5))) 11 A = nI A1
          rw [pp_up_eq, pk_us]; exact b2
        · refine hLm _ _ _ _ _ _ (ly_F_ok (fun k i h1 h2 h3 h4 => ?_) (fun k i h1 h3 h4 => ?_)) aL
          · by_cases e : k = 11
            · subst e; rw [pp_up_eq, pk_un (by omega)]
            · rw [pp_up_ne _ _ e]
          · by_cases e : k = 25
            · subst e; rw [pp_up_eq, pk_un (by omega)]
            · rw [pp_up_ne _ _ e]
        · show (va_up γ1 25 (upd (γ1 25) s (nI q))) 25 s = nI q
          rw [pp_up_eq, pk_us]
    · rw [if_neg hc] at vv
      refine ⟨_, _, vv, Or.inl ⟨q, ζ1, γ1, by omega, by simp [va_up], ?_, a5.1, ?_⟩⟩
      · exact hCw1.1.trans ((pa_C.z (A := 0) (i := 8) ⟨by decide, by decide⟩ _).1.trans (pa_C.z (A := 0) (i := 9) ⟨by decide, by decide⟩ _).1)
      · refine a6.ret ?_
        by_cases hql : q < len
        · rw [pp_c_lt hql] at hc
          exact pa_bad a4 hql hl hd h27' (by omega) (hqn hql) (fun x => hop x.2.1) (fun x => hc (x.1.trans hcl))
        · have e : q = len := by omega
          rw [e] at a4 ⊢
          have := pa_end (δ := δ + 1) a4 hl (by omega)
          rw [if_neg (by omega)] at this
          exact this
end
