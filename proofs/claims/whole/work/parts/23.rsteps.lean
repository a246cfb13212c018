/-! the model's reader: one turn, by cases -/
theorem pa_opens (c : Int32) : R_X6_opens c = R_X3_holdsActs c := by
  unfold R_X6_opens R_X3_holdsActs R_X3_isRoomSign
  rw [pp_in07]
theorem pa_begins {c : Int32} (h : R_X3_beginsAct c = 0) : R_X3_holdsActs c = 0 ∧ c ≠ 108 ∧ c ≠ 107 ∧ c ≠ 119 ∧ c ≠ 98 ∧ c ≠ 43 ∧ c ≠ 33 := by
  unfold R_X3_beginsAct at h
  by_cases h0 : R_X3_holdsActs c = 0
  · rw [if_pos h0] at h
    refine ⟨h0, ?_, ?_, ?_, ?_, ?_, ?_⟩ <;> (intro e; subst e; revert h; decide)
  · rw [if_neg h0] at h
    exact absurd h (by decide)
theorem pa_begins' {c : Int32} (h : ¬ R_X3_beginsAct c = 0) : ¬ R_X3_holdsActs c = 0 ∨ (R_X3_holdsActs c = 0 ∧ (ly_smp c ∨ c = 33)) := by
  by_cases h0 : R_X3_holdsActs c = 0
  · right
    refine ⟨h0, ?_⟩
    unfold R_X3_beginsAct at h
    rw [if_pos h0] at h
    by_cases a1 : c = 108
    · exact Or.inl (Or.inl a1)
    rw [if_neg a1] at h
    by_cases a2 : c = 107
    · exact Or.inl (Or.inr (Or.inl a2))
    rw [if_neg a2] at h
    by_cases a3 : c = 119
    · exact Or.inl (Or.inr (Or.inr (Or.inl a3)))
    rw [if_neg a3] at h
    by_cases a4 : c = 98
    · exact Or.inl (Or.inr (Or.inr (Or.inr (Or.inl a4))))
    rw [if_neg a4] at h
    by_cases a5 : c = 43
    · exact Or.inl (Or.inr (Or.inr (Or.inr (Or.inr a5))))
    rw [if_neg a5] at h
    by_cases a6 : c = 33
    · exact Or.inr a6
    rw [if_neg a6] at h
    exact absurd rfl h
  · exact Or.inl h0
theorem pa_holds {c : Int32} (h : ¬ R_X3_holdsActs c = 0) : ((48 : Int32) ≤ c ∧ c ≤ 55) ∨ (R_X5_within c 48 55 = 0 ∧ (c = 40 ∨ c = 91 ∨ c = 60 ∨ c = 120)) := by
  by_cases h0 : (48 : Int32) ≤ c ∧ c ≤ 55
  · exact Or.inl h0
  · right
    have e : R_X5_within c 48 55 = 0 := pp_wn h0
    refine ⟨e, ?_⟩
    unfold R_X3_holdsActs R_X3_isRoomSign at h
    rw [if_pos e] at h
    by_cases a1 : c = 40
    · exact Or.inl a1
    rw [if_neg a1] at h
    by_cases a2 : c = 91
    · exact Or.inr (Or.inl a2)
    rw [if_neg a2] at h
    by_cases a3 : c = 60
    · exact Or.inr (Or.inr (Or.inl a3))
    rw [if_neg a3] at h
    by_cases a4 : c = 120
    · exact Or.inr (Or.inr (Or.inr a4))
    rw [if_neg a4] at h
    exact absurd rfl h
def pa_top (δ : Nat) (g : Nat → Nat → Int32) : Int32 := if δ = 0 then -1 else g 27 (δ - 1)
def pa_mx (dp : Int32) (δ : Nat) : Int32 := if dp < nI (δ + 1) then nI (δ + 1) else dp
section
variable {tx : Nat → Int32} {len δ s A : Nat} {dp rb : Int32} {z : Nat → Int32} {g : Nat → Nat → Int32}
theorem pa_it (h : pa_RS tx len s A dp rb z g) (hs : s < len) (hl : len ≤ 100) (hd : δ ≤ 9) {m : Nat} {w : Int32 × nr_S} (k : nr_V (O_X6_reads_65 (T_X6_reads_26 m) (O_X6_reads_26 m) (nI δ) (nI s) (tx s) (pa_top δ g) z g) (T_X6_reads_65 (T_X6_reads_26 m) (nI δ) (nI s) (tx s) (pa_top δ g) z g) w) : nr_V (O_X6_reads_26 (m + 1) (nI δ) z g) (T_X6_reads_26 (m + 1) (nI δ) z g) w := by
  obtain ⟨h1, h2, h3, h4, h5, h6⟩ := h
  rw [O_X6_reads_26, T_X6_reads_26, h1, h5, nI_clamp (by omega), h6 s hs]
  refine V_neg (nI_ge hs (by omega)) (V_and (vp_in_nI (by omega) (by decide)) ?_)
  unfold pa_top at k
  by_cases h0 : δ = 0
  · rw [if_pos h0] at k
    exact V_pos (by rw [h0]; decide) k
  · rw [if_neg h0] at k
    have e : nI δ - 1 = nI (δ - 1) := by
      obtain ⟨j, rfl⟩ : ∃ j, δ = j + 1 := ⟨δ - 1, by omega⟩
      exact nI_pred j
    rw [e, nI_clamp (by omega)]
    exact V_neg (nI_nle (by omega) (by omega)) (V_and (vp_in_nI (by omega) (by decide)) k)
theorem pa_476 {kT : Int32 → (Nat → Int32) → (Nat → Nat → Int32) → Int32 × nr_S} {kO : Int32 → (Nat → Int32) → (Nat → Nat → Int32) → Prop} {a : Int32} {p : Nat} {w : Int32 × nr_S} (h1 : z 21 = nI len) (hl : len ≤ 100) (h5 : z 25 = nI p) (hp : p ≤ len) (h6 : ∀ i, i < len → g 24 i = tx i) (k : nr_V (kO a (va_up z 25 (nI (pp_s tx len p))) g) (kT a (va_up z 25 (nI (pp_s tx len p))) g) w) : nr_V (O_X6_reads_476 kT kO a z g) (T_X6_reads_476 kT a z g) w := by
  unfold O_X6_reads_476 T_X6_reads_476
  have e := pp_skip (g := g) h1 hl hp h5
  rw [pp_s_congr h6] at e
  exact V_K e k
theorem pa_simple (h : pa_RS tx len s A dp rb z g) (hs : s < len) (hl : len ≤ 100) (hd : δ ≤ 9) (h0 : R_X3_holdsActs (tx s) = 0) (hc : ly_smp (tx s)) : ∃ z', pa_RS tx len (pp_s tx len (s + 1)) (A + 1) dp rb z' g ∧ pa_R δ s z g z' g ∧ pa_D (nI δ) z g (nI δ) z' g := by
  obtain ⟨h1, h2, h3, h4, h5, h6⟩ := id h
  refine ⟨va_up (va_up (va_up z 25 (z 25 + 1)) 22 (z 22 + 1)) 25 (nI (pp_s tx len (s + 1))), ⟨?_, ?_, ?_, ?_, ?_, h6⟩, (((pa_R.z ⟨by decide, by decide⟩ _).trans (pa_R.z ⟨by decide, by decide⟩ _) (Nat.le_refl _) (Nat.le_refl _)).trans (pa_R.z ⟨by decide, by decide⟩ _) (Nat.le_refl _) (Nat.le_refl _)), 1, fun m w k => pa_it h hs hl hd ?_⟩
  · simp [va_up, h1]
  · simp [va_up, h2, nI_1]
  · simp [va_up, h3]
  · simp [va_up, h4]
  · simp [va_up]
  · have k304 : nr_V (O_X6_reads_304 (T_X6_reads_26 m) (O_X6_reads_26 m) (nI δ) z g) (T_X6_reads_304 (T_X6_reads_26 m) (nI δ) z g) w := by
      unfold O_X6_reads_304 T_X6_reads_304
      exact pa_476 (by simp [va_up, h1]) hl (p := s + 1) (by simp [va_up, h5, nI_1]) (by omega) h6 k
    unfold O_X6_reads_65 T_X6_reads_65
    rw [pa_opens]
    refine V_pos h0 ?_
    rcases hc with e | e | e | e | e <;> rw [e]
    · exact V_neg (by decide) (V_pos rfl k304)
    · exact V_neg (by decide) (V_neg (by decide) (V_pos rfl k304))
    · exact V_neg (by decide) (V_neg (by decide) (V_neg (by decide) (V_pos rfl k304)))
    · exact V_neg (by decide) (V_neg (by decide) (V_neg (by decide) (V_neg (by decide) (V_pos rfl k304))))
    · exact V_neg (by decide) (V_neg (by decide) (V_neg (by decide) (V_neg (by decide) (V_neg (by decide) (V_pos rfl k304)))))
theorem pa_alarm (h : pa_RS tx len s A dp rb z g) (hs : s < len) (hl : len ≤ 100) (hd : δ ≤ 9) (hc : tx s = 33) (hq : pp_s tx len (s + 1) < len) (hdg : pp_dg (tx (pp_s tx len (s + 1)))) : ∃ z', pa_RS tx len (pp_s tx len (pp_s tx len (s + 1) + 1)) (A + 1) dp rb z' g ∧ pa_R δ s z g z' g ∧ pa_D (nI δ) z g (nI δ) z' g := by
  obtain ⟨h1, h2, h3, h4, h5, h6⟩ := id h
  refine ⟨va_up (va_up (va_up (va_up z 25 (z 25 + 1)) 22 (z 22 + 1)) 25 (nI (pp_s tx len (s + 1) + 1))) 25 (nI (pp_s tx len (pp_s tx len (s + 1) + 1))), ⟨?_, ?_, ?_, ?_, ?_, h6⟩, ((((pa_R.z ⟨by decide, by decide⟩ _).trans (pa_R.z ⟨by decide, by decide⟩ _) (Nat.le_refl _) (Nat.le_refl _)).trans (pa_R.z ⟨by decide, by decide⟩ _) (Nat.le_refl _) (Nat.le_refl _)).trans (pa_R.z ⟨by decide, by decide⟩ _) (Nat.le_refl _) (Nat.le_refl _)), 1, fun m w k => pa_it h hs hl hd ?_⟩
  · simp [va_up, h1]
  · simp [va_up, h2, nI_1]
  · simp [va_up, h3]
  · simp [va_up, h4]
  · simp [va_up]
  · unfold O_X6_reads_65 T_X6_reads_65
    rw [hc]
    have e := pp_meets_y (z := va_up (va_up z 25 (z 25 + 1)) 22 (z 22 + 1)) (g := g) (len := len) (p := s + 1) (a := 48) (b := 57) (by simp [va_up, h1]) hl (by omega) (by simp [va_up, h5, nI_1]) (by rw [pp_s_congr h6]; exact hq) (by rw [pp_s_congr h6, h6 _ hq]; exact hdg)
    rw [pp_s_congr h6] at e
    refine V_pos (by decide) (V_pos rfl (V_K e (V_neg (by decide) ?_)))
    exact pa_476 (by simp [va_up, h1]) hl (p := pp_s tx len (s + 1) + 1) (by simp [va_up]) (by omega) h6 k
theorem pa_alarm_f (h : pa_RS tx len s A dp rb z g) (hs : s < len) (hl : len ≤ 100) (hd : δ ≤ 9) (hc : tx s = 33) (hq : ¬ (pp_s tx len (s + 1) < len ∧ pp_dg (tx (pp_s tx len (s + 1))))) : ∃ z', pa_Rw z g z' g ∧ pa_T (nI δ) z g (nI (pp_s tx len (s + 1)), z', g) := by
  obtain ⟨h1, h2, h3, h4, h5, h6⟩ := id h
  refine ⟨va_up (va_up (va_up z 25 (z 25 + 1)) 22 (z 22 + 1)) 25 (nI (pp_s tx len (s + 1))), (((pa_R.z (δ := 0) (s := 0) ⟨by decide, by decide⟩ _).1.trans (pa_R.z (δ := 0) (s := 0) ⟨by decide, by decide⟩ _).1).trans (pa_R.z (δ := 0) (s := 0) ⟨by decide, by decide⟩ _).1), 1, fun m => pa_it h hs hl hd ?_⟩
  unfold O_X6_reads_65 T_X6_reads_65
  rw [hc]
  have e := pp_meets_n (z := va_up (va_up z 25 (z 25 + 1)) 22 (z 22 + 1)) (g := g) (len := len) (p := s + 1) (a := 48) (b := 57) (by simp [va_up, h1]) hl (by omega) (by simp [va_up, h5, nI_1]) (by rw [pp_s_congr h6]; intro q; rw [h6 _ q.1] at q; exact hq q)
  rw [pp_s_congr h6] at e
  refine V_pos (by decide) (V_pos rfl (V_K e (V_pos rfl (V_T ?_))))
  rw [pp_up_eq]
theorem pa_deep (h : pa_RS tx len s A dp rb z g) (hs : s < len) (hl : len ≤ 100) (h0 : ¬ R_X3_holdsActs (tx s) = 0) : pa_T (nI 8) z g (nI s, z, g) := by
  refine ⟨1, fun m => pa_it h hs hl (by decide) ?_⟩
  unfold O_X6_reads_65 T_X6_reads_65
  rw [pa_opens]
  exact V_neg h0 (V_pos rfl (V_T rfl))
/-- what is opened is laid on the pile -/
theorem pa_172 {kT : Int32 → (Nat → Int32) → (Nat → Nat → Int32) → Int32 × nr_S} {kO : Int32 → (Nat → Int32) → (Nat → Nat → Int32) → Prop} {b : Nat} {w : Int32 × nr_S} {a5 : Int32} (ha5 : ¬ a5 = 0) (h1 : z 21 = nI len) (hl : len ≤ 100) (h2 : z 22 = nI A) (h3 : z 23 = dp) (h5 : z 25 = nI b) (hb : b ≤ len) (hs : s < len) (hd : δ < 8) (h6 : ∀ i, i < len → g 24 i = tx i)
    (k : nr_V (kO (nI (δ + 1)) (va_up (va_up (va_up z 23 (pa_mx dp δ)) 22 (nI (A + 1))) 25 (nI (pp_s tx len b))) (va_up (va_up g 27 (upd (g 27) δ (nI s))) 26 (upd (g 26) s (-1)))) (kT (nI (δ + 1)) (va_up (va_up (va_up z 23 (pa_mx dp δ)) 22 (nI (A + 1))) 25 (nI (pp_s tx len b))) (va_up (va_up g 27 (upd (g 27) δ (nI s))) 26 (upd (g 26) s (-1)))) w) :
    nr_V (O_X6_reads_172 kT kO (nI δ) (nI s) a5 z g) (T_X6_reads_172 kT (nI δ) (nI s) a5 z g) w := by
  have eg : nr_st (nr_st g 27 (nI δ) (nI s)) 26 (nI s) (-1) = va_up (va_up g 27 (upd (g 27) δ (nI s))) 26 (upd (g 26) s (-1)) := by
    unfold nr_st
    rw [nI_clamp (by omega), nI_clamp (by omega), pp_up_ne (i := 27) (j := 26) _ _ (by decide)]
  have h6' : ∀ i, i < len → (va_up (va_up g 27 (upd (g 27) δ (nI s))) 26 (upd (g 26) s (-1))) 24 i = tx i := fun i hi => by
    rw [pp_up_ne _ _ (by decide), pp_up_ne _ _ (by decide)]; exact h6 i hi
  unfold O_X6_reads_172 T_X6_reads_172
  rw [nI_1, h3, eg]
  refine V_neg ha5 (V_and (vp_in_nI (by omega) (by decide)) (V_and (vp_in_nI (by omega) (by decide)) ?_))
  have go : ∀ d9, d9 = pa_mx dp δ → nr_V (O_X6_reads_216 kT kO (nI (δ + 1)) d9 z (va_up (va_up g 27 (upd (g 27) δ (nI s))) 26 (upd (g 26) s (-1)))) (T_X6_reads_216 kT (nI (δ + 1)) d9 z (va_up (va_up g 27 (upd (g 27) δ (nI s))) 26 (upd (g 26) s (-1)))) w := by
    intro d9 e9
    subst e9
    unfold O_X6_reads_216 T_X6_reads_216
    rw [h2, nI_1]
    exact pa_476 (by simp [va_up, h1]) hl (p := b) (by simp [va_up, h5]) hb h6' k
  unfold pa_mx at go
  by_cases hc : nI (δ + 1) ≤ dp
  · exact V_pos hc (go dp (by rw [if_neg (Int32.not_lt.mpr hc)]))
  · exact V_neg hc (go _ (by rw [if_pos (Int32.not_le.mp hc)]))
end
