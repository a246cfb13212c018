/-! the model's reader: what opens, what ends -/
def pa_rb (rb c : Int32) : Int32 := rb ||| ((1 : Int32) <<< ((c - 48) &&& 31))
section
variable {tx : Nat → Int32} {len δ s A : Nat} {dp rb : Int32} {z : Nat → Int32} {g : Nat → Nat → Int32}
theorem pa_opened {z1 : Nat → Int32} {b : Nat} {rb' : Int32} (hz : pa_R δ s z g z1 g) (h1 : z1 21 = nI len) (h4 : z1 24 = rb') (h6 : ∀ i, i < len → g 24 i = tx i) : pa_RS tx len (pp_s tx len b) (A + 1) (pa_mx dp δ) rb' (va_up (va_up (va_up z1 23 (pa_mx dp δ)) 22 (nI (A + 1))) 25 (nI (pp_s tx len b))) (va_up (va_up g 27 (upd (g 27) δ (nI s))) 26 (upd (g 26) s (-1))) ∧ pa_R δ s z g (va_up (va_up (va_up z1 23 (pa_mx dp δ)) 22 (nI (A + 1))) 25 (nI (pp_s tx len b))) (va_up (va_up g 27 (upd (g 27) δ (nI s))) 26 (upd (g 26) s (-1))) ∧ (va_up (va_up g 27 (upd (g 27) δ (nI s))) 26 (upd (g 26) s (-1))) 27 δ = nI s ∧ (va_up (va_up g 27 (upd (g 27) δ (nI s))) 26 (upd (g 26) s (-1))) 26 s = -1 := by
  have e26 : va_up g 27 (upd (g 27) δ (nI s)) 26 = g 26 := pp_up_ne _ _ (by decide)
  refine ⟨⟨by simp [va_up, h1], by simp [va_up], by simp [va_up], by simp [va_up, h4], by simp [va_up], fun i hi => ?_⟩, ?_, ?_, ?_⟩
  · rw [pp_up_ne _ _ (by decide), pp_up_ne _ _ (by decide)]; exact h6 i hi
  · refine (((hz.trans (pa_R.z (i := 23) ⟨by decide, by decide⟩ (pa_mx dp δ)) (Nat.le_refl _) (Nat.le_refl _)).trans (pa_R.z (i := 22) ⟨by decide, by decide⟩ (nI (A + 1))) (Nat.le_refl _) (Nat.le_refl _)).trans (pa_R.z (i := 25) ⟨by decide, by decide⟩ (nI (pp_s tx len b))) (Nat.le_refl _) (Nat.le_refl _)).trans ?_ (Nat.le_refl _) (Nat.le_refl _)
    have a := pa_R.g (δ := δ) (s := s) (z := va_up (va_up (va_up z1 23 (pa_mx dp δ)) 22 (nI (A + 1))) 25 (nI (pp_s tx len b))) (g := g) (k := 27) (i := δ) (Or.inl ⟨rfl, Nat.le_refl _⟩) (nI s)
    have b := pa_R.g (δ := δ) (s := s) (z := va_up (va_up (va_up z1 23 (pa_mx dp δ)) 22 (nI (A + 1))) 25 (nI (pp_s tx len b))) (g := va_up g 27 (upd (g 27) δ (nI s))) (k := 26) (i := s) (Or.inr ⟨Or.inr rfl, Nat.le_refl _⟩) (-1)
    rw [e26] at b
    exact a.trans b (Nat.le_refl _) (Nat.le_refl _)
  · rw [pp_up_ne _ _ (by decide), pp_up_eq, pk_us]
  · rw [pp_up_eq, pk_us]
theorem pa_brack (h : pa_RS tx len s A dp rb z g) (hs : s < len) (hl : len ≤ 100) (hd : δ < 8) (hc : tx s = 40 ∨ tx s = 91 ∨ tx s = 60) : ∃ z' g', pa_RS tx len (pp_s tx len (s + 1)) (A + 1) (pa_mx dp δ) rb z' g' ∧ pa_R δ s z g z' g' ∧ g' 27 δ = nI s ∧ g' 26 s = -1 ∧ pa_D (nI δ) z g (nI (δ + 1)) z' g' := by
  obtain ⟨h1, h2, h3, h4, h5, h6⟩ := id h
  obtain ⟨a, b, c, e⟩ := pa_opened (A := A) (dp := dp) (b := s + 1) (rb' := rb) (z1 := va_up z 25 (z 25 + 1)) (pa_R.z (δ := δ) (s := s) (g := g) ⟨by decide, by decide⟩ (z 25 + 1)) (by simp [va_up, h1]) (by simp [va_up, h4]) h6
  refine ⟨_, _, a, b, c, e, 1, fun m w k => pa_it h hs hl (by omega) ?_⟩
  unfold O_X6_reads_65 T_X6_reads_65
  have hw : R_X6_in (tx s).toInt64 48 55 = 0 := by
    rw [pp_in07]
    rcases hc with e | e | e <;> rw [e] <;> decide
  have ho : ¬ R_X6_opens (tx s) = 0 := by
    rcases hc with e | e | e <;> rw [e] <;> decide
  refine V_neg ho (V_neg (fun q => ?_) (V_pos hw (V_neg ?_ ?_)))
  · have := (nI_eq (a := δ) (b := 8) (by omega) (by decide)).mp q
    omega
  · rcases hc with e | e | e <;> rw [e] <;> decide
  · exact pa_172 (by decide) (by simp [va_up, h1]) hl (by simp [va_up, h2]) (by simp [va_up, h3]) (b := s + 1) (by simp [va_up, h5, nI_1]) (by omega) hs hd h6 k
theorem pa_room (h : pa_RS tx len s A dp rb z g) (hs : s < len) (hl : len ≤ 100) (hd : δ < 8) (hc : (48 : Int32) ≤ tx s ∧ tx s ≤ 55) (hq : pp_s tx len (s + 1) < len) (hb : tx (pp_s tx len (s + 1)) = 123) : ∃ z' g', pa_RS tx len (pp_s tx len (pp_s tx len (s + 1) + 1)) (A + 1) (pa_mx dp δ) (pa_rb rb (tx s)) z' g' ∧ pa_R δ s z g z' g' ∧ g' 27 δ = nI s ∧ g' 26 s = -1 ∧ pa_D (nI δ) z g (nI (δ + 1)) z' g' := by
  obtain ⟨h1, h2, h3, h4, h5, h6⟩ := id h
  obtain ⟨a, b, c, e⟩ := pa_opened (A := A) (dp := dp) (b := pp_s tx len (s + 1) + 1) (rb' := pa_rb rb (tx s)) (z1 := va_up (va_up (va_up z 25 (z 25 + 1)) 25 (nI (pp_s tx len (s + 1) + 1))) 24 (pa_rb rb (tx s))) (((pa_R.z (δ := δ) (s := s) (g := g) ⟨by decide, by decide⟩ (z 25 + 1)).trans (pa_R.z ⟨by decide, by decide⟩ _) (Nat.le_refl _) (Nat.le_refl _)).trans (pa_R.z ⟨by decide, by decide⟩ _) (Nat.le_refl _) (Nat.le_refl _)) (by simp [va_up, h1]) (by simp [va_up]) h6
  refine ⟨_, _, a, b, c, e, 1, fun m w k => pa_it h hs hl (by omega) ?_⟩
  unfold O_X6_reads_65 T_X6_reads_65
  have hw : R_X6_in (tx s).toInt64 48 55 = 1 := by rw [pp_in07, pp_wy hc]
  have ho : ¬ R_X6_opens (tx s) = 0 := by
    unfold R_X6_opens
    rw [hw, if_neg (by decide)]
    decide
  have e9 := pp_meets_y (z := va_up z 25 (z 25 + 1)) (g := g) (len := len) (p := s + 1) (a := 123) (b := 123) (by simp [va_up, h1]) hl (by omega) (by simp [va_up, h5, nI_1]) (by rw [pp_s_congr h6]; exact hq) (by rw [pp_s_congr h6, h6 _ hq, hb]; decide)
  rw [pp_s_congr h6] at e9
  refine V_neg ho (V_neg (fun q => ?_) (V_neg (by rw [hw]; decide) (V_K e9 ?_)))
  · have := (nI_eq (a := δ) (b := 8) (by omega) (by decide)).mp q
    omega
  · have e24 : va_up (va_up z 25 (z 25 + 1)) 25 (nI (pp_s tx len (s + 1) + 1)) 24 = rb := by simp [va_up, h4]
    rw [e24]
    exact pa_172 (by decide) (by simp [va_up, h1]) hl (by simp [va_up, h2]) (by simp [va_up, h3]) (b := pp_s tx len (s + 1) + 1) (by simp [va_up]) (by omega) hs hd h6 k
theorem pa_room_f (h : pa_RS tx len s A dp rb z g) (hs : s < len) (hl : len ≤ 100) (hd : δ < 8) (hc : (48 : Int32) ≤ tx s ∧ tx s ≤ 55) (hq : ¬ (pp_s tx len (s + 1) < len ∧ tx (pp_s tx len (s + 1)) = 123)) : ∃ z', pa_Rw z g z' g ∧ pa_T (nI δ) z g (nI (pp_s tx len (s + 1)), z', g) := by
  obtain ⟨h1, h2, h3, h4, h5, h6⟩ := id h
  refine ⟨va_up (va_up (va_up z 25 (z 25 + 1)) 25 (nI (pp_s tx len (s + 1)))) 24 (pa_rb rb (tx s)), (((pa_R.z (δ := 0) (s := 0) ⟨by decide, by decide⟩ _).1.trans (pa_R.z (δ := 0) (s := 0) ⟨by decide, by decide⟩ _).1).trans (pa_R.z (δ := 0) (s := 0) ⟨by decide, by decide⟩ _).1), 1, fun m => pa_it h hs hl (by omega) ?_⟩
  unfold O_X6_reads_65 T_X6_reads_65
  have hw : R_X6_in (tx s).toInt64 48 55 = 1 := by rw [pp_in07, pp_wy hc]
  have ho : ¬ R_X6_opens (tx s) = 0 := by
    unfold R_X6_opens
    rw [hw, if_neg (by decide)]
    decide
  have e9 := pp_meets_n (z := va_up z 25 (z 25 + 1)) (g := g) (len := len) (p := s + 1) (a := 123) (b := 123) (by simp [va_up, h1]) hl (by omega) (by simp [va_up, h5, nI_1]) (by rw [pp_s_congr h6]; intro q; rw [h6 _ q.1] at q; exact hq ⟨q.1, Int32.le_antisymm q.2.2 q.2.1⟩)
  rw [pp_s_congr h6] at e9
  have e24 : va_up (va_up z 25 (z 25 + 1)) 25 (nI (pp_s tx len (s + 1))) 24 = rb := by simp [va_up, h4]
  refine V_neg ho (V_neg (fun q => ?_) (V_neg (by rw [hw]; decide) (V_K e9 ?_)))
  · have := (nI_eq (a := δ) (b := 8) (by omega) (by decide)).mp q
    omega
  · rw [e24]
    unfold O_X6_reads_172 T_X6_reads_172
    refine V_pos rfl (V_T ?_)
    rw [pp_up_ne _ _ (by decide), pp_up_eq]
    rfl
theorem pa_x (h : pa_RS tx len s A dp rb z g) (hs : s < len) (hl : len ≤ 100) (hd : δ < 8) (hc : tx s = 120) (hq : pp_s tx len (s + 1) < len) (hdg : pp_dg (tx (pp_s tx len (s + 1)))) (hq2 : pp_s tx len (pp_s tx len (s + 1) + 1) < len) (hb : tx (pp_s tx len (pp_s tx len (s + 1) + 1)) = 58) : ∃ z' g', pa_RS tx len (pp_s tx len (pp_s tx len (pp_s tx len (s + 1) + 1) + 1)) (A + 1) (pa_mx dp δ) rb z' g' ∧ pa_R δ s z g z' g' ∧ g' 27 δ = nI s ∧ g' 26 s = -1 ∧ pa_D (nI δ) z g (nI (δ + 1)) z' g' := by
  obtain ⟨h1, h2, h3, h4, h5, h6⟩ := id h
  obtain ⟨a, b, c, e⟩ := pa_opened (A := A) (dp := dp) (b := pp_s tx len (pp_s tx len (s + 1) + 1) + 1) (rb' := rb) (z1 := va_up (va_up (va_up z 25 (z 25 + 1)) 25 (nI (pp_s tx len (s + 1) + 1))) 25 (nI (pp_s tx len (pp_s tx len (s + 1) + 1) + 1))) (((pa_R.z (δ := δ) (s := s) (g := g) ⟨by decide, by decide⟩ (z 25 + 1)).trans (pa_R.z ⟨by decide, by decide⟩ _) (Nat.le_refl _) (Nat.le_refl _)).trans (pa_R.z ⟨by decide, by decide⟩ _) (Nat.le_refl _) (Nat.le_refl _)) (by simp [va_up, h1]) (by simp [va_up, h4]) h6
  refine ⟨_, _, a, b, c, e, 1, fun m w k => pa_it h hs hl (by omega) ?_⟩
  unfold O_X6_reads_65 T_X6_reads_65
  rw [hc]
  have e8 := pp_meets_y (z := va_up z 25 (z 25 + 1)) (g := g) (len := len) (p := s + 1) (a := 48) (b := 57) (by simp [va_up, h1]) hl (by omega) (by simp [va_up, h5, nI_1]) (by rw [pp_s_congr h6]; exact hq) (by rw [pp_s_congr h6, h6 _ hq]; exact hdg)
  rw [pp_s_congr h6] at e8
  have e9 := pp_meets_y (z := va_up (va_up z 25 (z 25 + 1)) 25 (nI (pp_s tx len (s + 1) + 1))) (g := g) (len := len) (p := pp_s tx len (s + 1) + 1) (a := 58) (b := 58) (by simp [va_up, h1]) hl (by omega) (by simp [va_up]) (by rw [pp_s_congr h6]; exact hq2) (by rw [pp_s_congr h6, h6 _ hq2, hb]; decide)
  rw [pp_s_congr h6] at e9
  refine V_neg (by decide) (V_neg (fun q => ?_) (V_pos (by decide) (V_pos rfl (V_K e8 (V_neg (by decide) (V_K e9 (V_neg (by decide) ?_)))))))
  · have := (nI_eq (a := δ) (b := 8) (by omega) (by decide)).mp q
    omega
  · unfold O_X6_reads_170 T_X6_reads_170
    exact pa_172 (by decide) (by simp [va_up, h1]) hl (by simp [va_up, h2]) (by simp [va_up, h3]) (b := pp_s tx len (pp_s tx len (s + 1) + 1) + 1) (by simp [va_up]) (by omega) hs hd h6 k
theorem pa_x_f1 (h : pa_RS tx len s A dp rb z g) (hs : s < len) (hl : len ≤ 100) (hd : δ < 8) (hc : tx s = 120) (hq : ¬ (pp_s tx len (s + 1) < len ∧ pp_dg (tx (pp_s tx len (s + 1))))) : ∃ z', pa_Rw z g z' g ∧ pa_T (nI δ) z g (nI (pp_s tx len (s + 1)), z', g) := by
  obtain ⟨h1, h2, h3, h4, h5, h6⟩ := id h
  refine ⟨va_up (va_up z 25 (z 25 + 1)) 25 (nI (pp_s tx len (s + 1))), ((pa_R.z (δ := 0) (s := 0) ⟨by decide, by decide⟩ _).1.trans (pa_R.z (δ := 0) (s := 0) ⟨by decide, by decide⟩ _).1), 1, fun m => pa_it h hs hl (by omega) ?_⟩
  unfold O_X6_reads_65 T_X6_reads_65
  rw [hc]
  have e8 := pp_meets_n (z := va_up z 25 (z 25 + 1)) (g := g) (len := len) (p := s + 1) (a := 48) (b := 57) (by simp [va_up, h1]) hl (by omega) (by simp [va_up, h5, nI_1]) (by rw [pp_s_congr h6]; intro q; rw [h6 _ q.1] at q; exact hq q)
  rw [pp_s_congr h6] at e8
  refine V_neg (by decide) (V_neg (fun q => ?_) (V_pos (by decide) (V_pos rfl (V_K e8 (V_pos rfl ?_)))))
  · have := (nI_eq (a := δ) (b := 8) (by omega) (by decide)).mp q
    omega
  · unfold O_X6_reads_169 T_X6_reads_169 O_X6_reads_170 T_X6_reads_170 O_X6_reads_172 T_X6_reads_172
    refine V_pos rfl (V_T ?_)
    rw [pp_up_eq]
theorem pa_x_f2 (h : pa_RS tx len s A dp rb z g) (hs : s < len) (hl : len ≤ 100) (hd : δ < 8) (hc : tx s = 120) (hq : pp_s tx len (s + 1) < len) (hdg : pp_dg (tx (pp_s tx len (s + 1)))) (hq2 : ¬ (pp_s tx len (pp_s tx len (s + 1) + 1) < len ∧ tx (pp_s tx len (pp_s tx len (s + 1) + 1)) = 58)) : ∃ z', pa_Rw z g z' g ∧ pa_T (nI δ) z g (nI (pp_s tx len (pp_s tx len (s + 1) + 1)), z', g) := by
  obtain ⟨h1, h2, h3, h4, h5, h6⟩ := id h
  refine ⟨va_up (va_up (va_up z 25 (z 25 + 1)) 25 (nI (pp_s tx len (s + 1) + 1))) 25 (nI (pp_s tx len (pp_s tx len (s + 1) + 1))), (((pa_R.z (δ := 0) (s := 0) ⟨by decide, by decide⟩ _).1.trans (pa_R.z (δ := 0) (s := 0) ⟨by decide, by decide⟩ _).1).trans (pa_R.z (δ := 0) (s := 0) ⟨by decide, by decide⟩ _).1), 1, fun m => pa_it h hs hl (by omega) ?_⟩
  unfold O_X6_reads_65 T_X6_reads_65
  rw [hc]
  have e8 := pp_meets_y (z := va_up z 25 (z 25 + 1)) (g := g) (len := len) (p := s + 1) (a := 48) (b := 57) (by simp [va_up, h1]) hl (by omega) (by simp [va_up, h5, nI_1]) (by rw [pp_s_congr h6]; exact hq) (by rw [pp_s_congr h6, h6 _ hq]; exact hdg)
  rw [pp_s_congr h6] at e8
  have e9 := pp_meets_n (z := va_up (va_up z 25 (z 25 + 1)) 25 (nI (pp_s tx len (s + 1) + 1))) (g := g) (len := len) (p := pp_s tx len (s + 1) + 1) (a := 58) (b := 58) (by simp [va_up, h1]) hl (by omega) (by simp [va_up]) (by rw [pp_s_congr h6]; intro q; rw [h6 _ q.1] at q; exact hq2 ⟨q.1, Int32.le_antisymm q.2.2 q.2.1⟩)
  rw [pp_s_congr h6] at e9
  refine V_neg (by decide) (V_neg (fun q => ?_) (V_pos (by decide) (V_pos rfl (V_K e8 (V_neg (by decide) (V_K e9 (V_pos rfl ?_)))))))
  · have := (nI_eq (a := δ) (b := 8) (by omega) (by decide)).mp q
    omega
  · unfold O_X6_reads_169 T_X6_reads_169 O_X6_reads_170 T_X6_reads_170 O_X6_reads_172 T_X6_reads_172
    refine V_pos rfl (V_T ?_)
    rw [pp_up_eq]
/-- a sign at which no act begins -/
theorem pa_65n (hb : R_X3_beginsAct (tx s) = 0) {kT : Int32 → (Nat → Int32) → (Nat → Nat → Int32) → Int32 × nr_S} {kO : Int32 → (Nat → Int32) → (Nat → Nat → Int32) → Prop} {t0 : Nat} {w : Int32 × nr_S} (ht0 : t0 < len) (hl : len ≤ 100) (h6 : ∀ i, i < len → g 24 i = tx i)
    (k : nr_V ((tx s = 47 → ((tx t0 = 40 ∨ tx t0 = 91) → O_X6_reads_363 kT kO (nI (δ + 1)) (nI s) (tx s) (nI t0) z g) ∧ (¬ (tx t0 = 40 ∨ tx t0 = 91) → O_X6_reads_395 kT kO (nI (δ + 1)) (nI s) (tx s) (nI t0) z g)) ∧ (¬ tx s = 47 → O_X6_reads_395 kT kO (nI (δ + 1)) (nI s) (tx s) (nI t0) z g)) (if tx s = 47 then (if tx t0 = 40 ∨ tx t0 = 91 then T_X6_reads_363 kT (nI (δ + 1)) (nI s) (tx s) (nI t0) z g else T_X6_reads_395 kT (nI (δ + 1)) (nI s) (tx s) (nI t0) z g) else T_X6_reads_395 kT (nI (δ + 1)) (nI s) (tx s) (nI t0) z g) w) :
    nr_V (O_X6_reads_65 kT kO (nI (δ + 1)) (nI s) (tx s) (nI t0) z g) (T_X6_reads_65 kT (nI (δ + 1)) (nI s) (tx s) (nI t0) z g) w := by
  obtain ⟨b0, b1, b2, b3, b4, b5, b6⟩ := pa_begins hb
  unfold O_X6_reads_65 T_X6_reads_65
  rw [pa_opens, nI_clamp (by omega), h6 t0 ht0]
  refine V_pos b0 (V_neg b6 (V_neg b1 (V_neg b2 (V_neg b3 (V_neg b4 (V_neg b5 (V_neg (pp_nI_m1 (by omega)) ?_)))))))
  by_cases c1 : tx s = 47
  · rw [if_pos c1] at k
    have k1 := k.1.1 c1
    have k2 := k.2
    refine V_pos c1 (V_and (vp_in_nI (by omega) (by decide)) ?_)
    by_cases c2 : tx t0 = 40
    · rw [if_pos (Or.inl c2)] at k2
      exact V_pos c2 ⟨k1.1 (Or.inl c2), k2⟩
    · refine V_neg c2 (V_and (vp_in_nI (by omega) (by decide)) ?_)
      by_cases c3 : tx t0 = 91
      · rw [if_pos (Or.inr c3)] at k2
        exact V_pos c3 ⟨k1.1 (Or.inr c3), k2⟩
      · have n : ¬ (tx t0 = 40 ∨ tx t0 = 91) := fun q => q.elim c2 c3
        rw [if_neg n] at k2
        exact V_neg c3 ⟨k1.2 n, k2⟩
  · rw [if_neg c1] at k
    exact V_neg c1 ⟨k.1.2 c1, k.2⟩
theorem pa_395 {kT : Int32 → (Nat → Int32) → (Nat → Nat → Int32) → Int32 × nr_S} {kO : Int32 → (Nat → Int32) → (Nat → Nat → Int32) → Prop} {t0 : Nat} {w : Int32 × nr_S} {a c : Int32} (ht0 : t0 < len) (hl : len ≤ 100) (h6 : ∀ i, i < len → g 24 i = tx i) (hc : c = R_X6_endsBy (tx t0)) (hx : (¬ (tx t0 = 40 ∨ tx t0 = 91)) ∨ ¬ g 26 t0 = -1)
    (k : nr_V (O_X6_reads_450 kT kO a (nI s) (nI t0) z g) (T_X6_reads_450 kT a (nI s) (nI t0) z g) w) : nr_V (O_X6_reads_395 kT kO a (nI s) c (nI t0) z g) (T_X6_reads_395 kT a (nI s) c (nI t0) z g) w := by
  unfold O_X6_reads_395 T_X6_reads_395 O_X6_reads_439 T_X6_reads_439
  rw [nI_clamp (by omega), h6 t0 ht0]
  refine V_neg (pp_nI_m1 (by omega)) (V_and (vp_in_nI (by omega) (by decide)) (V_pos hc (V_and (vp_in_nI (by omega) (by decide)) ?_)))
  by_cases c2 : tx t0 = 40
  · exact V_pos c2 (V_and (vp_in_nI (by omega) (by decide)) (V_neg (hx.elim (fun q => absurd (Or.inl c2) q) id) k))
  · refine V_neg c2 (V_and (vp_in_nI (by omega) (by decide)) ?_)
    by_cases c3 : tx t0 = 91
    · exact V_pos c3 (V_and (vp_in_nI (by omega) (by decide)) (V_neg (hx.elim (fun q => absurd (Or.inr c3) q) id) k))
    · exact V_neg c3 k
theorem pa_395f {kT : Int32 → (Nat → Int32) → (Nat → Nat → Int32) → Int32 × nr_S} {kO : Int32 → (Nat → Int32) → (Nat → Nat → Int32) → Prop} {t0 : Nat} {a c : Int32} (ht0 : t0 < len) (hl : len ≤ 100) (h6 : ∀ i, i < len → g 24 i = tx i) (hx : ¬ (c = R_X6_endsBy (tx t0) ∧ ((¬ (tx t0 = 40 ∨ tx t0 = 91)) ∨ ¬ g 26 t0 = -1))) : nr_V (O_X6_reads_395 kT kO a (nI s) c (nI t0) z g) (T_X6_reads_395 kT a (nI s) c (nI t0) z g) (nI s, z, g) := by
  unfold O_X6_reads_395 T_X6_reads_395 O_X6_reads_439 T_X6_reads_439
  rw [nI_clamp (by omega), h6 t0 ht0]
  refine V_neg (pp_nI_m1 (by omega)) (V_and (vp_in_nI (by omega) (by decide)) ?_)
  by_cases hc : c = R_X6_endsBy (tx t0)
  · have h26 : g 26 t0 = -1 := by
      by_cases q : g 26 t0 = -1
      · exact q
      · exact absurd ⟨hc, Or.inr q⟩ hx
    refine V_pos hc (V_and (vp_in_nI (by omega) (by decide)) ?_)
    by_cases c2 : tx t0 = 40
    · exact V_pos c2 (V_and (vp_in_nI (by omega) (by decide)) (V_pos h26 (V_T rfl)))
    · refine V_neg c2 (V_and (vp_in_nI (by omega) (by decide)) ?_)
      by_cases c3 : tx t0 = 91
      · exact V_pos c3 (V_and (vp_in_nI (by omega) (by decide)) (V_pos h26 (V_T rfl)))
      · exact absurd ⟨hc, Or.inl (fun q => q.elim c2 c3)⟩ hx
  · exact V_neg hc (V_T rfl)
theorem pa_slash {t0 : Nat} (h : pa_RS tx len s A dp rb z g) (hs : s < len) (hl : len ≤ 100) (hd : δ < 8) (ht : g 27 δ = nI t0) (ht0 : t0 < len) (hc : tx s = 47) (hop : tx t0 = 40 ∨ tx t0 = 91) (h26 : g 26 t0 = -1) : ∃ z', pa_RS tx len (pp_s tx len (s + 1)) A dp rb z' (va_up g 26 (upd (g 26) t0 (nI s))) ∧ pa_R (δ + 1) t0 z g z' (va_up g 26 (upd (g 26) t0 (nI s))) ∧ pa_D (nI (δ + 1)) z g (nI (δ + 1)) z' (va_up g 26 (upd (g 26) t0 (nI s))) := by
  obtain ⟨h1, h2, h3, h4, h5, h6⟩ := id h
  have h6' : ∀ i, i < len → (va_up g 26 (upd (g 26) t0 (nI s))) 24 i = tx i := fun i hi => by rw [pp_up_ne _ _ (by decide)]; exact h6 i hi
  refine ⟨va_up (va_up z 25 (z 25 + 1)) 25 (nI (pp_s tx len (s + 1))), ⟨by simp [va_up, h1], by simp [va_up, h2], by simp [va_up, h3], by simp [va_up, h4], by simp [va_up], h6'⟩, (((pa_R.z ⟨by decide, by decide⟩ _).trans (pa_R.z ⟨by decide, by decide⟩ _) (Nat.le_refl _) (Nat.le_refl _)).trans (pa_R.g (Or.inr ⟨Or.inr rfl, Nat.le_refl _⟩) _) (Nat.le_refl _) (Nat.le_refl _)), 1, fun m w k => pa_it h hs hl (by omega) ?_⟩
  rw [show pa_top (δ + 1) g = nI t0 from ht]
  refine pa_65n (by rw [hc]; decide) ht0 hl h6 (V_pos hc ⟨⟨fun _ => ?_, fun q => absurd hop q⟩, ?_⟩)
  · exact (show nr_V (O_X6_reads_363 (T_X6_reads_26 m) (O_X6_reads_26 m) (nI (δ + 1)) (nI s) (tx s) (nI t0) z g) (T_X6_reads_363 (T_X6_reads_26 m) (nI (δ + 1)) (nI s) (tx s) (nI t0) z g) w from by
      unfold O_X6_reads_363 T_X6_reads_363 nr_st
      rw [nI_clamp (by omega)]
      exact V_and (vp_in_nI (by omega) (by decide)) (V_pos h26 (V_and (vp_in_nI (by omega) (by decide)) (pa_476 (by simp [va_up, h1]) hl (p := s + 1) (by simp [va_up, h5, nI_1]) (by omega) h6' k)))).1
  · rw [if_pos hop]
    exact (show nr_V (O_X6_reads_363 (T_X6_reads_26 m) (O_X6_reads_26 m) (nI (δ + 1)) (nI s) (tx s) (nI t0) z g) (T_X6_reads_363 (T_X6_reads_26 m) (nI (δ + 1)) (nI s) (tx s) (nI t0) z g) w from by
      unfold O_X6_reads_363 T_X6_reads_363 nr_st
      rw [nI_clamp (by omega)]
      exact V_and (vp_in_nI (by omega) (by decide)) (V_pos h26 (V_and (vp_in_nI (by omega) (by decide)) (pa_476 (by simp [va_up, h1]) hl (p := s + 1) (by simp [va_up, h5, nI_1]) (by omega) h6' k)))).2
theorem pa_ends (c : Int32) : R_X6_endsBy c = 125 ∨ R_X6_endsBy c = 41 ∨ R_X6_endsBy c = 93 ∨ R_X6_endsBy c = 62 ∨ R_X6_endsBy c = 59 := by
  unfold R_X6_endsBy
  repeat' split
  all_goals simp
theorem pa_close {t0 : Nat} (h : pa_RS tx len s A dp rb z g) (hs : s < len) (hl : len ≤ 100) (hd : δ < 8) (ht : g 27 δ = nI t0) (ht0 : t0 < len) (hc : tx s = R_X6_endsBy (tx t0)) (hx : (¬ (tx t0 = 40 ∨ tx t0 = 91)) ∨ ¬ g 26 t0 = -1) : ∃ z', pa_RS tx len (pp_s tx len (s + 1)) A dp rb z' (va_up g 25 (upd (g 25) t0 (nI s))) ∧ pa_R (δ + 1) t0 z g z' (va_up g 25 (upd (g 25) t0 (nI s))) ∧ pa_D (nI (δ + 1)) z g (nI δ) z' (va_up g 25 (upd (g 25) t0 (nI s))) := by
  obtain ⟨h1, h2, h3, h4, h5, h6⟩ := id h
  have h6' : ∀ i, i < len → (va_up g 25 (upd (g 25) t0 (nI s))) 24 i = tx i := fun i hi => by rw [pp_up_ne _ _ (by decide)]; exact h6 i hi
  refine ⟨va_up (va_up z 25 (z 25 + 1)) 25 (nI (pp_s tx len (s + 1))), ⟨by simp [va_up, h1], by simp [va_up, h2], by simp [va_up, h3], by simp [va_up, h4], by simp [va_up], h6'⟩, (((pa_R.z ⟨by decide, by decide⟩ _).trans (pa_R.z ⟨by decide, by decide⟩ _) (Nat.le_refl _) (Nat.le_refl _)).trans (pa_R.g (Or.inr ⟨Or.inl rfl, Nat.le_refl _⟩) _) (Nat.le_refl _) (Nat.le_refl _)), 1, fun m w k => pa_it h hs hl (by omega) ?_⟩
  rw [show pa_top (δ + 1) g = nI t0 from ht]
  have hb : R_X3_beginsAct (tx s) = 0 := by rcases pa_ends (tx t0) with e | e | e | e | e <;> (rw [hc, e]; decide)
  have h47 : ¬ tx s = 47 := by rcases pa_ends (tx t0) with e | e | e | e | e <;> (rw [hc, e]; decide)
  refine pa_65n hb ht0 hl h6 (V_neg h47 (pa_395 ht0 hl h6 hc hx ?_))
  unfold O_X6_reads_450 T_X6_reads_450 nr_st
  rw [nI_clamp (by omega), pk_m1]
  exact V_and (vp_in_nI (by omega) (by decide)) (pa_476 (by simp [va_up, h1]) hl (p := s + 1) (by simp [va_up, h5, nI_1]) (by omega) h6' k)
theorem pa_bad {t0 : Nat} (h : pa_RS tx len s A dp rb z g) (hs : s < len) (hl : len ≤ 100) (hd : δ < 8) (ht : g 27 δ = nI t0) (ht0 : t0 < len) (hb : R_X3_beginsAct (tx s) = 0) (hn1 : ¬ (tx s = 47 ∧ (tx t0 = 40 ∨ tx t0 = 91) ∧ g 26 t0 = -1)) (hx : ¬ (tx s = R_X6_endsBy (tx t0) ∧ ((¬ (tx t0 = 40 ∨ tx t0 = 91)) ∨ ¬ g 26 t0 = -1))) : pa_T (nI (δ + 1)) z g (nI s, z, g) := by
  obtain ⟨h1, h2, h3, h4, h5, h6⟩ := id h
  refine ⟨1, fun m => pa_it h hs hl (by omega) ?_⟩
  rw [show pa_top (δ + 1) g = nI t0 from ht]
  have k395 : nr_V (O_X6_reads_395 (T_X6_reads_26 m) (O_X6_reads_26 m) (nI (δ + 1)) (nI s) (tx s) (nI t0) z g) (T_X6_reads_395 (T_X6_reads_26 m) (nI (δ + 1)) (nI s) (tx s) (nI t0) z g) (nI s, z, g) := pa_395f ht0 hl h6 hx
  refine pa_65n hb ht0 hl h6 ?_
  by_cases c1 : tx s = 47
  · refine V_pos c1 ?_
    by_cases c2 : tx t0 = 40 ∨ tx t0 = 91
    · refine V_pos c2 ?_
      unfold O_X6_reads_363 T_X6_reads_363
      rw [nI_clamp (by omega)]
      exact V_and (vp_in_nI (by omega) (by decide)) (V_neg (fun q => hn1 ⟨c1, c2, q⟩) k395)
    · exact V_neg c2 k395
  · exact V_neg c1 k395
theorem pa_bad0 (h : pa_RS tx len s A dp rb z g) (hs : s < len) (hl : len ≤ 100) (hb : R_X3_beginsAct (tx s) = 0) : pa_T (nI 0) z g (nI s, z, g) := by
  obtain ⟨b0, b1, b2, b3, b4, b5, b6⟩ := pa_begins hb
  refine ⟨1, fun m => pa_it h hs hl (by omega) ?_⟩
  rw [show pa_top 0 g = -1 from rfl]
  unfold O_X6_reads_65 T_X6_reads_65
  rw [pa_opens]
  refine V_pos b0 (V_neg b6 (V_neg b1 (V_neg b2 (V_neg b3 (V_neg b4 (V_neg b5 (V_pos rfl ?_)))))))
  unfold O_X6_reads_395 T_X6_reads_395
  exact V_pos rfl (V_T rfl)
theorem pa_end (h : pa_RS tx len len A dp rb z g) (hl : len ≤ 100) (hd : δ ≤ 9) : pa_T (nI δ) z g (if δ = 0 then -1 else nI len, z, g) := by
  obtain ⟨h1, h2, h3, h4, h5, h6⟩ := id h
  refine ⟨1, fun m => ?_⟩
  rw [O_X6_reads_26, T_X6_reads_26, h1, h5]
  refine V_pos (nI_le (Nat.le_refl _) (by omega)) ?_
  by_cases h0 : δ = 0
  · rw [if_pos h0]
    exact V_posT (by rw [h0]; decide) (V_T rfl)
  · rw [if_neg h0]
    exact V_negT (nI_nle (by omega) (by omega)) (V_T rfl)
end
