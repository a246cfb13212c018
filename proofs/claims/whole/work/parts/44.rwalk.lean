/-! the whole round -/
theorem up_self {α : Type} (g : Nat → α) (i : Nat) (v : α) (h : g i = v) : va_up g i v = g := by
  funext j
  unfold va_up
  by_cases hj : j = i
  · rw [if_pos hj, hj, h]
  · rw [if_neg hj]
theorem ra_fill {k0 N : Nat} (hN : nr_il k0 = N) (hN0 : 0 < N) (hN2 : N < 500) (v : Int32) (z : Nat → Int32) : ∀ (n p : Nat) (g : Nat → Nat → Int32), N < n + p → nr_V (O_J7_fill_53178_5 k0 n v (nI p) (nI N) z g) (T_J7_fill_53178_5 k0 n v (nI p) (nI N) z g) (0, z, va_up g k0 (fun i => if p ≤ i ∧ i < N then v else g k0 i)) ∨ N < p
  | 0, p, g, hn => Or.inr (by omega)
  | n + 1, p, g, hn => by
    by_cases hp9 : N < p
    · exact Or.inr hp9
    refine Or.inl ?_
    rw [O_J7_fill_53178_5, T_J7_fill_53178_5]
    by_cases hp : p = N
    · refine V_pos (by rw [hp]; exact nI_le (Nat.le_refl _) (by omega)) (V_T ?_)
      rw [up_self]
      funext i
      rw [if_neg (by omega)]
    · refine V_neg (nI_ge (by omega) (by omega)) (V_and (by omega) (V_and (by rw [hN]; exact vp_in_nI (by omega) (by omega)) ?_))
      rw [nI_1, pp_st_lit (by omega)]
      rcases ra_fill hN hN0 hN2 v z n (p + 1) (va_up g k0 (upd (g k0) p v)) (by omega) with k | k
      · refine V_w k ?_
        rw [up_up]
        congr 2
        refine congrArg (va_up g k0) ?_
        funext i
        rw [pp_up_eq]
        by_cases e : i = p
        · subst e
          rw [if_neg (by omega), pk_us, if_pos (by omega)]
        · rw [pk_un e]
          by_cases q : p ≤ i ∧ i < N
          · rw [if_pos q, if_pos (by omega)]
          · rw [if_neg q, if_neg (by omega)]
      · exact absurd k (by omega)
theorem rw_begin {h t : Nat} (hh : nr_ho h) (ht : nr_ta t) (z : Nat → Int32) (g : Nat → Nat → Int32) : ∃ fa, nr_V (O_X4_begin t z g) (T_X4_begin t z g) (0, PZ z t 0 (-1) 0, PG g h t (g (h + 1)) fa (g (t + 2))) ∧ fa 0 = 0 ∧ fa 1 = -1 ∧ fa 2 = -1 ∧ fa 3 = 0 ∧ fa 4 = 0 ∧ fa 5 = 0 ∧ fa 6 = 0 ∧ fa 7 = 0 := by
  have er : nr_rl (t + 1) = 8 := by rcases ht with rfl | rfl <;> decide
  have ei : nr_il (t + 1) = 8 := nr_il_t1 ht
  have hne := PG_ne hh ht
  rcases ra_fill ei (by decide) (by decide) 0 z 500 0 g (by decide) with k | k
  · refine ⟨pt_calm (fun i => if 0 ≤ i ∧ i < 8 then 0 else g (t + 1) i), ?_, by simp [pt_calm, upd], by simp [pt_calm, upd], by simp [pt_calm, upd], by simp [pt_calm, upd], by simp [pt_calm, upd], by simp [pt_calm, upd], by simp [pt_calm, upd], by simp [pt_calm, upd]⟩
    have ez : va_up (va_up z (t - 3) 0) (t - 1) 0 = PZ z t 0 (z (t - 2)) 0 := by
      unfold PZ
      rw [pp_up_self (va_up z (t - 3) 0) (t - 2) (z (t - 2)) (pp_up_ne _ _ hne.2.2.2.1.symm)]
    have eg : va_up g (t + 1) (fun i => if 0 ≤ i ∧ i < 8 then 0 else g (t + 1) i) = PG g h t (g (h + 1)) (fun i => if 0 ≤ i ∧ i < 8 then 0 else g (t + 1) i) (g (t + 2)) := by
      unfold PG
      rw [up_self g (h + 1) (g (h + 1)) rfl, up_self _ (t + 2) (g (t + 2)) (by rw [pp_up_ne _ _ hne.2.2.1.symm])]
    unfold O_X4_begin T_X4_begin O_J7_fill_53178 T_J7_fill_53178
    rw [er]
    have k2 : nr_V (0 < 8 ∧ O_J7_fill_53178_5 (t + 1) 500 0 0 (Int32.ofNat 8) z g) (T_J7_fill_53178_5 (t + 1) 500 0 0 (Int32.ofNat 8) z g) (0, z, va_up g (t + 1) (fun i => if 0 ≤ i ∧ i < 8 then 0 else g (t + 1) i)) := V_and (by decide) k
    refine V_K1 k2 ?_
    rw [ez, eg, cp_calm hh ht]
    exact V_T rfl
  · exact absurd k (by decide)
theorem pr_stop {ζ : Nat → Int32} {γ : Nat → Nat → Int32} (h1 : ζ 30 = 0 → ζ 21 ≤ ζ 25) (h2 : ¬ ζ 30 = 0 → ζ 35 ≤ 0) (m : Nat) : nr_V (O_X6_round_54 (m + 1) ζ γ) (T_X6_round_54 (m + 1) ζ γ) (ζ 30, ζ, γ) := by
  rw [O_X6_round_54, T_X6_round_54]
  unfold O_X6_round_165 T_X6_round_165
  by_cases e : ζ 30 = 0
  · exact V_pos e (V_pos (h1 e) (V_T rfl))
  · exact V_neg e (V_pos (h2 e) (V_T rfl))
section
variable {D : Nat → Prop} {len A : Nat} {z : Nat → Int32} {g : Nat → Nat → Int32} {h t : Nat} {ζ : Nat → Int32} {γ : Nat → Nat → Int32}
theorem rg_walk (hh : nr_ho h) (ht : nr_ta t) (hl : len ≤ 100) (hA : A ≤ 100) (h5 : z 5 = nI A) (h21 : ζ 21 = nI len) (h24 : ∀ i, i < len → γ 24 i = g 8 i) (hL : ly (g 8) len (ly_F g γ) 8 0 A 0 len) (hH : rH D (g (h + 1)) (γ 21)) (hW : rW (g (h + 1))) : ∃ n f' fa' en' wr' inn' ζ' γ', nr_V (O_X2_walk 9 h t z g) (T_X2_walk 9 h t z g) (fa' 0, PZ (va_up (va_up z 16 (nI h)) 17 (nI t)) t wr' inn' 0, PG g h t f' (upd fa' 5 (f' 57)) en') ∧ (∀ m, nr_V (O_X6_round (m + n) ζ γ) (T_X6_round (m + n) ζ γ) (fa' 0, ζ', γ')) ∧ rr D (g 8) len (γ 26) (γ 25) f' fa' en' wr' inn' 0 ζ' γ' ∧ (∀ i, i < 25 ∨ 37 < i → ζ' i = ζ i) ∧ (∀ k, ¬ (k = 21 ∨ (28 ≤ k ∧ k ≤ 32)) → γ' k = γ k) := by
  obtain ⟨fa, vb, f0, f1, f2, f3, f4, f5, f6, f7⟩ := rw_begin hh ht (va_up (va_up z 16 (nI h)) 17 (nI t)) g
  have hh31 : h < 2 ^ 31 := by rcases hh with q | q <;> omega
  have ht31 : t < 2 ^ 31 := by rcases ht with q | q <;> omega
  have E : rO (g 8) len (γ 26) (γ 25) (ly_F g γ) (va_up (va_up z 16 (nI h)) 17 (nI t)) g h t := ⟨hh, ht, by rw [pp_up_ne _ _ (by decide), pp_up_eq], pp_up_eq _ _ _, hl, rfl, rfl, rfl, rfl, rfl, rfl⟩
  generalize hz1 : va_up (va_up z 16 (nI h)) 17 (nI t) = z1 at E vb
  have z15 : z1 5 = nI A := by rw [← hz1, pp_up_ne _ _ (by decide), pp_up_ne _ _ (by decide)]; exact h5
  generalize hz0 : va_up (va_up (va_up (va_up (va_up (va_up (va_up (va_up (va_up (va_up ζ 26 (0 : Int32)) 27 (0 : Int32)) 28 (0 : Int32)) 29 (0 : Int32)) 30 (0 : Int32)) 31 (-1 : Int32)) 35 (0 : Int32)) 36 (-1 : Int32)) 37 (0 : Int32)) 25 (0 : Int32) = ζ0
  have ho : ∀ i, i < 25 ∨ 37 < i → ζ0 i = ζ i := fun i hi => by
    rw [← hz0, pp_up_ne _ _ (by omega), pp_up_ne _ _ (by omega), pp_up_ne _ _ (by omega), pp_up_ne _ _ (by omega), pp_up_ne _ _ (by omega), pp_up_ne _ _ (by omega), pp_up_ne _ _ (by omega), pp_up_ne _ _ (by omega), pp_up_ne _ _ (by omega), pp_up_ne _ _ (by omega)]
  have e21 : ζ0 21 = nI len := (ho 21 (by decide)).trans h21
  have e25 : ζ0 25 = nI 0 := by rw [← hz0, pp_up_eq]; rfl
  have e26 : ζ0 26 = 0 := by rw [← hz0]; simp [va_up]
  have e27 : ζ0 27 = 0 := by rw [← hz0]; simp [va_up]
  have e28 : ζ0 28 = 0 := by rw [← hz0]; simp [va_up]
  have e29 : ζ0 29 = 0 := by rw [← hz0]; simp [va_up]
  have e30 : ζ0 30 = 0 := by rw [← hz0]; simp [va_up]
  have e35 : ζ0 35 = 0 := by rw [← hz0]; simp [va_up]
  have e36 : ζ0 36 = -1 := by rw [← hz0]; simp [va_up]
  have e37 : ζ0 37 = 0 := by rw [← hz0]; simp [va_up]
  have hsk := pp_skip (g := γ) e21 hl (Nat.zero_le _) e25
  rw [pp_s_congr h24] at hsk
  have R0 : rr D (g 8) len (γ 26) (γ 25) (g (h + 1)) fa (g (t + 2)) 0 (-1) 0 ζ0 γ := ⟨hH, hW, ⟨by rw [e27, f4], by rw [e28, f6], by rw [e29, f7], e37⟩, ⟨0, by decide, by rw [f4]; rfl⟩, ⟨e26, 0, by decide, rfl, fun i hi => absurd hi (by omega)⟩, ⟨by rw [e30, f0], Or.inl ⟨f0, f1, f2, f3, rfl⟩⟩, e21, h24, rfl, rfl⟩
  have R1 := rr_z R0 (Or.inl rfl) (nI (pp_s (g 8) len 0))
  obtain ⟨x, f', fa', en', wr', inn', ζ', γ', v1, R2, F2, D2, p35, p36, hx⟩ := rg_lev (D := D) E 8 0 rfl 0 A 0 len (g (h + 1)) fa (g (t + 2)) 0 (-1) 0 (-1) _ γ hL hA (Nat.zero_le _) R1 f0 (pp_up_eq _ _ _) (by rw [pp_up_ne _ _ (by decide)]; exact e35) (by rw [pp_up_ne _ _ (by decide)]; exact e36) (Or.inl rfl)
  obtain ⟨n, D2⟩ := D2
  have e30' := rr_30 R2
  have stop := fun m => pr_stop (ζ := ζ') (γ := γ') (fun q => by
    rcases hx with ⟨_, _, p25⟩ | ⟨_, n0, _⟩
    · rw [rr_21 R2, p25]; exact nI_le (Nat.le_refl _) (by omega)
    · rw [e30'] at q; exact absurd q n0) (fun _ => by rw [p35]; decide) m
  refine ⟨1 + n, f', fa', en', wr', inn', ζ', γ', ?_, fun m => ?_, R2, fun i hi => ?_, F2.2.1⟩
  · unfold O_X2_walk T_X2_walk
    rw [hz1, nr_ix_nI ht31]
    refine V_and hh (V_and ht (V_and ht (V_K vb ?_)))
    have ea : R_X3_acts (PZ z1 t 0 (-1) 0) (PG g h t (g (h + 1)) fa (g (t + 2))) = nI A := by
      unfold R_X3_acts
      rw [PZ_o ht (by omega)]; exact z15
    rw [ea]
    refine V_K v1 ?_
    have es : R_X0_sum h (PZ z1 t wr' inn' 0) (PG g h t f' fa' en') = f' 57 := by
      unfold R_X0_sum
      rw [PG_h hh ht]; rfl
    have ecl : T_X4_close t (f' 57) (PZ z1 t wr' inn' 0) (PG g h t f' fa' en') = (0, PZ z1 t wr' inn' 0, PG g h t f' (upd fa' 5 (f' 57)) en') := by
      unfold T_X4_close
      rw [show (5 : Int32) = nI 5 from rfl, PG_st1 hh ht (by decide)]
    rw [rO_16 E, rO_17 E, es]
    refine V_and hh (V_and ht (V_Kn ecl ?_))
    obtain ⟨fx, fo⟩ := rO_f0 (f := f') (fa := upd fa' 5 (f' 57)) (en := en') (wr := wr') (inn := inn') (dr := 0) E
    rw [rO_17 E, fx]
    refine V_and ht (V_and fo (V_T ?_))
    rw [pk_un (by decide)]
  · unfold O_X6_round T_X6_round
    rw [hz0]
    refine V_K hsk ?_
    have k := D2 (m + 1) _ (stop m)
    rw [e30', Nat.add_assoc] at k
    exact k
  · rw [F2.1 i hi, pp_up_ne _ _ (by omega)]
    exact ho i hi
end
