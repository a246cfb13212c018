/-! the model's copying, the nights of both -/
theorem cy_row {f : Nat → Int32} {k v : Nat → Int32} {p N : Nat} (hp : p < N) : (fun i => if p + 1 ≤ i ∧ i < N then k i else upd f p (v p) i) = (fun i => if p ≤ i ∧ i < N then (if i = p then v p else k i) else f i) := by
  funext i
  by_cases e : i = p
  · subst e
    rw [if_neg (by omega), pk_us, if_pos (by omega), if_pos rfl]
  · rw [pk_un e]
    by_cases q : p ≤ i ∧ i < N
    · rw [if_pos q, if_pos (by omega), if_neg e]
    · rw [if_neg q, if_neg (by omega)]
theorem ra_keep2 (ζ : Nat → Int32) : ∀ (n p : Nat) (γ : Nat → Nat → Int32), 58 < n + p → p ≤ 58 → nr_V (O_X6_keep_2 n (nI p) ζ γ) (T_X6_keep_2 n (nI p) ζ γ) (0, ζ, va_up γ 35 (fun i => if p ≤ i ∧ i < 58 then γ 21 i else γ 35 i))
  | 0, p, γ, hn, hp => absurd hn (by omega)
  | n + 1, p, γ, hn, hp => by
    rw [O_X6_keep_2, T_X6_keep_2]
    by_cases e : p = 58
    · subst e
      refine V_pos (by decide) (V_T ?_)
      rw [up_self]
      funext i
      rw [if_neg (by omega)]
    · refine V_neg (nI_ge (a := p) (b := 58) (by omega) (by decide)) (V_and (vp_in_nI (by omega) (by decide)) (V_and (vp_in_nI (by omega) (by decide)) ?_))
      rw [nI_1, pp_st_lit (by omega), nI_clamp (by omega)]
      refine V_w (ra_keep2 ζ n (p + 1) _ (by omega) (by omega)) ?_
      rw [up_up, pp_up_eq, pp_up_ne _ _ (by decide), cy_row (v := γ 21) (by omega)]
      congr 2
      refine congrArg (va_up γ 35) ?_
      funext i
      by_cases q : p ≤ i ∧ i < 58
      · rw [if_pos q, if_pos q]
        by_cases e2 : i = p
        · rw [if_pos e2, e2]
        · rw [if_neg e2]
      · rw [if_neg q, if_neg q]
theorem ra_bring2 (ζ : Nat → Int32) : ∀ (n p : Nat) (γ : Nat → Nat → Int32), 58 < n + p → p ≤ 58 → nr_V (O_X6_bring_2 n (nI p) ζ γ) (T_X6_bring_2 n (nI p) ζ γ) (0, ζ, va_up γ 21 (fun i => if p ≤ i ∧ i < 58 then γ 35 i else γ 21 i))
  | 0, p, γ, hn, hp => absurd hn (by omega)
  | n + 1, p, γ, hn, hp => by
    rw [O_X6_bring_2, T_X6_bring_2]
    by_cases e : p = 58
    · subst e
      refine V_pos (by decide) (V_T ?_)
      rw [up_self]
      funext i
      rw [if_neg (by omega)]
    · refine V_neg (nI_ge (a := p) (b := 58) (by omega) (by decide)) (V_and (vp_in_nI (by omega) (by decide)) (V_and (vp_in_nI (by omega) (by decide)) ?_))
      rw [nI_1, pp_st_lit (by omega), nI_clamp (by omega)]
      refine V_w (ra_bring2 ζ n (p + 1) _ (by omega) (by omega)) ?_
      rw [up_up, pp_up_eq, pp_up_ne _ _ (by decide), cy_row (v := γ 35) (by omega)]
      congr 2
      refine congrArg (va_up γ 21) ?_
      funext i
      by_cases q : p ≤ i ∧ i < 58
      · rw [if_pos q, if_pos q]
        by_cases e2 : i = p
        · rw [if_pos e2, e2]
        · rw [if_neg e2]
      · rw [if_neg q, if_neg q]
theorem ra_back24 {H : Nat} (hH : H < 8) (ζ : Nat → Int32) (h20 : ζ 20 = nI H) : ∀ (n p : Nat) (γ : Nat → Nat → Int32), 58 < n + p → p ≤ 58 → nr_V (O_X6_back_24 n (nI p) ζ γ) (T_X6_back_24 n (nI p) ζ γ) (nI H, ζ, va_up γ 21 (fun i => if p ≤ i ∧ i < 58 then γ 22 (58 * H + i) else γ 21 i))
  | 0, p, γ, hn, hp => absurd hn (by omega)
  | n + 1, p, γ, hn, hp => by
    rw [O_X6_back_24, T_X6_back_24, h20]
    by_cases e : p = 58
    · subst e
      refine V_pos (by decide) (V_T ?_)
      rw [up_self]
      funext i
      rw [if_neg (by omega)]
    · have em : (58 : Int32) * nI H + nI p = nI (58 * H + p) := by
        rw [show (58 : Int32) = nI 58 from rfl, pk_mul, nI_add]
      rw [em]
      refine V_neg (nI_ge (a := p) (b := 58) (by omega) (by decide)) (V_and (vp_in_nI (by omega) (by decide)) (V_and (vp_in_nI (by omega) (by decide)) ?_))
      rw [nI_1, pp_st_lit (by omega), nI_clamp (by omega)]
      refine V_w (ra_back24 hH ζ h20 n (p + 1) _ (by omega) (by omega)) ?_
      rw [up_up, pp_up_eq, pp_up_ne _ _ (by decide), cy_row (v := fun i => γ 22 (58 * H + i)) (by omega)]
      congr 2
      refine congrArg (va_up γ 21) ?_
      funext i
      by_cases q : p ≤ i ∧ i < 58
      · rw [if_pos q, if_pos q]
        by_cases e2 : i = p
        · rw [if_pos e2, e2]
        · rw [if_neg e2]
      · rw [if_neg q, if_neg q]
theorem ra_night51 {H : Nat} (hH : H < 8) (ζ : Nat → Int32) (h20 : ζ 20 = nI H) : ∀ (n p : Nat) (γ : Nat → Nat → Int32), 58 < n + p → p ≤ 58 → nr_V (O_X6_night_51 n (nI p) ζ γ) (T_X6_night_51 n (nI p) ζ γ) (0, va_up ζ 20 (nI (H + 1)), va_up γ 22 (fun i => if 58 * H + p ≤ i ∧ i < 58 * H + 58 then γ 21 (i - 58 * H) else γ 22 i))
  | 0, p, γ, hn, hp => absurd hn (by omega)
  | n + 1, p, γ, hn, hp => by
    rw [O_X6_night_51, T_X6_night_51, h20]
    by_cases e : p = 58
    · subst e
      refine V_pos (by decide) (V_T ?_)
      rw [nI_1, up_self γ]
      funext i
      rw [if_neg (by omega)]
    · have em : (58 : Int32) * nI H + nI p = nI (58 * H + p) := by
        rw [show (58 : Int32) = nI 58 from rfl, pk_mul, nI_add]
      rw [em]
      refine V_neg (nI_ge (a := p) (b := 58) (by omega) (by decide)) (V_and (vp_in_nI (by omega) (by decide)) (V_and (vp_in_nI (by omega) (by decide)) ?_))
      rw [nI_1, pp_st_lit (by omega), nI_clamp (by omega)]
      refine V_w (ra_night51 hH ζ h20 n (p + 1) _ (by omega) (by omega)) ?_
      rw [up_up, pp_up_eq, pp_up_ne _ _ (by decide)]
      congr 2
      refine congrArg (va_up γ 22) ?_
      funext i
      by_cases e2 : i = 58 * H + p
      · rw [e2, if_neg (by omega), pk_us, if_pos (by omega)]
        congr 1; omega
      · rw [pk_un e2]
        by_cases q : 58 * H + p ≤ i ∧ i < 58 * H + 58
        · rw [if_pos q, if_pos (by omega)]
        · rw [if_neg q, if_neg (by omega)]
theorem ra_night11 (ζ : Nat → Int32) {v : Int32 × nr_S} {M : Nat} (hM : M = 500) : ∀ (n p : Nat) (γ : Nat → Nat → Int32), 406 < n + p → p ≤ 406 → nr_V (O_X6_night_51 M 0 (va_up ζ 20 (ζ 20 - 1)) (va_up γ 22 (fun i => if p ≤ i ∧ i < 406 then γ 22 (i + 58) else γ 22 i))) (T_X6_night_51 M 0 (va_up ζ 20 (ζ 20 - 1)) (va_up γ 22 (fun i => if p ≤ i ∧ i < 406 then γ 22 (i + 58) else γ 22 i))) v → nr_V (O_X6_night_11 n (nI p) ζ γ) (T_X6_night_11 n (nI p) ζ γ) v := by
  intro n
  induction n with
  | zero => intro p γ hn hp hv; omega
  | succ n ih =>
    intro p γ hn hp hv
    rw [O_X6_night_11, T_X6_night_11, ← hM]
    by_cases e : p = 406
    · subst e
      rw [up_self γ 22 _ (by funext i; rw [if_neg (by omega)])] at hv
      exact V_pos (by decide) hv
    · have em : nI p + (58 : Int32) = nI (p + 58) := by rw [show (58 : Int32) = nI 58 from rfl, nI_add]
      rw [em]
      refine V_neg (nI_ge (a := p) (b := 406) (by omega) (by decide)) (V_and (vp_in_nI (by omega) (by decide)) (V_and (vp_in_nI (by omega) (by decide)) ?_))
      rw [nI_1, pp_st_lit (by omega), nI_clamp (by omega)]
      refine ih (p + 1) _ (by omega) (by omega) ?_
      have er : va_up (va_up γ 22 (upd (γ 22) p (γ 22 (p + 58)))) 22 (fun i => if p + 1 ≤ i ∧ i < 406 then va_up γ 22 (upd (γ 22) p (γ 22 (p + 58))) 22 (i + 58) else va_up γ 22 (upd (γ 22) p (γ 22 (p + 58))) 22 i) = va_up γ 22 (fun i => if p ≤ i ∧ i < 406 then γ 22 (i + 58) else γ 22 i) := by
        rw [up_up, pp_up_eq]
        refine congrArg (va_up γ 22) ?_
        funext i
        by_cases e2 : i = p
        · rw [e2, if_neg (by omega), pk_us, if_pos (by omega)]
        · rw [pk_un e2]
          by_cases q : p ≤ i ∧ i < 406
          · rw [if_pos q, if_pos (by omega), pk_un (by omega)]
          · rw [if_neg q, if_neg (by omega)]
      rw [er]
      exact hv
/-! the nights -/
theorem rW_congr {f k : Nat → Int32} (h : ∀ i, i < 58 → k i = f i) (hf : rW f) : rW k := by
  obtain ⟨a, b, j, c, e⟩ := hf
  refine ⟨fun r w hr hw => by rw [h _ (by omega)]; exact a r w hr hw, fun r hr q => ?_, j, c, by rw [h 56 (by decide)]; exact e⟩
  rw [h _ (by omega)] at q ⊢
  exact b r hr q
def iN (p P : Nat → Int32) (H : Nat) : Prop := ∀ j, j < H → (∀ i, i < 58 → P (58 * j + i) = p (58 * j + i)) ∧ rW (fun i => p (58 * j + i))
theorem iv_keep {z ζ : Nat → Int32} {g γ : Nat → Nat → Int32} {H : Nat} (hH : H ≤ 8) (h3 : z 3 = nI H) (h20 : ζ 20 = nI H) (hN : iN (g 6) (γ 22) H) (hE : ∀ i, i < 58 → γ 21 i = g 2 i) (hW : rW (g 2)) : ∃ p P H', H' ≤ 8 ∧ nr_V (O_X1_keep z g) (T_X1_keep z g) (0, va_up z 3 (nI H'), va_up g 6 p) ∧ nr_V (O_X6_night ζ γ) (T_X6_night ζ γ) (0, va_up ζ 20 (nI H'), va_up γ 22 P) ∧ iN p P H' := by
  have k37 : ∀ (z : Nat → Int32) (g : Nat → Nat → Int32) (J : Nat), J < 8 → z 3 = nI J → nr_V (O_X1_keep_37 z g) (T_X1_keep_37 z g) (0, va_up z 3 (nI (J + 1)), va_up g 6 (va_cpy (g 2) (g 6) 0 (58 * J) 58)) := by
    intro z g J hJ hz
    have em : nI J * (58 : Int32) = nI (58 * J) := by rw [show (58 : Int32) = nI 58 from rfl, pk_mul, Nat.mul_comm]
    unfold O_X1_keep_37 T_X1_keep_37 nr_cp
    rw [hz, em, nI_1, nI_clamp (by omega), show (58 : Int32) = nI 58 from rfl, nI_clamp (by decide), show (0 : Int32) = nI 0 from rfl, nI_clamp (by decide)]
    exact V_and (nI_pos (by omega)) (V_and (by omega) (V_T rfl))
  by_cases h8 : H = 8
  · subst h8
    refine ⟨va_cpy (g 2) (va_cpy (g 6) (g 6) 58 0 406) 0 (58 * 7) 58, fun i => if 58 * 7 + 0 ≤ i ∧ i < 58 * 7 + 58 then γ 21 (i - 58 * 7) else (if 0 ≤ i ∧ i < 406 then γ 22 (i + 58) else γ 22 i), 8, Nat.le_refl _, ?_, ?_, ?_⟩
    · unfold O_X1_keep T_X1_keep
      rw [h3]
      refine V_neg (by decide) (V_and (by decide) (V_and (by decide) (V_and (by decide) (V_w (k37 (va_up z 3 7) _ 7 (by decide) (pp_up_eq _ _ _)) ?_))))
      unfold nr_cp
      rw [pp_up_up, up_up, pp_up_eq, pp_up_ne _ _ (by decide)]
      rfl
    · unfold O_X6_night T_X6_night
      rw [h20]
      refine V_pos (by decide) (ra_night11 ζ rfl 500 0 γ (by decide) (by decide) ?_)
      refine V_w (ra_night51 (H := 7) (by decide) (va_up ζ 20 (ζ 20 - 1)) (by rw [pp_up_eq, h20]; decide) 500 0 _ (by decide) (by decide)) ?_
      rw [pp_up_up, up_up, pp_up_eq, pp_up_ne _ _ (by decide)]
    · intro j hj
      by_cases e : j = 7
      · subst e
        refine ⟨fun i hi => ?_, rW_congr (fun i hi => ?_) hW⟩
        · dsimp only
          rw [if_pos (by omega), pk_cpy_in (by omega) (by omega), hE _ (by omega)]
          exact congrArg (g 2) (by omega)
        · skip
          rw [pk_cpy_in (by omega) (by omega)]
          exact congrArg (g 2) (by omega)
      · obtain ⟨a, b⟩ := hN (j + 1) (by omega)
        refine ⟨fun i hi => ?_, rW_congr (fun i hi => ?_) b⟩
        · dsimp only
          rw [if_neg (by omega), if_pos (by omega), pk_cpy_out (by omega), pk_cpy_in (by omega) (by omega)]
          have := a i hi
          rw [show 58 * (j + 1) + i = 58 * j + i + 58 by omega] at this
          rw [this]
          exact congrArg (g 6) (by omega)
        · skip
          rw [pk_cpy_out (by omega), pk_cpy_in (by omega) (by omega)]
          exact congrArg (g 6) (by omega)
  · refine ⟨va_cpy (g 2) (g 6) 0 (58 * H) 58, fun i => if 58 * H + 0 ≤ i ∧ i < 58 * H + 58 then γ 21 (i - 58 * H) else γ 22 i, H + 1, by omega, ?_, ?_, ?_⟩
    · unfold O_X1_keep T_X1_keep
      exact V_pos (by rw [h3]; exact nI_lt (b := 8) (by omega) (by decide)) (k37 z g H (by omega) h3)
    · unfold O_X6_night T_X6_night
      refine V_neg (by rw [h20]; exact fun q => h8 ((nI_eq (b := 8) (by omega) (by decide)).mp q)) (ra_night51 (by omega) ζ h20 500 0 γ (by decide) (by decide))
    · intro j hj
      by_cases e : j = H
      · subst e
        refine ⟨fun i hi => ?_, rW_congr (fun i hi => ?_) hW⟩
        · dsimp only
          rw [if_pos (by omega), pk_cpy_in (by omega) (by omega), hE _ (by omega)]
          exact congrArg (g 2) (by omega)
        · skip
          rw [pk_cpy_in (by omega) (by omega)]
          exact congrArg (g 2) (by omega)
      · obtain ⟨a, b⟩ := hN j (by omega)
        refine ⟨fun i hi => ?_, rW_congr (fun i hi => ?_) b⟩
        · dsimp only
          rw [if_neg (by omega), pk_cpy_out (by omega)]
          exact a i hi
        · skip
          rw [pk_cpy_out (by omega)]
