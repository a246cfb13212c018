/-! the model's house, read beside the porter's; its round by turns -/
theorem ra_at {r w : Nat} (hr : r < 8) (hw : w < 7) (ζ : Nat → Int32) (γ : Nat → Nat → Int32) : R_X6_at (nI r) (nI w) ζ γ = γ 21 (7 * r + w) ∧ O_X6_at (nI r) (nI w) ζ γ := by
  have e : 7 * nI r + nI w = nI (7 * r + w) := by
    rw [show (7 : Int32) = nI 7 from rfl, pk_mul, nI_add]
  unfold R_X6_at O_X6_at
  rw [e, nI_clamp (by omega)]
  exact ⟨rfl, vp_in_nI (by omega) (by decide), trivial⟩
theorem ra_put {r w : Nat} (hr : r < 8) (hw : w < 7) (v : Int32) (ζ : Nat → Int32) (γ : Nat → Nat → Int32) : nr_V (O_X6_put (nI r) (nI w) v ζ γ) (T_X6_put (nI r) (nI w) v ζ γ) (0, ζ, va_up γ 21 (upd (γ 21) (7 * r + w) v)) := by
  have e : 7 * nI r + nI w = nI (7 * r + w) := by
    rw [show (7 : Int32) = nI 7 from rfl, pk_mul, nI_add]
  unfold O_X6_put T_X6_put
  rw [e]
  refine V_and (vp_in_nI (by omega) (by decide)) (V_T ?_)
  rw [pp_st_lit (by omega)]
section
variable {D : Nat → Prop} {tx : Nat → Int32} {len : Nat} {SL EN : Nat → Int32} {f fa en : Nat → Int32} {wr inn dr : Int32} {ζ : Nat → Int32} {γ : Nat → Nat → Int32} {r : Nat}
theorem ra_c (h : rr D tx len SL EN f fa en wr inn dr ζ γ) (hr : r < 8) {w : Nat} (hw : w < 7) (h4 : w ≠ 4) : R_X6_at (nI r) (nI w) ζ γ = f (7 * r + w) ∧ O_X6_at (nI r) (nI w) ζ γ := by
  obtain ⟨a, b⟩ := ra_at hr hw ζ γ
  rw [a, rH_at h.1 (by omega) (fun r1 h1 e => by omega)]
  exact ⟨rfl, b⟩
theorem rr_57 (h : rr D tx len SL EN f fa en wr inn dr ζ γ) : γ 21 57 = f 57 := rH_at h.1 (by omega) (fun r1 h1 e => by omega)
theorem rr_56 (h : rr D tx len SL EN f fa en wr inn dr ζ γ) : γ 21 56 = f 56 := rH_at h.1 (by omega) (fun r1 h1 e => by omega)
theorem ra_asl (h : rr D tx len SL EN f fa en wr inn dr ζ γ) (hr : r < 8) : (R_X6_isAsleep (nI r) ζ γ = 0 ↔ pl_slp f r = 0) ∧ O_X6_isAsleep (nI r) ζ γ ∧ (¬ pl_slp f r = 0 → f (7 * r + 3) = pl_slp f r ∧ ¬ f (7 * r + 3) = 0) := by
  obtain ⟨a3, b3⟩ := ra_c h hr (w := 3) (by decide) (by decide)
  obtain ⟨a4, b4⟩ := ra_at hr (w := 4) (by decide) ζ γ
  have a3' : R_X6_at (nI r) 3 ζ γ = f (7 * r + 3) := a3
  have b3' : O_X6_at (nI r) 3 ζ γ := b3
  have a4' : R_X6_at (nI r) 4 ζ γ = γ 21 (7 * r + 4) := a4
  have b4' : O_X6_at (nI r) 4 ζ γ := b4
  obtain ⟨k, k1, k2⟩ := h.2.1.1 r 3 hr (by decide)
  unfold R_X6_isAsleep O_X6_isAsleep pl_slp
  rw [a3', a4', k2]
  by_cases k0 : k = 0
  · subst k0
    rw [if_pos (by decide)]
    refine ⟨⟨fun _ => ?_, fun _ => rfl⟩, ⟨b3', fun _ => trivial, fun q => absurd (by decide) q⟩, fun q => ?_⟩
    · split <;> rfl
    · exact absurd (by split <;> rfl) q
  · have n0 : ¬ nI k ≤ 0 := nI_nle (by omega) (by omega)
    have n1 : ¬ nI k = 0 := nI_ne0 (by omega) (by omega)
    have e4 : γ 21 (7 * r + 4) = f (7 * r + 4) := rH_at h.1 (by omega) (fun r1 h1 e => by
      have : r1 = r := by omega
      rw [this, k2]; exact n1)
    rw [if_neg n0, e4]
    by_cases q4 : f (7 * r + 4) = 0
    · rw [if_pos q4, if_pos q4]
      exact ⟨⟨fun q => absurd q (by decide), fun q => absurd q n1⟩, ⟨b3', fun q => absurd q n0, fun _ => ⟨b4', trivial⟩⟩, fun _ => ⟨rfl, n1⟩⟩
    · rw [if_neg q4, if_neg q4]
      exact ⟨⟨fun _ => rfl, fun _ => rfl⟩, ⟨b3', fun q => absurd q n0, fun _ => ⟨b4', trivial⟩⟩, fun q => absurd rfl q⟩
theorem ra_loud (h : rr D tx len SL EN f fa en wr inn dr ζ γ) (hr : r < 8) : R_X6_loud (nI r) ζ γ = pl_loud (f (7 * r)) (f (7 * r + 6)) ∧ O_X6_loud (nI r) ζ γ := by
  obtain ⟨a0, b0⟩ := ra_c h hr (w := 0) (by decide) (by decide)
  obtain ⟨a6, b6⟩ := ra_c h hr (w := 6) (by decide) (by decide)
  have a0' : R_X6_at (nI r) 0 ζ γ = f (7 * r) := a0
  have a6' : R_X6_at (nI r) 6 ζ γ = f (7 * r + 6) := a6
  obtain ⟨k, k1, k2⟩ := h.2.1.1 r 0 hr (by decide)
  have k2' : f (7 * r) = nI k := k2
  unfold R_X6_loud O_X6_loud R_X6_loudAs pl_loud
  rw [a0', a6', k2']
  refine ⟨?_, b0, b6, trivial⟩
  rcases (show k = 0 ∨ k = 1 ∨ k = 2 ∨ k = 3 ∨ k = 4 by omega) with rfl | rfl | rfl | rfl | rfl
  · rw [if_pos (by decide), if_neg (by decide), if_neg (by decide), if_neg (by decide), if_neg (by decide)]
  · rw [if_neg (by decide), if_pos (by decide), if_pos (by decide)]
  · rw [if_neg (by decide), if_neg (by decide), if_pos (by decide), if_neg (by decide), if_pos (by decide)]
  · rw [if_neg (show ¬ nI 3 = 0 by decide), if_neg (show ¬ nI 3 = 1 by decide), if_neg (show ¬ nI 3 = 2 by decide), if_pos (show nI 3 = 3 by decide), if_neg (show ¬ nI 3 = 1 by decide), if_neg (show ¬ nI 3 = 2 by decide), if_pos (show nI 3 = 3 by decide)]
  · rw [if_neg (by decide), if_neg (by decide), if_neg (by decide), if_neg (by decide), if_neg (by decide), if_neg (by decide), if_neg (by decide), if_pos (by decide)]
theorem ra_keys : ∀ k, k < 8 → ∀ l, l < 4 → l ≠ 0 → ((nI (2 * k) &&& ((1 : Int32) <<< (nI l &&& 31))) = 0 ↔ ((nI (2 * k) >>> (nI l &&& 31)) &&& (1 : Int32)) = 0) := by decide
end
/-! turns -/
def pr_D (ζ : Nat → Int32) (γ : Nat → Nat → Int32) (ζ' : Nat → Int32) (γ' : Nat → Nat → Int32) : Prop := ∃ n, ∀ m w, nr_V (O_X6_round_54 m ζ' γ') (T_X6_round_54 m ζ' γ') w → nr_V (O_X6_round_54 (m + n) ζ γ) (T_X6_round_54 (m + n) ζ γ) w
theorem pr_D.refl (ζ : Nat → Int32) (γ : Nat → Nat → Int32) : pr_D ζ γ ζ γ := ⟨0, fun _ _ h => h⟩
theorem pr_D.trans {ζ ζ1 ζ2 : Nat → Int32} {γ γ1 γ2 : Nat → Nat → Int32} (h1 : pr_D ζ γ ζ1 γ1) (h2 : pr_D ζ1 γ1 ζ2 γ2) : pr_D ζ γ ζ2 γ2 := by
  obtain ⟨n1, h1⟩ := h1
  obtain ⟨n2, h2⟩ := h2
  exact ⟨n2 + n1, fun m w h => by rw [← Nat.add_assoc]; exact h1 _ _ (h2 _ _ h)⟩
section
variable {tx : Nat → Int32} {len : Nat} {ζ ζ1 : Nat → Int32} {γ γ1 : Nat → Nat → Int32}
theorem pr_158 {kT : (Nat → Int32) → (Nat → Nat → Int32) → Int32 × nr_S} {kO : (Nat → Int32) → (Nat → Nat → Int32) → Prop} {p : Nat} {w : Int32 × nr_S} (h1 : ζ 21 = nI len) (hl : len ≤ 100) (h5 : ζ 25 = nI p) (hp : p ≤ len) (h6 : ∀ i, i < len → γ 24 i = tx i) (k : nr_V (kO (va_up ζ 25 (nI (pp_s tx len p))) γ) (kT (va_up ζ 25 (nI (pp_s tx len p))) γ) w) : nr_V (O_X6_round_158 kT kO ζ γ) (T_X6_round_158 kT ζ γ) w := by
  unfold O_X6_round_158 T_X6_round_158
  have e := pp_skip (g := γ) h1 hl hp h5
  rw [pp_s_congr h6] at e
  exact V_K e k
def pr_dl (c : Int32) : Prop := c = 47 ∨ c = 125 ∨ c = 41 ∨ c = 93 ∨ c = 62 ∨ c = 59
theorem pr_begin {s p1 : Nat} (hl : len ≤ 100) (h21 : ζ 21 = nI len) (h24 : ∀ i, i < len → γ 24 i = tx i) (h30 : ζ 30 = 0) (h25 : ζ 25 = nI s) (hs : s < len) (hc : ¬ pr_dl (tx s)) (hb : nr_V (O_X6_begins (nI s) ζ γ) (T_X6_begins (nI s) ζ γ) (0, ζ1, γ1)) (k21 : ζ1 21 = nI len) (k24 : ∀ i, i < len → γ1 24 i = tx i) (k25 : ζ1 25 = nI p1) (hp1 : p1 ≤ len) : pr_D ζ γ (va_up ζ1 25 (nI (pp_s tx len p1))) γ1 := by
  refine ⟨1, fun m w k => ?_⟩
  have ns : ∀ c : Int32, (c = 47 ∨ c = 125 ∨ c = 41 ∨ c = 93 ∨ c = 62 ∨ c = 59) → ¬ tx s = c := fun c h e => hc (e ▸ h)
  rw [O_X6_round_54, T_X6_round_54, h21, h25]
  refine V_pos h30 (V_neg (nI_ge hs (by omega)) ?_)
  unfold O_X6_round_82 T_X6_round_82
  rw [h25, nI_clamp (by omega), h24 s hs]
  exact V_pos h30 (V_and (vp_in_nI (by omega) (by decide)) (V_neg (ns 47 (by simp)) (V_neg (ns 125 (by simp)) (V_neg (ns 41 (by simp)) (V_neg (ns 93 (by simp)) (V_neg (ns 62 (by simp)) (V_neg (ns 59 (by simp)) (V_K hb (pr_158 k21 hl k25 hp1 k24 k)))))))))
theorem pr_end {s p1 : Nat} (hl : len ≤ 100) (h21 : ζ 21 = nI len) (h24 : ∀ i, i < len → γ 24 i = tx i) (h30 : ζ 30 = 0) (h25 : ζ 25 = nI s) (hs : s < len) (hc : pr_dl (tx s)) (hb : nr_V (O_X6_endsAt (tx s) ζ γ) (T_X6_endsAt (tx s) ζ γ) (0, ζ1, γ1)) (k21 : ζ1 21 = nI len) (k24 : ∀ i, i < len → γ1 24 i = tx i) (k25 : ζ1 25 = nI p1) (hp1 : p1 ≤ len) : pr_D ζ γ (va_up ζ1 25 (nI (pp_s tx len p1))) γ1 := by
  refine ⟨1, fun m w k => ?_⟩
  have k142 : nr_V (O_X6_round_142 (T_X6_round_54 m) (O_X6_round_54 m) (tx s) ζ γ) (T_X6_round_142 (T_X6_round_54 m) (tx s) ζ γ) w := by
    unfold O_X6_round_142 T_X6_round_142
    exact V_K hb (pr_158 k21 hl k25 hp1 k24 k)
  rw [O_X6_round_54, T_X6_round_54, h21, h25]
  refine V_pos h30 (V_neg (nI_ge hs (by omega)) ?_)
  unfold O_X6_round_82 T_X6_round_82
  rw [h25, nI_clamp (by omega), h24 s hs]
  refine V_pos h30 (V_and (vp_in_nI (by omega) (by decide)) ?_)
  rcases hc with e | e | e | e | e | e
  · exact V_pos e k142
  · exact V_neg (by rw [e]; decide) (V_pos e k142)
  · exact V_neg (by rw [e]; decide) (V_neg (by rw [e]; decide) (V_pos e k142))
  · exact V_neg (by rw [e]; decide) (V_neg (by rw [e]; decide) (V_neg (by rw [e]; decide) (V_pos e k142)))
  · exact V_neg (by rw [e]; decide) (V_neg (by rw [e]; decide) (V_neg (by rw [e]; decide) (V_neg (by rw [e]; decide) (V_pos e k142))))
  · exact V_neg (by rw [e]; decide) (V_neg (by rw [e]; decide) (V_neg (by rw [e]; decide) (V_neg (by rw [e]; decide) (V_neg (by rw [e]; decide) (V_pos e k142)))))
theorem pr_down {δ p1 : Nat} (hl : len ≤ 100) (h30 : ¬ ζ 30 = 0) (h35 : ζ 35 = nI (δ + 1)) (hd : δ < 9) (hb : nr_V (O_X6_goesDown ζ γ) (T_X6_goesDown ζ γ) (0, ζ1, γ1)) (k21 : ζ1 21 = nI len) (k24 : ∀ i, i < len → γ1 24 i = tx i) (k25 : ζ1 25 = nI p1) (hp1 : p1 ≤ len) : pr_D ζ γ (va_up ζ1 25 (nI (pp_s tx len p1))) γ1 := by
  refine ⟨1, fun m w k => ?_⟩
  rw [O_X6_round_54, T_X6_round_54, h35]
  refine V_neg h30 (V_neg (nI_nle (by omega) (by omega)) ?_)
  unfold O_X6_round_82 T_X6_round_82
  exact V_neg h30 (V_K hb (pr_158 k21 hl k25 hp1 k24 k))
end
