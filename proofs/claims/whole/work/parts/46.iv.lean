/-! what holds between two calls: the class's half in z, g; the model's in ζ, γ -/
def iv_H (g γ : Nat → Nat → Int32) : Prop := (∀ i, i < 58 → γ 21 i = g 2 i) ∧ rW (g 2)
def iv_N (z : Nat → Int32) (g : Nat → Nat → Int32) (ζ : Nat → Int32) (γ : Nat → Nat → Int32) : Prop := ∃ H, H ≤ 8 ∧ z 3 = nI H ∧ ζ 20 = nI H ∧ iN (g 6) (γ 22) H
def iv_R (z : Nat → Int32) (γ : Nat → Nat → Int32) : Prop := γ 23 0 = z 0 ∧ γ 23 1 = z 1 ∧ γ 23 2 = z 2
def iv_T (z : Nat → Int32) (g : Nat → Nat → Int32) (ζ : Nat → Int32) (γ : Nat → Nat → Int32) : Prop := ∃ len, len ≤ 100 ∧ z 4 = nI len ∧ ζ 21 = nI len ∧ (∀ i, i < len → γ 24 i = g 8 i) ∧ ∀ i, i < len → ¬ g 8 i = -1
def iv_L (z : Nat → Int32) (g : Nat → Nat → Int32) (ζ : Nat → Int32) (γ : Nat → Nat → Int32) : Prop := z 12 = 0 ∧ ζ 38 = z 11 ∧ ζ 39 = z 10 ∧ (∃ w, w ≤ 150 ∧ z 10 = nI w ∧ ∀ i, i < w → γ 34 i = g 15 i) ∧ ((ζ 40 = 0 ∧ g 14 0 = 0 ∧ g 14 1 = -1 ∧ g 14 2 = -1 ∧ ∀ i, 3 ≤ i → i < 8 → g 14 i = 0) ∨ (¬ ζ 40 = 0 ∧ ∀ i, i < 8 → γ 33 i = g 14 i))
def iv (z : Nat → Int32) (g : Nat → Nat → Int32) (ζ : Nat → Int32) (γ : Nat → Nat → Int32) : Prop := iv_H g γ ∧ iv_N z g ζ γ ∧ iv_R z γ ∧ iv_T z g ζ γ ∧ iv_L z g ζ γ
def cF (z : Nat → Int32) (g : Nat → Nat → Int32) (z' : Nat → Int32) (g' : Nat → Nat → Int32) : Prop := (∀ i, 20 ≤ i → z' i = z i) ∧ ∀ k, 20 ≤ k → g' k = g k
def mF (z : Nat → Int32) (g : Nat → Nat → Int32) (z' : Nat → Int32) (g' : Nat → Nat → Int32) : Prop := (∀ i, i < 20 → z' i = z i) ∧ ∀ k, k < 20 → g' k = g k
def iJ (O5 : (Nat → Int32) → (Nat → Nat → Int32) → Prop) (T5 : (Nat → Int32) → (Nat → Nat → Int32) → Int32 × nr_S) (O6 : Nat → (Nat → Int32) → (Nat → Nat → Int32) → Prop) (T6 : Nat → (Nat → Int32) → (Nat → Nat → Int32) → Int32 × nr_S) : Prop := ∀ z g ζ γ, iv z g ζ γ → ∃ n x z' g' ζ' γ', nr_V (O5 z g) (T5 z g) (x, z', g') ∧ (∀ m, nr_V (O6 (m + n) ζ γ) (T6 (m + n) ζ γ) (x, ζ', γ')) ∧ iv z' g' ζ' γ' ∧ cF z g z' g' ∧ mF ζ γ ζ' γ'
section
variable {z ζ z' ζ' : Nat → Int32} {g γ g' γ' : Nat → Nat → Int32}
theorem cF.refl (z : Nat → Int32) (g : Nat → Nat → Int32) : cF z g z g := ⟨fun _ _ => rfl, fun _ _ => rfl⟩
theorem mF.refl (z : Nat → Int32) (g : Nat → Nat → Int32) : mF z g z g := ⟨fun _ _ => rfl, fun _ _ => rfl⟩
theorem cF.trans {z2 : Nat → Int32} {g2 : Nat → Nat → Int32} (h1 : cF z g z' g') (h2 : cF z' g' z2 g2) : cF z g z2 g2 := ⟨fun i hi => (h2.1 i hi).trans (h1.1 i hi), fun k hk => (h2.2 k hk).trans (h1.2 k hk)⟩
theorem mF.trans {z2 : Nat → Int32} {g2 : Nat → Nat → Int32} (h1 : mF z g z' g') (h2 : mF z' g' z2 g2) : mF z g z2 g2 := ⟨fun i hi => (h2.1 i hi).trans (h1.1 i hi), fun k hk => (h2.2 k hk).trans (h1.2 k hk)⟩
theorem cF.up1 {i : Nat} (hi : i < 20) (v : Int32) : cF z g (va_up z i v) g := ⟨fun j hj => pp_up_ne _ _ (by omega), fun _ _ => rfl⟩
theorem cF.up2 {i : Nat} (hi : i < 20) (v : Nat → Int32) : cF z g z (va_up g i v) := ⟨fun _ _ => rfl, fun j hj => pp_up_ne _ _ (by omega)⟩
theorem mF.up1 {i : Nat} (hi : 20 ≤ i) (v : Int32) : mF z g (va_up z i v) g := ⟨fun j hj => pp_up_ne _ _ (by omega), fun _ _ => rfl⟩
theorem mF.up2 {i : Nat} (hi : 20 ≤ i) (v : Nat → Int32) : mF z g z (va_up g i v) := ⟨fun _ _ => rfl, fun j hj => pp_up_ne _ _ (by omega)⟩
/-- what of the halves counts -/
theorem iv_cong (h : iv z g ζ γ) (h1 : ∀ i, i < 13 → ¬ (5 ≤ i ∧ i ≤ 9) → z' i = z i) (h2 : ∀ k, k = 2 ∨ k = 6 ∨ k = 8 ∨ k = 14 ∨ k = 15 → g' k = g k) (h3 : ∀ i, i = 20 ∨ i = 21 ∨ (38 ≤ i ∧ i ≤ 40) → ζ' i = ζ i) (h4 : ∀ k, (21 ≤ k ∧ k ≤ 24) ∨ k = 33 ∨ k = 34 → γ' k = γ k) : iv z' g' ζ' γ' := by
  obtain ⟨a, ⟨H, b1, b2, b3, b4⟩, ⟨c1, c2, c3⟩, ⟨len, d1, d2, d3, d4, d5⟩, e1, e2, e3, ⟨w, e4, e5, e6⟩, e7⟩ := h
  refine ⟨?_, ⟨H, b1, by rw [h1 3 (by decide) (by decide)]; exact b2, by rw [h3 20 (by decide)]; exact b3, by rw [h2 6 (by decide), h4 22 (by decide)]; exact b4⟩, ⟨?_, ?_, ?_⟩, ⟨len, d1, by rw [h1 4 (by decide) (by decide)]; exact d2, by rw [h3 21 (by decide)]; exact d3, by rw [h2 8 (by decide), h4 24 (by decide)]; exact d4, by rw [h2 8 (by decide)]; exact d5⟩, by rw [h1 12 (by decide) (by decide)]; exact e1, by rw [h3 38 (by decide), h1 11 (by decide) (by decide)]; exact e2, by rw [h3 39 (by decide), h1 10 (by decide) (by decide)]; exact e3, ⟨w, e4, by rw [h1 10 (by decide) (by decide)]; exact e5, by rw [h2 15 (by decide), h4 34 (by decide)]; exact e6⟩, by rw [h3 40 (by decide), h2 14 (by decide), h4 33 (by decide)]; exact e7⟩
  · unfold iv_H
    rw [h2 2 (by decide), h4 21 (by decide)]; exact a
  · rw [h4 23 (by decide), h1 0 (by decide) (by decide)]; exact c1
  · rw [h4 23 (by decide), h1 1 (by decide) (by decide)]; exact c2
  · rw [h4 23 (by decide), h1 2 (by decide) (by decide)]; exact c3
theorem iv_h (h : iv z g ζ γ) {f k : Nat → Int32} (h1 : ∀ i, i < 58 → k i = f i) (h2 : rW f) : iv z (va_up g 2 f) ζ (va_up γ 21 k) := by
  obtain ⟨a, ⟨H, b1, b2, b3, b4⟩, c, ⟨len, d1, d2, d3, d4, d5⟩, e1, e2, e3, ⟨w, e4, e5, e6⟩, e7⟩ := h
  refine ⟨?_, ⟨H, b1, b2, b3, by rw [pp_up_ne _ _ (by decide), pp_up_ne _ _ (by decide)]; exact b4⟩, ?_, ⟨len, d1, d2, d3, by rw [pp_up_ne _ _ (by decide), pp_up_ne _ _ (by decide)]; exact d4, by rw [pp_up_ne _ _ (by decide)]; exact d5⟩, e1, e2, e3, ⟨w, e4, e5, by rw [pp_up_ne _ _ (by decide), pp_up_ne _ _ (by decide)]; exact e6⟩, by rw [pp_up_ne _ _ (by decide), pp_up_ne _ _ (by decide)]; exact e7⟩
  · unfold iv_H
    rw [pp_up_eq, pp_up_eq]; exact ⟨h1, h2⟩
  · unfold iv_R
    rw [pp_up_ne _ _ (by decide)]; exact c
theorem iv_n (h : iv z g ζ γ) {p P : Nat → Int32} {H : Nat} (hH : H ≤ 8) (h1 : iN p P H) : iv (va_up z 3 (nI H)) (va_up g 6 p) (va_up ζ 20 (nI H)) (va_up γ 22 P) := by
  obtain ⟨a, b, ⟨c1, c2, c3⟩, ⟨len, d1, d2, d3, d4, d5⟩, e1, e2, e3, ⟨w, e4, e5, e6⟩, e7⟩ := h
  refine ⟨?_, ⟨H, hH, pp_up_eq _ _ _, pp_up_eq _ _ _, by rw [pp_up_eq, pp_up_eq]; exact h1⟩, ?_, ⟨len, d1, by rw [pp_up_ne _ _ (by decide)]; exact d2, by rw [pp_up_ne _ _ (by decide)]; exact d3, by rw [pp_up_ne _ _ (by decide), pp_up_ne _ _ (by decide)]; exact d4, by rw [pp_up_ne _ _ (by decide)]; exact d5⟩, by rw [pp_up_ne _ _ (by decide)]; exact e1, by rw [pp_up_ne _ _ (by decide), pp_up_ne _ _ (by decide)]; exact e2, by rw [pp_up_ne _ _ (by decide), pp_up_ne _ _ (by decide)]; exact e3, ⟨w, e4, by rw [pp_up_ne _ _ (by decide)]; exact e5, by rw [pp_up_ne _ _ (by decide), pp_up_ne _ _ (by decide)]; exact e6⟩, by rw [pp_up_ne _ _ (by decide), pp_up_ne _ _ (by decide), pp_up_ne _ _ (by decide)]; exact e7⟩
  · unfold iv_H
    rw [pp_up_ne _ _ (by decide), pp_up_ne _ _ (by decide)]; exact a
  · exact ⟨by rw [pp_up_ne _ _ (by decide), pp_up_ne _ _ (by decide)]; exact c1, by rw [pp_up_ne _ _ (by decide), pp_up_ne _ _ (by decide)]; exact c2, by rw [pp_up_ne _ _ (by decide), pp_up_ne _ _ (by decide)]; exact c3⟩
theorem iv_r (h : iv z g ζ γ) {i : Nat} (hi : i < 3) (v : Int32) : iv (va_up z i v) g ζ (va_up γ 23 (upd (γ 23) i v)) := by
  obtain ⟨a, ⟨H, b1, b2, b3, b4⟩, ⟨c1, c2, c3⟩, ⟨len, d1, d2, d3, d4, d5⟩, e1, e2, e3, ⟨w, e4, e5, e6⟩, e7⟩ := h
  refine ⟨?_, ⟨H, b1, by rw [pp_up_ne _ _ (by omega)]; exact b2, b3, by rw [pp_up_ne _ _ (by decide)]; exact b4⟩, ?_, ⟨len, d1, by rw [pp_up_ne _ _ (by omega)]; exact d2, d3, by rw [pp_up_ne _ _ (by decide)]; exact d4, d5⟩, by rw [pp_up_ne _ _ (by omega)]; exact e1, by rw [pp_up_ne _ _ (by omega)]; exact e2, by rw [pp_up_ne _ _ (by omega)]; exact e3, ⟨w, e4, by rw [pp_up_ne _ _ (by omega)]; exact e5, by rw [pp_up_ne _ _ (by decide)]; exact e6⟩, by rw [pp_up_ne _ _ (by decide)]; exact e7⟩
  · unfold iv_H
    rw [pp_up_ne _ _ (by decide)]; exact a
  · unfold iv_R
    rw [pp_up_eq]
    rcases (show i = 0 ∨ i = 1 ∨ i = 2 by omega) with rfl | rfl | rfl
    · exact ⟨by rw [pk_us, pp_up_eq], by rw [pk_un (by decide), pp_up_ne _ _ (by decide)]; exact c2, by rw [pk_un (by decide), pp_up_ne _ _ (by decide)]; exact c3⟩
    · exact ⟨by rw [pk_un (by decide), pp_up_ne _ _ (by decide)]; exact c1, by rw [pk_us, pp_up_eq], by rw [pk_un (by decide), pp_up_ne _ _ (by decide)]; exact c3⟩
    · exact ⟨by rw [pk_un (by decide), pp_up_ne _ _ (by decide)]; exact c1, by rw [pk_un (by decide), pp_up_ne _ _ (by decide)]; exact c2, by rw [pk_us, pp_up_eq]⟩
/-- a refusal by both -/
theorem iv_bad (h : iv z g ζ γ) (x : Int32) : T_X5_refuse (-2) z g = (-2, va_up z 0 (z 0 + 1), g) ∧ T_X6_bad x ζ γ = (x, ζ, va_up γ 23 (upd (γ 23) 0 (z 0 + 1))) ∧ iv (va_up z 0 (z 0 + 1)) g ζ (va_up γ 23 (upd (γ 23) 0 (z 0 + 1))) := by
  refine ⟨by unfold T_X5_refuse; rw [if_pos rfl], ?_, iv_r h (by decide) _⟩
  unfold T_X6_bad
  rw [show (0 : Int32) = nI 0 from rfl, pp_st_lit (by decide), nI_clamp (by decide), h.2.2.1.1]
end
