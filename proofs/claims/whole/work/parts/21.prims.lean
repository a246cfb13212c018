/-! premises and value at once -/
def nr_V {α : Type} (o : Prop) (v w : α) : Prop := o ∧ v = w
theorem V_T {α : Type} {v w : α} (h : v = w) : nr_V True v w := ⟨trivial, h⟩
theorem V_pos {α : Type} {c : Prop} {i : Decidable c} {oA oB : Prop} {A B w : α} (h : c) (k : nr_V oA A w) : nr_V ((c → oA) ∧ (¬ c → oB)) (if c then A else B) w := ⟨⟨fun _ => k.1, fun q => absurd h q⟩, by rw [if_pos h]; exact k.2⟩
theorem V_neg {α : Type} {c : Prop} {i : Decidable c} {oA oB : Prop} {A B w : α} (h : ¬ c) (k : nr_V oB B w) : nr_V ((c → oA) ∧ (¬ c → oB)) (if c then A else B) w := ⟨⟨fun q => absurd q h, fun _ => k.1⟩, by rw [if_neg h]; exact k.2⟩
theorem V_posT {α : Type} {c : Prop} {i : Decidable c} {A B w : α} (h : c) (k : nr_V True A w) : nr_V True (if c then A else B) w := ⟨trivial, by rw [if_pos h]; exact k.2⟩
theorem V_negT {α : Type} {c : Prop} {i : Decidable c} {A B w : α} (h : ¬ c) (k : nr_V True B w) : nr_V True (if c then A else B) w := ⟨trivial, by rw [if_neg h]; exact k.2⟩
theorem V_and {α : Type} {p o : Prop} {v w : α} (h : p) (k : nr_V o v w) : nr_V (p ∧ o) v w := ⟨⟨h, k.1⟩, k.2⟩
theorem V_K {α : Type} {f : Int32 × nr_S} {of : Prop} {r : Int32} {z : Nat → Int32} {g : Nat → Nat → Int32} {ok : Int32 → (Nat → Int32) → (Nat → Nat → Int32) → Prop} {k : Int32 → (Nat → Int32) → (Nat → Nat → Int32) → α} {w : α} (hf : nr_V of f (r, z, g)) (hk : nr_V (ok r z g) (k r z g) w) : nr_V (of ∧ nr_KP f ok) (nr_K f k) w := by
  obtain ⟨a, b⟩ := hf
  obtain ⟨c, e⟩ := hk
  subst b
  exact ⟨⟨a, c⟩, e⟩
theorem V_K1 {α : Type} {f : Int32 × nr_S} {of : Prop} {r : Int32} {z : Nat → Int32} {g : Nat → Nat → Int32} {k : Int32 → (Nat → Int32) → (Nat → Nat → Int32) → α} {w : α} (hf : nr_V of f (r, z, g)) (hk : nr_V True (k r z g) w) : nr_V (of ∧ True) (nr_K f k) w := by
  obtain ⟨a, b⟩ := hf
  obtain ⟨c, e⟩ := hk
  subst b
  exact ⟨⟨a, trivial⟩, e⟩
theorem V_K0 {α : Type} {f : Int32 × nr_S} {r : Int32} {z : Nat → Int32} {g : Nat → Nat → Int32} {k : Int32 → (Nat → Int32) → (Nat → Nat → Int32) → α} {w : α} (hf : f = (r, z, g)) (hk : nr_V True (k r z g) w) : nr_V True (nr_K f k) w := by
  obtain ⟨c, e⟩ := hk
  subst hf
  exact ⟨trivial, e⟩
/-- no premise of f: what stands behind it still may have one -/
theorem V_Kn {α : Type} {f : Int32 × nr_S} {r : Int32} {z : Nat → Int32} {g : Nat → Nat → Int32} {ok : Int32 → (Nat → Int32) → (Nat → Nat → Int32) → Prop} {k : Int32 → (Nat → Int32) → (Nat → Nat → Int32) → α} {w : α} (hf : f = (r, z, g)) (hk : nr_V (ok r z g) (k r z g) w) : nr_V (nr_KP f ok) (nr_K f k) w := by
  subst hf
  exact hk
theorem V_w {α : Type} {o : Prop} {v w w' : α} (h : nr_V o v w) (e : w = w') : nr_V o v w' := e ▸ h
/-! the class's reader, its small parts -/
theorem pp_put {k i : Nat} {v : Int32} {z : Nat → Int32} {g : Nat → Nat → Int32} (hk : nr_rl k = 100) (hk2 : nr_il k = 100) (hi : i < 100) : nr_V (O_X5_put k (nI i) v z g) (T_X5_put k (nI i) v z g) (0, z, va_up g k (upd (g k) i v)) := by
  unfold O_X5_put T_X5_put
  rw [hk, hk2]
  refine V_neg (pp_nI_neg (by omega)) (V_and (by decide) (V_neg (nI_ge hi (by decide)) (V_and (by decide) (V_and (vp_in_nI hi (by decide)) (V_T ?_)))))
  rw [nr_st, nI_clamp (by omega)]
theorem pp_expect {z : Nat → Int32} {g : Nat → Nat → Int32} {len p : Nat} (h4 : z 4 = nI len) (hl : len ≤ 100) (hp : p ≤ len) (h8 : z 8 = nI p) (h9 : z 9 = -1) (a : Int32) : nr_V (O_X3_expect a z g) (T_X3_expect a z g) (0, (if pp_c (g 8) len (pp_s (g 8) len p) = a then va_up z 8 (nI (pp_s (g 8) len p + 1)) else va_up (va_up z 8 (nI (pp_s (g 8) len p))) 9 (nI (pp_s (g 8) len p))), g) := by
  unfold O_X3_expect T_X3_expect
  refine V_pos h9 (V_K1 (pp_nx h4 hl hp h8) ?_)
  by_cases hc : pp_c (g 8) len (pp_s (g 8) len p) = a
  · refine V_posT hc (V_T ?_)
    rw [if_pos hc, pp_up_eq, nI_1, pp_up_up]
  · refine V_negT hc (V_T ?_)
    rw [if_neg hc, pp_up_eq]
theorem pp_expect_f {z : Nat → Int32} {g : Nat → Nat → Int32} (h9 : ¬ z 9 = -1) (a : Int32) : nr_V (O_X3_expect a z g) (T_X3_expect a z g) (0, z, g) := by
  unfold O_X3_expect T_X3_expect
  exact V_neg h9 (V_T rfl)
theorem pp_wn {a b c : Int32} (h : ¬ (b ≤ a ∧ a ≤ c)) : R_X5_within a b c = 0 := by
  unfold R_X5_within
  by_cases h1 : a < b
  · rw [if_pos h1]
  · rw [if_neg h1, if_pos]
    rcases Int32.lt_or_le c a with q | q
    · exact q
    · exact absurd ⟨Int32.not_lt.mp h1, q⟩ h
theorem pp_wy {a b c : Int32} (h : b ≤ a ∧ a ≤ c) : R_X5_within a b c = 1 := by
  unfold R_X5_within
  rw [if_neg (Int32.not_lt.mpr h.1), if_neg (Int32.not_lt.mpr h.2)]
theorem pp_in (a b c : Int32) : R_X6_in a.toInt64 b.toInt64 c.toInt64 = R_X5_within a b c := by
  have key : ∀ x y : Int32, (lg_cmp x.toInt64 y.toInt64 < 0 ↔ x < y) ∧ (0 < lg_cmp x.toInt64 y.toInt64 ↔ y < x) := by
    intro x y
    have e1 : x.toInt64 > y.toInt64 ↔ y < x := by
      show y.toInt64 < x.toInt64 ↔ y < x
      rw [Int64.lt_iff_toInt_lt, Int32.toInt_toInt64, Int32.toInt_toInt64, ← Int32.lt_iff_toInt_lt]
    have e2 : x.toInt64 = y.toInt64 ↔ x = y := by
      rw [← Int64.toInt_inj, Int32.toInt_toInt64, Int32.toInt_toInt64, Int32.toInt_inj]
    unfold lg_cmp
    by_cases h1 : x.toInt64 > y.toInt64
    · rw [if_pos h1]
      have := e1.mp h1
      refine ⟨⟨fun q => absurd q (by decide), fun q => (Int32.lt_irrefl (Int32.lt_trans q this)).elim⟩, ⟨fun _ => this, fun _ => by decide⟩⟩
    · rw [if_neg h1]
      have n1 : ¬ y < x := fun q => h1 (e1.mpr q)
      by_cases h2 : x.toInt64 = y.toInt64
      · rw [if_pos h2]
        have := e2.mp h2
        subst this
        exact ⟨⟨fun q => absurd q (by decide), fun q => (Int32.lt_irrefl q).elim⟩, ⟨fun q => absurd q (by decide), fun q => (Int32.lt_irrefl q).elim⟩⟩
      · rw [if_neg h2]
        have n2 : ¬ x = y := fun q => h2 (e2.mpr q)
        refine ⟨⟨fun _ => ?_, fun _ => by decide⟩, ⟨fun q => absurd q (by decide), fun q => absurd q n1⟩⟩
        rcases Int32.lt_or_le x y with q | q
        · exact q
        · exact absurd (Int32.le_antisymm (Int32.not_lt.mp n1) q) n2
  unfold R_X6_in R_X5_within
  by_cases h1 : a < b
  · rw [if_pos h1, if_pos ((key a b).1.mpr h1)]
  · rw [if_neg h1, if_neg (fun q => h1 ((key a b).1.mp q))]
    by_cases h2 : c < a
    · rw [if_pos h2, if_pos ((key a c).2.mpr h2)]
    · rw [if_neg h2, if_neg (fun q => h2 ((key a c).2.mp q))]
theorem pp_in07 (a : Int32) : R_X6_in a.toInt64 48 55 = R_X5_within a 48 55 := pp_in a 48 55
def pp_dg (c : Int32) : Prop := (48 : Int32) ≤ c ∧ c ≤ 57
theorem pp_c_lt {tx : Nat → Int32} {len q : Nat} (h : q < len) : pp_c tx len q = tx q := by unfold pp_c; rw [if_pos h]
theorem pp_c_ge {tx : Nat → Int32} {len q : Nat} (h : ¬ q < len) : pp_c tx len q = -1 := by unfold pp_c; rw [if_neg h]
theorem pp_fig {z : Nat → Int32} {g : Nat → Nat → Int32} {len p : Nat} (h4 : z 4 = nI len) (hl : len ≤ 100) (hp : p ≤ len) (h8 : z 8 = nI p) (hq : pp_s (g 8) len p < len) (hd : pp_dg (g 8 (pp_s (g 8) len p))) : nr_V (O_X3_readFigure z g) (T_X3_readFigure z g) (g 8 (pp_s (g 8) len p) - 48, va_up z 8 (nI (pp_s (g 8) len p + 1)), g) := by
  unfold O_X3_readFigure T_X3_readFigure
  refine V_K1 (pp_nx h4 hl hp h8) ?_
  rw [pp_c_lt hq]
  refine V_negT (by rw [pp_wy hd]; decide) (V_T ?_)
  rw [pp_up_eq, nI_1, pp_up_up]
theorem pp_fig_f {z : Nat → Int32} {g : Nat → Nat → Int32} {len p : Nat} (h4 : z 4 = nI len) (hl : len ≤ 100) (hp : p ≤ len) (h8 : z 8 = nI p) (hd : ¬ (pp_s (g 8) len p < len ∧ pp_dg (g 8 (pp_s (g 8) len p)))) : nr_V (O_X3_readFigure z g) (T_X3_readFigure z g) (0, va_up (va_up z 8 (nI (pp_s (g 8) len p))) 9 (nI (pp_s (g 8) len p)), g) := by
  unfold O_X3_readFigure T_X3_readFigure
  refine V_K1 (pp_nx h4 hl hp h8) ?_
  refine V_posT ?_ (V_T ?_)
  · by_cases hq : pp_s (g 8) len p < len
    · rw [pp_c_lt hq]; exact pp_wn (fun q => hd ⟨hq, q⟩)
    · rw [pp_c_ge hq]; decide
  · rw [pp_up_eq]
/-! the model's reader, its small parts -/
theorem pp_meets_y {z : Nat → Int32} {g : Nat → Nat → Int32} {len p : Nat} {a b : Int32} (h4 : z 21 = nI len) (hl : len ≤ 100) (hp : p ≤ len) (h8 : z 25 = nI p) (hq : pp_s (g 24) len p < len) (hd : a ≤ g 24 (pp_s (g 24) len p) ∧ g 24 (pp_s (g 24) len p) ≤ b) : nr_V (O_X6_meets a b z g) (T_X6_meets a b z g) (1, va_up z 25 (nI (pp_s (g 24) len p + 1)), g) := by
  unfold O_X6_meets T_X6_meets
  refine V_K (pp_skip h4 hl hp h8) ?_
  rw [pp_up_eq, pp_up_ne _ _ (by decide), h4, nI_clamp (by omega), pp_in, pp_wy hd]
  refine V_neg (nI_ge hq (by omega)) (V_and (vp_in_nI (by omega) (by decide)) (V_neg (by decide) ?_))
  unfold O_X6_meets_40 T_X6_meets_40 O_X6_meets_55 T_X6_meets_55
  refine V_neg (by decide) (V_and rfl (V_T ?_))
  rw [pp_up_eq, nI_1, pp_up_up]
theorem pp_meets_n {z : Nat → Int32} {g : Nat → Nat → Int32} {len p : Nat} {a b : Int32} (h4 : z 21 = nI len) (hl : len ≤ 100) (hp : p ≤ len) (h8 : z 25 = nI p) (hd : ¬ (pp_s (g 24) len p < len ∧ a ≤ g 24 (pp_s (g 24) len p) ∧ g 24 (pp_s (g 24) len p) ≤ b)) : nr_V (O_X6_meets a b z g) (T_X6_meets a b z g) (0, va_up z 25 (nI (pp_s (g 24) len p)), g) := by
  have key : ∀ w, w = va_up z 25 (nI (pp_s (g 24) len p)) → nr_V (O_X6_meets_39 w g) (T_X6_meets_39 w g) (0, w, g) := by
    intro w hw
    unfold O_X6_meets_39 T_X6_meets_39 O_X6_meets_40 T_X6_meets_40 O_X6_meets_55 T_X6_meets_55
    refine V_pos rfl (V_and rfl (V_T ?_))
    rw [hw, pp_up_eq, pp_up_up]
    congr 2
    exact congrArg (va_up z 25) (by simp)
  unfold O_X6_meets T_X6_meets
  refine V_K (pp_skip h4 hl hp h8) ?_
  rw [pp_up_eq, pp_up_ne _ _ (by decide), h4, pp_in]
  by_cases hq : pp_s (g 24) len p < len
  · rw [nI_clamp (by omega), pp_wn (fun q => hd ⟨hq, q⟩)]
    exact V_neg (nI_ge hq (by omega)) (V_and (vp_in_nI (by omega) (by decide)) (V_pos rfl (key _ rfl)))
  · exact V_pos (nI_le (by omega) (by have := pp_s_le (tx := g 24) hp; omega)) (key _ rfl)
