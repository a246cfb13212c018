/-! rounds on trial: what class and model answer, and what they leave -/
def cE (z0 : Nat → Int32) (g0 : Nat → Nat → Int32) (z : Nat → Int32) (g : Nat → Nat → Int32) : Prop := (∀ i, ¬ (13 ≤ i ∧ i ≤ 17) → z i = z0 i) ∧ ∀ k, ¬ (k = 4 ∨ k = 17 ∨ k = 18) → g k = g0 k
def mE (ζ0 : Nat → Int32) (γ0 : Nat → Nat → Int32) (ζ : Nat → Int32) (γ : Nat → Nat → Int32) : Prop := (∀ i, ¬ (25 ≤ i ∧ i ≤ 37) → ζ i = ζ0 i) ∧ (∀ k, ¬ (k = 21 ∨ (28 ≤ k ∧ k ≤ 32)) → γ k = γ0 k) ∧ ∀ i, i < 58 → γ 21 i = γ0 21 i
def tB (len A : Nat) (z0 : Nat → Int32) (g0 : Nat → Nat → Int32) (ζ0 : Nat → Int32) (γ0 : Nat → Nat → Int32) : Prop := iv z0 g0 ζ0 γ0 ∧ rdy len A z0 g0 ζ0 γ0 ∧ ∀ i, i < 58 → γ0 35 i = γ0 21 i
/-- the house as it would be, and the walk through it -/
def wkT (a : Int32) (z : Nat → Int32) (g : Nat → Nat → Int32) : Int32 × nr_S := nr_K (T_X5_withKeys a z g) (fun _ z1 g1 => T_X2_walk 9 3 16 z1 g1)
def wkO (a : Int32) (z : Nat → Int32) (g : Nat → Nat → Int32) : Prop := nr_KP (T_X5_withKeys a z g) (fun _ z1 g1 => O_X2_walk 9 3 16 z1 g1)
def wrT (a b c : Int32) (z : Nat → Int32) (g : Nat → Nat → Int32) : Int32 × nr_S := nr_K (T_X5_withRoom a b c z g) (fun _ z1 g1 => T_X2_walk 9 3 16 z1 g1)
def wrO (a b c : Int32) (z : Nat → Int32) (g : Nat → Nat → Int32) : Prop := O_X5_withRoom a b c z g ∧ nr_KP (T_X5_withRoom a b c z g) (fun _ z1 g1 => O_X2_walk 9 3 16 z1 g1)
theorem V_kk {α : Type} {f : Int32 × nr_S} {oW : (Nat → Int32) → (Nat → Nat → Int32) → Prop} {tW : (Nat → Int32) → (Nat → Nat → Int32) → Int32 × nr_S} {r : Int32} {z' : Nat → Int32} {g' : Nat → Nat → Int32} {ok : Int32 → (Nat → Int32) → (Nat → Nat → Int32) → Prop} {k : Int32 → (Nat → Int32) → (Nat → Nat → Int32) → α} {w : α} (h1 : nr_KP f (fun _ z1 g1 => oW z1 g1)) (h2 : nr_K f (fun _ z1 g1 => tW z1 g1) = (r, z', g')) (hk : nr_V (ok r z' g') (k r z' g') w) : nr_V (nr_KP f (fun _ z1 g1 => oW z1 g1 ∧ nr_KP (tW z1 g1) ok)) (nr_K f (fun _ z1 g1 => nr_K (tW z1 g1) k)) w := by
  obtain ⟨x, y1, y2⟩ := f
  exact V_Kn rfl (V_K ⟨h1, h2⟩ hk)
theorem V_kk1 {f : Int32 × nr_S} {oW : (Nat → Int32) → (Nat → Nat → Int32) → Prop} {tW : (Nat → Int32) → (Nat → Nat → Int32) → Int32 × nr_S} {r : Int32} {z' : Nat → Int32} {g' : Nat → Nat → Int32} (h1 : nr_KP f (fun _ z1 g1 => oW z1 g1)) (h2 : nr_K f (fun _ z1 g1 => tW z1 g1) = (r, z', g')) : nr_V (nr_KP f (fun _ z1 g1 => oW z1 g1 ∧ True)) (nr_K f (fun _ z1 g1 => nr_K (tW z1 g1) (fun r2 z2 g2 => (r2, z2, g2)))) (r, z', g') := by
  obtain ⟨x, y1, y2⟩ := f
  exact V_Kn rfl (V_K1 ⟨h1, h2⟩ (V_T rfl))
theorem V_wk {α : Type} {a r : Int32} {z z' : Nat → Int32} {g g' : Nat → Nat → Int32} {ok : Int32 → (Nat → Int32) → (Nat → Nat → Int32) → Prop} {k : Int32 → (Nat → Int32) → (Nat → Nat → Int32) → α} {w : α} (hf : nr_V (wkO a z g) (wkT a z g) (r, z', g')) (hk : nr_V (ok r z' g') (k r z' g') w) : nr_V (nr_KP (T_X5_withKeys a z g) (fun _ z1 g1 => O_X2_walk 9 3 16 z1 g1 ∧ nr_KP (T_X2_walk 9 3 16 z1 g1) ok)) (nr_K (T_X5_withKeys a z g) (fun _ z1 g1 => nr_K (T_X2_walk 9 3 16 z1 g1) k)) w := by
  obtain ⟨h1, h2⟩ := hf
  rw [wkO] at h1
  rw [wkT] at h2
  exact V_kk (oW := O_X2_walk 9 3 16) (tW := T_X2_walk 9 3 16) h1 h2 hk
theorem V_wr {α : Type} {a b c r : Int32} {z z' : Nat → Int32} {g g' : Nat → Nat → Int32} {ok : Int32 → (Nat → Int32) → (Nat → Nat → Int32) → Prop} {k : Int32 → (Nat → Int32) → (Nat → Nat → Int32) → α} {w : α} (hf : nr_V (wrO a b c z g) (wrT a b c z g) (r, z', g')) (hk : nr_V (ok r z' g') (k r z' g') w) : nr_V (O_X5_withRoom a b c z g ∧ nr_KP (T_X5_withRoom a b c z g) (fun _ z1 g1 => O_X2_walk 9 3 16 z1 g1 ∧ nr_KP (T_X2_walk 9 3 16 z1 g1) ok)) (nr_K (T_X5_withRoom a b c z g) (fun _ z1 g1 => nr_K (T_X2_walk 9 3 16 z1 g1) k)) w := by
  obtain ⟨h1, h2⟩ := hf
  rw [wrO] at h1
  rw [wrT] at h2
  exact V_and h1.1 (V_kk (oW := O_X2_walk 9 3 16) (tW := T_X2_walk 9 3 16) h1.2 h2 hk)
theorem V_wr1 {a b c r : Int32} {z z' : Nat → Int32} {g g' : Nat → Nat → Int32} (hf : nr_V (wrO a b c z g) (wrT a b c z g) (r, z', g')) : nr_V (O_X5_withRoom a b c z g ∧ nr_KP (T_X5_withRoom a b c z g) (fun _ z1 g1 => O_X2_walk 9 3 16 z1 g1 ∧ True)) (nr_K (T_X5_withRoom a b c z g) (fun _ z1 g1 => nr_K (T_X2_walk 9 3 16 z1 g1) (fun r2 z2 g2 => (r2, z2, g2)))) (r, z', g') := by
  obtain ⟨h1, h2⟩ := hf
  rw [wrO] at h1
  rw [wrT] at h2
  exact V_and h1.1 (V_kk1 (oW := O_X2_walk 9 3 16) (tW := T_X2_walk 9 3 16) h1.2 h2)
section
variable {D : Nat → Prop} {len A : Nat} {z0 ζ0 z ζ : Nat → Int32} {g0 γ0 g γ : Nat → Nat → Int32} {f k : Nat → Int32}
theorem cE.refl (z : Nat → Int32) (g : Nat → Nat → Int32) : cE z g z g := ⟨fun _ _ => rfl, fun _ _ => rfl⟩
theorem mE.refl (z : Nat → Int32) (g : Nat → Nat → Int32) : mE z g z g := ⟨fun _ _ => rfl, fun _ _ => rfl, fun _ _ => rfl⟩
theorem tri (B : tB len A z0 g0 ζ0 γ0) (hz : cE z0 g0 z g) (hm : mE ζ0 γ0 ζ γ) (hH : rH D f k) (hW : rW f) : ∃ n x z' g' ζ1 γ1, nr_V (O_X2_walk 9 3 16 z (va_up g 4 f)) (T_X2_walk 9 3 16 z (va_up g 4 f)) (x, z', g') ∧ (∀ m, nr_V (O_X6_round (m + n) ζ (va_up γ 21 k)) (T_X6_round (m + n) ζ (va_up γ 21 k)) (x, ζ1, γ1)) ∧ cE z0 g0 z' g' ∧ mE ζ0 γ0 ζ1 (va_up γ1 21 (mk_row (γ1 35) (γ1 21))) := by
  obtain ⟨-, hr, h35⟩ := B
  have hr2 : rdy len A z (va_up g 4 f) ζ (va_up γ 21 k) := rdy_cong hr (hz.1 5 (by omega)) (fun k a b => (pp_up_ne _ _ (by omega)).trans (hz.2 k (by omega))) (hm.1 21 (by omega)) (fun k a b => (pp_up_ne _ _ (by omega)).trans (hm.2.1 k (by omega)))
  obtain ⟨l1, l2, h5, h21, h24, hL⟩ := hr2
  obtain ⟨n, f', fa', en', wr', inn', ζ1, γ1, v1, v2, R, F1, F2⟩ := rg_walk (D := D) (h := 3) (t := 16) (Or.inr rfl) (Or.inr rfl) l1 l2 h5 h21 h24 hL (by rw [pp_up_eq, pp_up_eq]; exact hH) (by rw [pp_up_eq]; exact hW)
  refine ⟨n, fa' 0, _, _, ζ1, γ1, v1, v2, ⟨fun i hi => ?_, fun k hk => ?_⟩, fun i hi => ?_, fun k hk => ?_, fun i hi => ?_⟩
  · unfold PZ
    rw [pp_up_ne _ _ (by omega), pp_up_ne _ _ (by omega), pp_up_ne _ _ (by omega), pp_up_ne _ _ (by omega), pp_up_ne _ _ (by omega)]
    exact hz.1 i hi
  · unfold PG
    rw [pp_up_ne _ _ (by omega), pp_up_ne _ _ (by omega), pp_up_ne _ _ (by omega), pp_up_ne _ _ (by omega)]
    exact hz.2 k hk
  · rw [F1 i (by omega)]; exact hm.1 i hi
  · rw [pp_up_ne _ _ (by omega), F2 k hk, pp_up_ne _ _ (by omega)]; exact hm.2.1 k hk
  · rw [pp_up_eq, mk_in hi, F2 35 (by omega), pp_up_ne _ _ (by decide), hm.2.1 35 (by omega)]
    exact h35 i hi
theorem tri_f (B : tB len A z0 g0 ζ0 γ0) (hz : cE z0 g0 z g) (hm : mE ζ0 γ0 ζ γ) : (∀ i, i < 58 → γ 21 i = va_cpy (g 2) (g 4) 0 0 58 i) ∧ rW (va_cpy (g 2) (g 4) 0 0 58) := by
  have e : ∀ i, i < 58 → va_cpy (g 2) (g 4) 0 0 58 i = g0 2 i := fun i hi => by
    rw [c_bec_in hi, hz.2 2 (by omega)]
  exact ⟨fun i hi => by rw [e i hi, hm.2.2 i hi]; exact B.1.1.1 i hi, rW_congr e B.1.1.2⟩
theorem tri_keys (B : tB len A z0 g0 ζ0 γ0) (hz : cE z0 g0 z g) (hm : mE ζ0 γ0 ζ γ) {q : Nat} (hq : q < 8) : ∃ n x z' g' ζ' γ', nr_V (wkO (nI (2 * q)) z g) (wkT (nI (2 * q)) z g) (x, z', g') ∧ (∀ m, nr_V (O_X6_endBy (m + n) (nI (2 * q)) ζ γ) (T_X6_endBy (m + n) (nI (2 * q)) ζ γ) (x, ζ', γ')) ∧ cE z0 g0 z' g' ∧ mE ζ0 γ0 ζ' γ' := by
  obtain ⟨e1, e2⟩ := tri_f B hz hm
  have kb := c_become z g
  generalize va_cpy (g 2) (g 4) 0 0 58 = f at e1 e2 kb
  obtain ⟨n, x, z', g', ζ1, γ1, v1, v2, c, m⟩ := tri (D := fun _ => False) (f := upd f 56 (nI (2 * q))) (k := upd (γ 21) 56 (nI (2 * q))) B hz hm (fun i hi => Or.inl (by
    by_cases e : i = 56
    · rw [e, pk_us, pk_us]
    · rw [pk_un e, pk_un e]; exact e1 i hi)) (rW_keys e2 hq)
  refine ⟨n, x, z', g', ζ1, _, ?_, fun m => ?_, c, m⟩
  · unfold wkO wkT
    have ek : T_X0_giveKeys 3 (nI (2 * q)) z (va_up g 4 f) = (0, z, va_up g 4 (upd f 56 (nI (2 * q)))) := by
      unfold T_X0_giveKeys
      rw [show (56 : Int32) = nI 56 from rfl, pp_st_lit (by decide), pp_up_eq, up_up]
    have e0 : T_X5_withKeys (nI (2 * q)) z g = (0, z, va_up g 4 (upd f 56 (nI (2 * q)))) := by
      unfold T_X5_withKeys
      rw [kb, nr_K_mk, ek, nr_K_mk]
    exact V_Kn e0 v1
  · unfold O_X6_endBy T_X6_endBy
    rw [show (56 : Int32) = nI 56 from rfl, pp_st_lit (by decide)]
    exact V_K (v2 m) (V_K1 (m_bring ζ1 γ1) (V_T rfl))
/-- a room's cell changed: by the class (a new sleep wakes none), by the model -/
def chg (f : Nat → Int32) (r w : Nat) (v : Int32) : Nat → Int32 := if w = 3 then upd (upd f (7 * r + 3) v) (7 * r + 4) 0 else upd f (7 * r + w) v
theorem c_change {r w : Nat} (hr : r < 8) (hw : w < 4) (v : Int32) (z : Nat → Int32) (g : Nat → Nat → Int32) (f : Nat → Int32) : nr_V (O_X0_change 3 (nI r) (nI w) v z (va_up g 4 f)) (T_X0_change 3 (nI r) (nI w) v z (va_up g 4 f)) (0, z, va_up g 4 (chg f r w v)) := by
  have s1 := cp_set 3 hr (w := w) (by omega) v z (va_up g 4 f)
  rw [pp_up_eq, up_up] at s1
  unfold O_X0_change T_X0_change chg
  by_cases e : w = 3
  · subst e
    have s2 := cp_set 3 hr (w := 4) (by decide) 0 z (va_up g 4 (upd f (7 * r + 3) v))
    rw [pp_up_eq, up_up] at s2
    rw [if_pos rfl]
    exact V_K s1 (V_pos rfl (V_K1 s2 (V_T rfl)))
  · rw [if_neg e]
    exact V_K s1 (V_neg (fun q => e ((nI_eq (b := 3) (by omega) (by decide)).mp q)) (V_T rfl))
theorem tri_with (B : tB len A z0 g0 ζ0 γ0) (hz : cE z0 g0 z g) (hm : mE ζ0 γ0 ζ γ) {r w : Nat} (hr : r < 8) (hw : w < 4) {v : Int32} (hv : cw w v) (h3 : w = 3 → v = 0) : ∃ n x z' g' ζ1 γ1, nr_V (wrO (nI r) (nI w) v z g) (wrT (nI r) (nI w) v z g) (x, z', g') ∧ (∀ m, nr_V (O_X6_round (m + n) ζ (va_up γ 21 (upd (γ 21) (7 * r + w) v))) (T_X6_round (m + n) ζ (va_up γ 21 (upd (γ 21) (7 * r + w) v))) (x, ζ1, γ1)) ∧ cE z0 g0 z' g' ∧ mE ζ0 γ0 ζ1 (va_up γ1 21 (mk_row (γ1 35) (γ1 21))) := by
  obtain ⟨e1, e2⟩ := tri_f B hz hm
  have kb := c_become z g
  generalize va_cpy (g 2) (g 4) 0 0 58 = f at e1 e2 kb
  obtain ⟨n, x, z', g', ζ1, γ1, v1, v2, c, m⟩ := tri (D := fun q => q = r) (f := chg f r w v) (k := upd (γ 21) (7 * r + w) v) B hz hm (fun i hi => by
    unfold chg
    by_cases e : w = 3
    · subst e
      rw [if_pos rfl]
      by_cases e4 : i = 7 * r + 4
      · refine Or.inr ⟨r, hr, rfl, e4, ?_⟩
        rw [pk_un (by omega), pk_us]; exact h3 rfl
      · rw [pk_un e4]
        by_cases e3 : i = 7 * r + 3
        · rw [e3, pk_us, pk_us]; exact Or.inl rfl
        · rw [pk_un e3, pk_un e3]; exact Or.inl (e1 i hi)
    · rw [if_neg e]
      by_cases e3 : i = 7 * r + w
      · rw [e3, pk_us, pk_us]; exact Or.inl rfl
      · rw [pk_un e3, pk_un e3]; exact Or.inl (e1 i hi)) (by
    unfold chg
    by_cases e : w = 3
    · subst e
      rw [if_pos rfl]; exact rW_slp e2 hr hv
    · rw [if_neg e]; exact rW_upd e2 hr (by omega) hv e (fun q => absurd q (by omega)))
  refine ⟨n, x, z', g', ζ1, γ1, ?_, v2, c, m⟩
  unfold wrO wrT
  have e0 : nr_V (O_X5_withRoom (nI r) (nI w) v z g) (T_X5_withRoom (nI r) (nI w) v z g) (0, z, va_up g 4 (chg f r w v)) := by
    unfold O_X5_withRoom T_X5_withRoom
    exact V_Kn kb (V_K1 (c_change hr hw v z g f) (V_T rfl))
  exact V_K e0 v1
/-- back to what holds between calls -/
theorem tB_back (B : tB len A z0 g0 ζ0 γ0) (hz : cE z0 g0 z g) (hm : mE ζ0 γ0 ζ γ) : iv z g ζ γ ∧ cF z0 g0 z g ∧ mF ζ0 γ0 ζ γ := by
  refine ⟨?_, ⟨fun i hi => hz.1 i (by omega), fun k hk => hz.2 k (by omega)⟩, ⟨fun i hi => hm.1 i (by omega), fun k hk => hm.2.1 k (by omega)⟩⟩
  obtain ⟨hH, hN, hR, hT, e1, e2, e3, ⟨w, e4, e5, e6⟩, e7⟩ := B.1
  refine iv_new B.1 (fun i hi => hz.1 i (by omega)) (fun k hk => hz.2 k (by omega)) (fun i hi => hm.1 i (by omega)) (fun k hk => hm.2.1 k (by omega)) ⟨fun i hi => ?_, ?_⟩ ⟨?_, ?_, ?_, ⟨w, e4, ?_, ?_⟩, ?_⟩
  · rw [hm.2.2 i hi, hz.2 2 (by omega)]; exact hH.1 i hi
  · rw [hz.2 2 (by omega)]; exact hH.2
  · rw [hz.1 12 (by omega)]; exact e1
  · rw [hm.1 38 (by omega), hz.1 11 (by omega)]; exact e2
  · rw [hm.1 39 (by omega), hz.1 10 (by omega)]; exact e3
  · rw [hz.1 10 (by omega)]; exact e5
  · rw [hz.2 15 (by omega), hm.2.1 34 (by omega)]; exact e6
  · rw [hm.1 40 (by omega), hz.2 14 (by omega), hm.2.1 33 (by omega)]; exact e7
/-- the model keeps its house ahead of trials -/
theorem tB_keep (h : iv z g ζ γ) (hr : rdy len A z g ζ γ) : tB len A z g ζ (va_up γ 35 (mk_row (γ 21) (γ 35))) ∧ mF ζ γ ζ (va_up γ 35 (mk_row (γ 21) (γ 35))) := by
  refine ⟨⟨iv_cong h (fun _ _ _ => rfl) (fun _ _ => rfl) (fun _ _ => rfl) (fun k hk => pp_up_ne _ _ (by omega)), rdy_cong hr rfl (fun _ _ _ => rfl) rfl (fun k a b => pp_up_ne _ _ (by omega)), fun i hi => ?_⟩, mF.up2 (by decide) _⟩
  rw [pp_up_eq, mk_in hi, pp_up_ne _ _ (by decide)]
theorem tri_split {O5 : (Nat → Int32) → (Nat → Nat → Int32) → Prop} {T5 : (Nat → Int32) → (Nat → Nat → Int32) → Int32 × nr_S} {O6 : Nat → (Nat → Int32) → (Nat → Nat → Int32) → Prop} {T6 : Nat → (Nat → Int32) → (Nat → Nat → Int32) → Int32 × nr_S} (h : ∀ z g ζ γ, cE z0 g0 z g → mE ζ0 γ0 ζ γ → ∃ n x z' g' ζ' γ', nr_V (O5 z g) (T5 z g) (x, z', g') ∧ (∀ m, nr_V (O6 (m + n) ζ γ) (T6 (m + n) ζ γ) (x, ζ', γ')) ∧ cE z0 g0 z' g' ∧ mE ζ0 γ0 ζ' γ') : (∀ z g, cE z0 g0 z g → ∃ z' g', nr_V (O5 z g) (T5 z g) ((T5 z0 g0).1, z', g') ∧ cE z0 g0 z' g') ∧ (∀ ζ γ, mE ζ0 γ0 ζ γ → ∃ n ζ' γ', (∀ m, nr_V (O6 (m + n) ζ γ) (T6 (m + n) ζ γ) ((T5 z0 g0).1, ζ', γ')) ∧ mE ζ0 γ0 ζ' γ') := by
  refine ⟨fun z g hz => ?_, fun ζ γ hm => ?_⟩
  · obtain ⟨n, x, z', g', ζ', γ', v5, v6, c, m⟩ := h z g ζ0 γ0 hz (mE.refl _ _)
    obtain ⟨n1, x1, z1, g1, ζ1, γ1, w5, w6, c1, m1⟩ := h z0 g0 ζ0 γ0 (cE.refl _ _) (mE.refl _ _)
    have a := (v6 n1).2
    have b := (w6 n).2
    rw [Nat.add_comm n n1, a] at b
    have ex : x = x1 := congrArg Prod.fst b
    rw [w5.2]
    subst ex
    exact ⟨z', g', v5, c⟩
  · obtain ⟨n, x, z', g', ζ', γ', v5, v6, c, m⟩ := h z0 g0 ζ γ (cE.refl _ _) hm
    rw [v5.2]
    exact ⟨n, ζ', γ', v6, m⟩
end
