/-! reading, and a round that is kept, by both -/
def rdy (len A : Nat) (z : Nat → Int32) (g : Nat → Nat → Int32) (ζ : Nat → Int32) (γ : Nat → Nat → Int32) : Prop := len ≤ 100 ∧ A ≤ 100 ∧ z 5 = nI A ∧ ζ 21 = nI len ∧ (∀ i, i < len → γ 24 i = g 8 i) ∧ ly (g 8) len (ly_F g γ) 8 0 A 0 len
section
variable {len A : Nat} {z ζ z' ζ' : Nat → Int32} {g γ g' γ' : Nat → Nat → Int32}
theorem rdy_cong (h : rdy len A z g ζ γ) (h1 : z' 5 = z 5) (h2 : ∀ k, 8 ≤ k → k ≤ 12 → g' k = g k) (h3 : ζ' 21 = ζ 21) (h4 : ∀ k, 24 ≤ k → k ≤ 26 → γ' k = γ k) : rdy len A z' g' ζ' γ' := by
  obtain ⟨a, b, c, d, e, f⟩ := h
  have F : ly_F g' γ' = ly_F g γ := by
    unfold ly_F
    rw [h2 9 (by decide) (by decide), h2 10 (by decide) (by decide), h2 11 (by decide) (by decide), h2 12 (by decide) (by decide), h4 26 (by decide) (by decide), h4 25 (by decide) (by decide)]
  refine ⟨a, b, by rw [h1]; exact c, by rw [h3]; exact d, ?_, ?_⟩
  · rw [h4 24 (by decide) (by decide), h2 8 (by decide) (by decide)]; exact e
  · rw [F, h2 8 (by decide) (by decide)]; exact f
theorem iv_read (h : iv z g ζ γ) : ∃ n flt z' g' ζ' γ', nr_V (O_X3_read 9 z g) (T_X3_read 9 z g) (flt, z', g') ∧ (∀ m, nr_V (O_X6_reads (m + n) ζ γ) (T_X6_reads (m + n) ζ γ) (flt, ζ', γ')) ∧ iv z' g' ζ' γ' ∧ cF z g z' g' ∧ mF ζ γ ζ' γ' ∧ (flt = -1 → ∃ len A, rdy len A z' g' ζ' γ' ∧ ζ' 22 = z' 5 ∧ ζ' 23 = z' 6 ∧ ζ' 24 = z' 7) := by
  obtain ⟨len, d1, d2, d3, d4, d5⟩ := h.2.2.2.1
  obtain ⟨flt, z', g', ζ', γ', n, v1, v2, C, R, hx⟩ := pa_read d1 d2 d3 d4 d5
  refine ⟨n, flt, z', g', ζ', γ', v1, v2, iv_cong h (fun i _ hi => C.1 i hi) (fun k hk => C.2 k (by omega)) (fun i hi => R.1 i (by omega)) (fun k hk => R.2 k (by omega)), ⟨fun i hi => C.1 i (by omega), fun k hk => C.2 k (by omega)⟩, ⟨fun i hi => R.1 i (by omega), fun k hk => R.2 k (by omega)⟩, fun hf => ?_⟩
  obtain ⟨A, a1, a2, a3, a4, a5, a6⟩ := hx hf
  have e8 : g' 8 = g 8 := C.2 8 (by omega)
  refine ⟨len, A, ⟨d1, by omega, a1, ?_, ?_, by rw [e8]; exact a6⟩, a3.trans a1.symm, a4, a5⟩
  · rw [R.1 21 (by omega)]; exact d3
  · rw [R.2 24 (by omega), e8]; exact d4
theorem iv_new (h : iv z g ζ γ) (h1 : ∀ i, i < 5 → z' i = z i) (h2 : ∀ k, k = 6 ∨ k = 8 → g' k = g k) (h3 : ∀ i, i = 20 ∨ i = 21 → ζ' i = ζ i) (h4 : ∀ k, 22 ≤ k ∧ k ≤ 24 → γ' k = γ k) (hH : iv_H g' γ') (hL : iv_L z' g' ζ' γ') : iv z' g' ζ' γ' := by
  obtain ⟨-, ⟨H, b1, b2, b3, b4⟩, ⟨c1, c2, c3⟩, ⟨len, d1, d2, d3, d4, d5⟩, -⟩ := h
  refine ⟨hH, ⟨H, b1, by rw [h1 3 (by decide)]; exact b2, by rw [h3 20 (by decide)]; exact b3, by rw [h2 6 (by decide), h4 22 (by decide)]; exact b4⟩, ⟨?_, ?_, ?_⟩, ⟨len, d1, by rw [h1 4 (by decide)]; exact d2, by rw [h3 21 (by decide)]; exact d3, by rw [h2 8 (by decide), h4 24 (by decide)]; exact d4, by rw [h2 8 (by decide)]; exact d5⟩, hL⟩
  · rw [h4 23 (by decide), h1 0 (by decide)]; exact c1
  · rw [h4 23 (by decide), h1 1 (by decide)]; exact c2
  · rw [h4 23 (by decide), h1 2 (by decide)]; exact c3
theorem kw_at {x : Nat → Int32} {v0 v1 v2 v3 v4 v5 v6 v7 : Int32} : kw_row x v0 v1 v2 v3 v4 v5 v6 v7 0 = v0 ∧ kw_row x v0 v1 v2 v3 v4 v5 v6 v7 1 = v1 ∧ kw_row x v0 v1 v2 v3 v4 v5 v6 v7 2 = v2 ∧ kw_row x v0 v1 v2 v3 v4 v5 v6 v7 3 = v3 ∧ kw_row x v0 v1 v2 v3 v4 v5 v6 v7 4 = v4 ∧ kw_row x v0 v1 v2 v3 v4 v5 v6 v7 5 = v5 ∧ kw_row x v0 v1 v2 v3 v4 v5 v6 v7 6 = v6 ∧ kw_row x v0 v1 v2 v3 v4 v5 v6 v7 7 = v7 := by
  unfold kw_row
  refine ⟨?_, ?_, ?_, ?_, ?_, ?_, ?_, ?_⟩ <;> simp [upd]
/-- a round of the class's in house h, told in the last tale, and the model's, kept -/
theorem run_kept {h : Nat} (hh : nr_ho h) (hr : rdy len A z g ζ γ) (hH : ∀ i, i < 58 → γ 21 i = g (h + 1) i) (hW : rW (g (h + 1))) : ∃ n x z' g' ζ1 γ1 ζ' γ', nr_V (O_X2_walk 9 h 13 z g) (T_X2_walk 9 h 13 z g) (x, z', g') ∧ (∀ m, nr_V (O_X6_round (m + n) ζ γ) (T_X6_round (m + n) ζ γ) (x, ζ1, γ1)) ∧ nr_V (O_X6_keepsWas x ζ1 γ1) (T_X6_keepsWas x ζ1 γ1) (0, ζ', γ') ∧ (∀ i, ¬ (10 ≤ i ∧ i ≤ 17) → z' i = z i) ∧ (∀ k, ¬ (k = h + 1 ∨ k = 14 ∨ k = 15) → g' k = g k) ∧ (∀ i, ¬ (25 ≤ i ∧ i ≤ 40) → ζ' i = ζ i) ∧ (∀ k, ¬ (k = 21 ∨ (28 ≤ k ∧ k ≤ 34)) → γ' k = γ k) ∧ iv_L z' g' ζ' γ' ∧ (∀ i, i < 58 → γ' 21 i = g' (h + 1) i) ∧ rW (g' (h + 1)) := by
  obtain ⟨l1, l2, h5, h21, h24, hL⟩ := hr
  obtain ⟨n, f', fa', en', wr', inn', ζ1, γ1, v1, v2, R, F1, F2⟩ := rg_walk (D := fun _ => False) hh ta13 l1 l2 h5 h21 h24 hL (fun i hi => Or.inl (hH i hi)) hW
  obtain ⟨rh, rw', ⟨r27, r28, r29, r37⟩, -, ⟨r26, w, hw, ew, hen⟩, ⟨e30, he⟩, -⟩ := R
  have eH : ∀ i, i < 58 → γ1 21 i = f' i := fun i hi => by
    rcases rh i hi with q | ⟨r, -, q, -⟩
    · exact q
    · exact q.elim
  have kw := kw_all hw (fa' 0) ζ1 γ1 (r26.trans ew)
  have hh2 : h + 1 ≠ 14 ∧ h + 1 ≠ 15 := by rcases hh with rfl | rfl <;> decide
  obtain ⟨k0, k1, k2, k3, k4, k5, k6, k7⟩ := kw_at (x := γ1 33) (v0 := fa' 0) (v1 := if fa' 0 = 0 then -1 else ζ1 31) (v2 := if fa' 0 = 4 then ζ1 32 else -1) (v3 := if fa' 0 = 5 then ζ1 33 else 0) (v4 := ζ1 27) (v5 := γ1 21 57) (v6 := ζ1 28) (v7 := ζ1 29)
  refine ⟨n, fa' 0, _, _, ζ1, γ1, _, _, v1, v2, kw, fun i hi => ?_, fun k hk => ?_, fun i hi => ?_, fun k hk => ?_, ⟨?_, ?_, ?_, ⟨w, hw, ?_, fun i hi => ?_⟩, Or.inr ⟨?_, fun i hi => ?_⟩⟩, fun i hi => ?_, ?_⟩
  · rw [PZ_o ta13 (by omega), pp_up_ne _ _ (by omega), pp_up_ne _ _ (by omega)]
  · unfold PG
    rw [pp_up_ne _ _ (by omega), pp_up_ne _ _ (by omega), pp_up_ne _ _ (by omega)]
  · rw [pp_up_ne _ _ (by omega), pp_up_ne _ _ (by omega), pp_up_ne _ _ (by omega)]
    exact F1 i (by omega)
  · rw [pp_up_ne _ _ (by omega), pp_up_ne _ _ (by omega)]
    exact F2 k (by omega)
  · exact PZ_1 (t := 13)
  · rw [pp_up_ne _ _ (by decide), pp_up_eq]
    refine Eq.trans ?_ (PZ_2 (t := 13) ta13).symm
    rcases he with ⟨q0, -, -, -, q4⟩ | ⟨-, -, -, -, q5, q6⟩
    · rw [if_neg (by rw [q0]; decide), q4]
    · by_cases e : fa' 0 = 5
      · rw [if_pos e, (q5 e).2]
      · rw [if_neg e, (q6 e).2.1]
  · rw [pp_up_eq]
    exact ew.symm.trans (PZ_3 (t := 13) ta13).symm
  · exact (PZ_3 (t := 13) ta13).trans ew
  · rw [pp_up_eq, if_pos ⟨Nat.zero_le _, hi⟩, hen i hi]
    exact (congrFun (PG_2 (t := 13)) i).symm
  · rw [pp_up_ne _ _ (by decide), pp_up_ne _ _ (by decide), pp_up_eq]; decide
  · rw [pp_up_ne _ _ (by decide), pp_up_eq]
    refine Eq.trans ?_ (congrFun (PG_1 (t := 13) hh ta13) i).symm
    rcases (show i = 0 ∨ i = 1 ∨ i = 2 ∨ i = 3 ∨ i = 4 ∨ i = 5 ∨ i = 6 ∨ i = 7 by omega) with rfl | rfl | rfl | rfl | rfl | rfl | rfl | rfl
    · rw [k0, pk_un (by decide)]
    · rw [k1, pk_un (by decide)]
      rcases he with ⟨q0, q1, -⟩ | ⟨⟨k, j1, j2, j3⟩, q1, -⟩
      · rw [if_pos q0, q1]
      · rw [if_neg (by rw [j3]; exact nI_ne0 (by omega) (by omega)), q1]
    · rw [k2, pk_un (by decide)]
      rcases he with ⟨q0, -, q2, -⟩ | ⟨-, -, q3, q4, -⟩
      · rw [if_neg (by rw [q0]; decide), q2]
      · by_cases e : fa' 0 = 4
        · rw [if_pos e, q3 e]
        · rw [if_neg e, q4 e]
    · rw [k3, pk_un (by decide)]
      rcases he with ⟨q0, -, -, q3, -⟩ | ⟨-, -, -, -, q5, q6⟩
      · rw [if_neg (by rw [q0]; decide), q3]
      · by_cases e : fa' 0 = 5
        · rw [if_pos e, (q5 e).1]
        · rw [if_neg e, (q6 e).1]
    · rw [k4, pk_un (by decide), r27]
    · rw [k5, pk_us, eH 57 (by decide)]
    · rw [k6, pk_un (by decide), r28]
    · rw [k7, pk_un (by decide), r29]
  · rw [pp_up_ne _ _ (by decide), pp_up_ne _ _ (by decide), PG_h hh ta13]
    exact eH i hi
  · rw [PG_h hh ta13]; exact rw'
end
