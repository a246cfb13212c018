/-! the porter's cells: his house's row f, his tale's facts fa, entries en, and wr, inn, dr -/
theorem up_comm {α : Type} (g : Nat → α) {i j : Nat} (a b : α) (h : i ≠ j) : va_up (va_up g i a) j b = va_up (va_up g j b) i a := by
  funext k
  unfold va_up
  by_cases h1 : k = j
  · subst h1
    rw [if_pos rfl, if_neg (fun e => h e.symm), if_pos rfl]
  · rw [if_neg h1]
    by_cases h2 : k = i
    · rw [if_pos h2, if_pos h2]
    · rw [if_neg h2, if_neg h2, if_neg h1]
theorem up_up {α : Type} (g : Nat → α) (i : Nat) (a b : α) : va_up (va_up g i a) i b = va_up g i b := bx_uu g i a b
def PZ (z : Nat → Int32) (t : Nat) (wr inn dr : Int32) : Nat → Int32 := va_up (va_up (va_up z (t - 3) wr) (t - 2) inn) (t - 1) dr
def PG (g : Nat → Nat → Int32) (h t : Nat) (f fa en : Nat → Int32) : Nat → Nat → Int32 := va_up (va_up (va_up g (h + 1) f) (t + 1) fa) (t + 2) en
section
variable {z : Nat → Int32} {g : Nat → Nat → Int32} {h t : Nat} {f fa en : Nat → Int32} {wr inn dr : Int32} (hh : nr_ho h) (ht : nr_ta t)
theorem PG_ne (hh : nr_ho h) (ht : nr_ta t) : h + 1 ≠ t + 1 ∧ h + 1 ≠ t + 2 ∧ t + 1 ≠ t + 2 ∧ t - 3 ≠ t - 2 ∧ t - 3 ≠ t - 1 ∧ t - 2 ≠ t - 1 := by
  rcases hh with rfl | rfl <;> rcases ht with rfl | rfl <;> decide
theorem PZ_3 (ht : nr_ta t) : PZ z t wr inn dr (t - 3) = wr := by
  obtain ⟨-, -, -, a, b, c⟩ := PG_ne (h := 1) (Or.inl rfl) ht
  unfold PZ; rw [pp_up_ne _ _ b, pp_up_ne _ _ a, pp_up_eq]
theorem PZ_2 (ht : nr_ta t) : PZ z t wr inn dr (t - 2) = inn := by
  obtain ⟨-, -, -, a, b, c⟩ := PG_ne (h := 1) (Or.inl rfl) ht
  unfold PZ; rw [pp_up_ne _ _ c, pp_up_eq]
theorem PZ_1 : PZ z t wr inn dr (t - 1) = dr := by
  unfold PZ; rw [pp_up_eq]
theorem PZ_s3 (ht : nr_ta t) (v : Int32) : va_up (PZ z t wr inn dr) (t - 3) v = PZ z t v inn dr := by
  obtain ⟨-, -, -, a, b, c⟩ := PG_ne (h := 1) (Or.inl rfl) ht
  unfold PZ; rw [up_comm _ _ _ b.symm, up_comm _ _ _ a.symm, up_up]
theorem PZ_s2 (ht : nr_ta t) (v : Int32) : va_up (PZ z t wr inn dr) (t - 2) v = PZ z t wr v dr := by
  obtain ⟨-, -, -, a, b, c⟩ := PG_ne (h := 1) (Or.inl rfl) ht
  unfold PZ; rw [up_comm _ _ _ c.symm, up_up]
theorem PZ_s1 (v : Int32) : va_up (PZ z t wr inn dr) (t - 1) v = PZ z t wr inn v := by
  unfold PZ; rw [up_up]
theorem PZ_o (ht : nr_ta t) {i : Nat} (hi : i < 10 ∨ 15 < i) : PZ z t wr inn dr i = z i := by
  unfold PZ
  rcases ht with rfl | rfl <;> rw [pp_up_ne _ _ (by omega), pp_up_ne _ _ (by omega), pp_up_ne _ _ (by omega)]
theorem PG_h (hh : nr_ho h) (ht : nr_ta t) : PG g h t f fa en (h + 1) = f := by
  obtain ⟨a, b, c, -⟩ := PG_ne hh ht
  unfold PG; rw [pp_up_ne _ _ b, pp_up_ne _ _ a, pp_up_eq]
theorem PG_1 (hh : nr_ho h) (ht : nr_ta t) : PG g h t f fa en (t + 1) = fa := by
  obtain ⟨a, b, c, -⟩ := PG_ne hh ht
  unfold PG; rw [pp_up_ne _ _ c, pp_up_eq]
theorem PG_2 : PG g h t f fa en (t + 2) = en := by
  unfold PG; rw [pp_up_eq]
theorem PG_sh (hh : nr_ho h) (ht : nr_ta t) (v : Nat → Int32) : va_up (PG g h t f fa en) (h + 1) v = PG g h t v fa en := by
  obtain ⟨a, b, c, -⟩ := PG_ne hh ht
  unfold PG; rw [up_comm _ _ _ b.symm, up_comm _ _ _ a.symm, up_up]
theorem PG_s1 (hh : nr_ho h) (ht : nr_ta t) (v : Nat → Int32) : va_up (PG g h t f fa en) (t + 1) v = PG g h t f v en := by
  obtain ⟨a, b, c, -⟩ := PG_ne hh ht
  unfold PG; rw [up_comm _ _ _ c.symm, up_up]
theorem PG_s2 (v : Nat → Int32) : va_up (PG g h t f fa en) (t + 2) v = PG g h t f fa v := by
  unfold PG; rw [up_up]
theorem PG_o (hh : nr_ho h) (ht : nr_ta t) {k : Nat} (hk : (5 ≤ k ∧ k ≤ 13) ∨ 18 < k ∨ k < 2) : PG g h t f fa en k = g k := by
  unfold PG
  rcases hh with rfl | rfl <;> rcases ht with rfl | rfl <;> rw [pp_up_ne _ _ (by omega), pp_up_ne _ _ (by omega), pp_up_ne _ _ (by omega)]
/-- a row of literal places -/
theorem pp_st_lit {k i : Nat} (hi : i < 2 ^ 31) (g : Nat → Nat → Int32) (v : Int32) : nr_st g k (nI i) v = va_up g k (upd (g k) i v) := by
  unfold nr_st; rw [nI_clamp hi]
theorem cp_cell (b : Nat) {r w : Nat} (hr : r < 8) (hw : w < 7) (z : Nat → Int32) (g : Nat → Nat → Int32) : R_X0_cell b (nI r) (nI w) z g = g (b + 1) (7 * r + w) ∧ O_X0_cell b (nI r) (nI w) z g := by
  have e : nI r * 7 + nI w = nI (7 * r + w) := by
    rw [show (7 : Int32) = nI 7 from rfl, pk_mul, nI_add, Nat.mul_comm]
  have n1 : ¬ nI (7 * r + w) < 0 := nI_pos (by omega)
  have n2 : ¬ (58 : Int32) ≤ nI (7 * r + w) := nI_ge (b := 58) (by omega) (by decide)
  unfold R_X0_cell O_X0_cell
  rw [e, if_neg n1, if_neg n2, nI_clamp (by omega)]
  exact ⟨rfl, fun q => absurd q n1, fun _ => ⟨fun q => absurd q n2, fun _ => ⟨vp_in_nI (by omega) (by decide), trivial⟩⟩⟩
theorem cp_set (b : Nat) {r w : Nat} (hr : r < 8) (hw : w < 7) (v : Int32) (z : Nat → Int32) (g : Nat → Nat → Int32) : nr_V (O_X0_setCell b (nI r) (nI w) v z g) (T_X0_setCell b (nI r) (nI w) v z g) (0, z, va_up g (b + 1) (upd (g (b + 1)) (7 * r + w) v)) := by
  have e : nI r * 7 + nI w = nI (7 * r + w) := by
    rw [show (7 : Int32) = nI 7 from rfl, pk_mul, nI_add, Nat.mul_comm]
  unfold O_X0_setCell T_X0_setCell
  rw [e]
  refine V_neg (nI_pos (by omega)) (V_neg (nI_ge (b := 58) (by omega) (by decide)) (V_and (vp_in_nI (by omega) (by decide)) (V_T ?_)))
  rw [pp_st_lit (by omega)]
theorem cp_at {k i : Nat} (hk : k < 36) {N : Nat} (hN : nr_il k = N) (hi : i < N) (hN2 : N < 2 ^ 31) (z : Nat → Int32) (g : Nat → Nat → Int32) : R_X5_at k (nI i) z g = g k i ∧ O_X5_at k (nI i) z g := by
  have er : nr_rl k = N := by unfold nr_rl; rw [if_pos hk]; exact hN
  have n1 : ¬ nI i < 0 := nI_pos (by omega)
  have n2 : ¬ Int32.ofNat N ≤ nI i := nI_ge hi hN2
  unfold R_X5_at O_X5_at nr_rd
  rw [er, if_neg n1, if_neg n2, if_pos hk, nI_clamp (by omega)]
  exact ⟨rfl, fun q => absurd q n1, fun _ => ⟨by omega, fun q => absurd q n2, fun _ => ⟨by omega, vp_in_nI hi hN2, trivial⟩⟩⟩
theorem cp_fact (hh : nr_ho h) (ht : nr_ta t) {i : Nat} (hi : i < 8) : R_X4_fact t (nI i) (PZ z t wr inn dr) (PG g h t f fa en) = fa i ∧ O_X4_fact t (nI i) (PZ z t wr inn dr) (PG g h t f fa en) := by
  unfold R_X4_fact O_X4_fact
  obtain ⟨a, b⟩ := cp_at (k := t + 1) (i := i) (N := 8) (by rcases ht with rfl | rfl <;> decide) (nr_il_t1 ht) hi (by decide) (PZ z t wr inn dr) (PG g h t f fa en)
  rw [a, PG_1 hh ht]
  exact ⟨rfl, b, trivial⟩
theorem cp_script {k : Nat} (hh : nr_ho h) (ht : nr_ta t) (hk : 9 ≤ k ∧ k ≤ 12) {i : Nat} (hi : i < 100) : R_X5_at k (nI i) (PZ z t wr inn dr) (PG g h t f fa en) = g k i ∧ O_X5_at k (nI i) (PZ z t wr inn dr) (PG g h t f fa en) := by
  have hil : nr_il k = 100 := by
    rcases (show k = 9 ∨ k = 10 ∨ k = 11 ∨ k = 12 by omega) with rfl | rfl | rfl | rfl <;> rfl
  obtain ⟨a, b⟩ := cp_at (k := k) (i := i) (N := 100) (by omega) hil hi (by decide) (PZ z t wr inn dr) (PG g h t f fa en)
  rw [a, PG_o hh ht (by omega)]
  exact ⟨rfl, b⟩
end
