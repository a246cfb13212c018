/-! numbers and scanning -/
theorem pp_lit (n : Nat) : (OfNat.ofNat n : Int32) = nI n := rfl
theorem pp_m1 : (-1 : Int32).toInt = -1 := by decide
theorem pp_nI_m1 {n : Nat} (h : n < 2 ^ 31) : ¬ nI n = (-1 : Int32) := by
  intro e
  have := congrArg Int32.toInt e
  rw [nI_toInt h, pp_m1] at this
  omega
theorem pp_nI_neg {n : Nat} (h : n < 2 ^ 31) : ¬ nI n < 0 := nI_pos h
theorem pp_up_self (z : Nat → Int32) (i : Nat) (v : Int32) (h : z i = v) : va_up z i v = z := by
  funext j
  unfold va_up
  by_cases hj : j = i
  · rw [if_pos hj, hj, h]
  · rw [if_neg hj]
theorem pp_up_up (z : Nat → Int32) (i : Nat) (v w : Int32) : va_up (va_up z i v) i w = va_up z i w := by
  funext j
  unfold va_up
  by_cases hj : j = i
  · rw [if_pos hj, if_pos hj]
  · rw [if_neg hj, if_neg hj, if_neg hj]
theorem pp_up_eq {α : Type} (z : Nat → α) (i : Nat) (v : α) : va_up z i v i = v := by simp [va_up]
theorem pp_up_ne {α : Type} (z : Nat → α) {i j : Nat} (v : α) (h : j ≠ i) : va_up z i v j = z j := by simp [va_up, h]
def pp_sk (tx : Nat → Int32) (len : Nat) : Nat → Nat → Nat
  | 0, p => p
  | n + 1, p => if p < len ∧ tx p = 32 then pp_sk tx len n (p + 1) else p
/-- the next place, from p on, that is no blank (len: none) -/
def pp_s (tx : Nat → Int32) (len p : Nat) : Nat := pp_sk tx len (len - p) p
theorem pp_s_blank {tx : Nat → Int32} {len p : Nat} (h : p < len) (hb : tx p = 32) : pp_s tx len p = pp_s tx len (p + 1) := by
  unfold pp_s
  obtain ⟨n, hn⟩ : ∃ n, len - p = n + 1 := ⟨len - p - 1, by omega⟩
  rw [hn, pp_sk, if_pos ⟨h, hb⟩]
  congr 1
  omega
theorem pp_s_stop {tx : Nat → Int32} {len p : Nat} (h : ¬ (p < len ∧ tx p = 32)) : pp_s tx len p = p := by
  unfold pp_s
  cases len - p with
  | zero => rfl
  | succ n => rw [pp_sk, if_neg h]
theorem pp_s_spec (tx : Nat → Int32) (len : Nat) : ∀ (n p : Nat), len - p ≤ n → p ≤ len → p ≤ pp_s tx len p ∧ pp_s tx len p ≤ len ∧ (∀ i, p ≤ i → i < pp_s tx len p → tx i = 32) ∧ (pp_s tx len p < len → ¬ tx (pp_s tx len p) = 32) := by
  intro n
  induction n with
  | zero =>
    intro p h1 h2
    rw [pp_s_stop (by omega)]
    exact ⟨Nat.le_refl _, h2, fun i a b => by omega, fun q => by omega⟩
  | succ n ih =>
    intro p h1 h2
    by_cases hb : p < len ∧ tx p = 32
    · rw [pp_s_blank hb.1 hb.2]
      obtain ⟨a, b, c, d⟩ := ih (p + 1) (by omega) (by omega)
      refine ⟨by omega, b, fun i h3 h4 => ?_, d⟩
      by_cases hi : i = p
      · rw [hi]; exact hb.2
      · exact c i (by omega) h4
    · rw [pp_s_stop hb]
      exact ⟨Nat.le_refl _, h2, fun i a b => by omega, fun q e => hb ⟨q, e⟩⟩
theorem pp_s_ge {tx : Nat → Int32} {len p : Nat} (h : p ≤ len) : p ≤ pp_s tx len p := (pp_s_spec tx len _ p (Nat.le_refl _) h).1
theorem pp_s_le {tx : Nat → Int32} {len p : Nat} (h : p ≤ len) : pp_s tx len p ≤ len := (pp_s_spec tx len _ p (Nat.le_refl _) h).2.1
theorem pp_s_nb {tx : Nat → Int32} {len p : Nat} (h : p ≤ len) (hq : pp_s tx len p < len) : ¬ tx (pp_s tx len p) = 32 := (pp_s_spec tx len _ p (Nat.le_refl _) h).2.2.2 hq
theorem pp_s_s {tx : Nat → Int32} {len p : Nat} (h : p ≤ len) : pp_s tx len (pp_s tx len p) = pp_s tx len p := pp_s_stop (fun q => pp_s_nb h q.1 q.2)
/-- from any place in between the next is the same -/
theorem pp_s_mid {tx : Nat → Int32} {len : Nat} : ∀ (n p q : Nat), q - p ≤ n → p ≤ q → q ≤ len → (∀ i, p ≤ i → i < q → tx i = 32) → pp_s tx len p = pp_s tx len q := by
  intro n
  induction n with
  | zero => intro p q h1 h2 h3 h4; have : p = q := by omega
            rw [this]
  | succ n ih =>
    intro p q h1 h2 h3 h4
    by_cases hp : p = q
    · rw [hp]
    · rw [pp_s_blank (by omega) (h4 p (Nat.le_refl _) (by omega))]
      exact ih (p + 1) q (by omega) (by omega) h3 (fun i a b => h4 i (by omega) b)
theorem pp_s_congr {tx ty : Nat → Int32} {len : Nat} (h : ∀ i, i < len → tx i = ty i) (p : Nat) : pp_s tx len p = pp_s ty len p := by
  unfold pp_s
  generalize len - p = n
  induction n generalizing p with
  | zero => rfl
  | succ n ih =>
    rw [pp_sk, pp_sk]
    by_cases hp : p < len
    · rw [h p hp, ih]
    · rw [if_neg (fun q => hp q.1), if_neg (fun q => hp q.1)]
/-- the sign there, or -1 -/
def pp_c (tx : Nat → Int32) (len p : Nat) : Int32 := if p < len then tx p else -1
theorem pp_nextSign {z : Nat → Int32} {g : Nat → Nat → Int32} {len : Nat} (h4 : z 4 = nI len) (hl : len ≤ 100) : ∀ (n m p : Nat), len - p ≤ n → n < m → p ≤ len → z 8 = nI p → O_X3_nextSign_0 m z g ∧ T_X3_nextSign_0 m z g = (pp_c (g 8) len (pp_s (g 8) len p), va_up z 8 (nI (pp_s (g 8) len p)), g) := by
  intro n
  induction n generalizing z with
  | zero =>
    intro m p h1 h2 h3 h8
    obtain ⟨m, rfl⟩ : ∃ k, m = k + 1 := ⟨m - 1, by omega⟩
    have hp : p = len := by omega
    have hc : z 4 ≤ z 8 := by rw [h4, h8, hp]; exact nI_le (Nat.le_refl _) (by omega)
    rw [O_X3_nextSign_0, T_X3_nextSign_0, if_pos hc, T_X3_nextSign_38, if_pos hc, pp_s_stop (by omega), pp_up_self z 8 _ h8, pp_c, if_neg (by omega)]
    exact ⟨⟨fun _ => ⟨fun _ => trivial, fun q => absurd hc q⟩, fun q => absurd hc q⟩, rfl⟩
  | succ n ih =>
    intro m p h1 h2 h3 h8
    obtain ⟨m, rfl⟩ : ∃ k, m = k + 1 := ⟨m - 1, by omega⟩
    by_cases hp : p = len
    · have hc : z 4 ≤ z 8 := by rw [h4, h8, hp]; exact nI_le (Nat.le_refl _) (by omega)
      rw [O_X3_nextSign_0, T_X3_nextSign_0, if_pos hc, T_X3_nextSign_38, if_pos hc, pp_s_stop (by omega), pp_up_self z 8 _ h8, pp_c, if_neg (by omega)]
      exact ⟨⟨fun _ => ⟨fun _ => trivial, fun q => absurd hc q⟩, fun q => absurd hc q⟩, rfl⟩
    · have hpl : p < len := by omega
      have hc : ¬ z 4 ≤ z 8 := by rw [h4, h8]; exact nI_ge hpl (by omega)
      have hin : vp_in (z 8) 100 := by rw [h8]; exact vp_in_nI (by omega) (by decide)
      have hcl : (z 8).toNatClampNeg = p := by rw [h8]; exact nI_clamp (by omega)
      rw [O_X3_nextSign_0, T_X3_nextSign_0, if_neg hc, hcl]
      by_cases hb : g 8 p = 32
      · have e8 : va_up z 8 (z 8 + 1) 8 = nI (p + 1) := by rw [pp_up_eq, h8, nI_1]
        have e4 : va_up z 8 (z 8 + 1) 4 = nI len := by rw [pp_up_ne _ _ (by decide)]; exact h4
        obtain ⟨a, b⟩ := ih (z := va_up z 8 (z 8 + 1)) e4 m (p + 1) (by omega) (by omega) (by omega) e8
        rw [if_pos hb, pp_s_blank hpl hb, b, pp_up_up]
        exact ⟨⟨fun q => absurd q hc, fun _ => ⟨hin, fun _ => a, fun q => absurd hb q⟩⟩, rfl⟩
      · rw [if_neg hb, pp_s_stop (fun q => hb q.2), T_X3_nextSign_38, if_neg hc, hcl, pp_up_self z 8 _ h8, pp_c, if_pos hpl]
        exact ⟨⟨fun q => absurd q hc, fun _ => ⟨hin, fun q => absurd q hb, fun _ => ⟨fun q => absurd q hc, fun _ => ⟨hin, trivial⟩⟩⟩⟩, rfl⟩
theorem pp_nx {z : Nat → Int32} {g : Nat → Nat → Int32} {len p : Nat} (h4 : z 4 = nI len) (hl : len ≤ 100) (hp : p ≤ len) (h8 : z 8 = nI p) : O_X3_nextSign z g ∧ T_X3_nextSign z g = (pp_c (g 8) len (pp_s (g 8) len p), va_up z 8 (nI (pp_s (g 8) len p)), g) := pp_nextSign h4 hl 100 500 p (by omega) (by decide) hp h8
theorem pp_skip0 {z : Nat → Int32} {g : Nat → Nat → Int32} {len : Nat} (h4 : z 21 = nI len) (hl : len ≤ 100) : ∀ (n m p : Nat), len - p ≤ n → n < m → p ≤ len → z 25 = nI p → O_X6_skip_0 m z g ∧ T_X6_skip_0 m z g = (0, va_up z 25 (nI (pp_s (g 24) len p)), g) := by
  intro n
  induction n generalizing z with
  | zero =>
    intro m p h1 h2 h3 h8
    obtain ⟨m, rfl⟩ : ∃ k, m = k + 1 := ⟨m - 1, by omega⟩
    have hp : p = len := by omega
    have hc : z 21 ≤ z 25 := by rw [h4, h8, hp]; exact nI_le (Nat.le_refl _) (by omega)
    rw [O_X6_skip_0, T_X6_skip_0, if_pos hc, pp_s_stop (by omega), pp_up_self z 25 _ h8]
    exact ⟨⟨fun _ => trivial, fun q => absurd hc q⟩, rfl⟩
  | succ n ih =>
    intro m p h1 h2 h3 h8
    obtain ⟨m, rfl⟩ : ∃ k, m = k + 1 := ⟨m - 1, by omega⟩
    by_cases hp : p = len
    · have hc : z 21 ≤ z 25 := by rw [h4, h8, hp]; exact nI_le (Nat.le_refl _) (by omega)
      rw [O_X6_skip_0, T_X6_skip_0, if_pos hc, pp_s_stop (by omega), pp_up_self z 25 _ h8]
      exact ⟨⟨fun _ => trivial, fun q => absurd hc q⟩, rfl⟩
    · have hpl : p < len := by omega
      have hc : ¬ z 21 ≤ z 25 := by rw [h4, h8]; exact nI_ge hpl (by omega)
      have hin : vp_in (z 25) 100 := by rw [h8]; exact vp_in_nI (by omega) (by decide)
      have hcl : (z 25).toNatClampNeg = p := by rw [h8]; exact nI_clamp (by omega)
      rw [O_X6_skip_0, T_X6_skip_0, if_neg hc, hcl]
      by_cases hb : g 24 p = 32
      · have e8 : va_up z 25 (z 25 + 1) 25 = nI (p + 1) := by rw [pp_up_eq, h8, nI_1]
        have e4 : va_up z 25 (z 25 + 1) 21 = nI len := by rw [pp_up_ne _ _ (by decide)]; exact h4
        obtain ⟨a, b⟩ := ih (z := va_up z 25 (z 25 + 1)) e4 m (p + 1) (by omega) (by omega) (by omega) e8
        rw [if_pos hb, pp_s_blank hpl hb, b, pp_up_up]
        exact ⟨⟨fun q => absurd q hc, fun _ => ⟨hin, fun _ => a, fun q => absurd hb q⟩⟩, rfl⟩
      · rw [if_neg hb, pp_s_stop (fun q => hb q.2), pp_up_self z 25 _ h8]
        exact ⟨⟨fun q => absurd q hc, fun _ => ⟨hin, fun q => absurd q hb, fun _ => trivial⟩⟩, rfl⟩
theorem pp_skip {z : Nat → Int32} {g : Nat → Nat → Int32} {len p : Nat} (h4 : z 21 = nI len) (hl : len ≤ 100) (hp : p ≤ len) (h8 : z 25 = nI p) : O_X6_skip z g ∧ T_X6_skip z g = (0, va_up z 25 (nI (pp_s (g 24) len p)), g) := pp_skip0 h4 hl 100 500 p (by omega) (by decide) hp h8
