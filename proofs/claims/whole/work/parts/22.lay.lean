/-! how acts lie in the text: F 0 signs, 1 figures, 2 middles, 3 nexts (by act), 4 slashOf, 5 endOf (by place) -/
def ly_one (L : Nat → Nat → Nat → Nat → Prop) (tx : Nat → Int32) (len : Nat) (F : Nat → Nat → Int32) (a s e c b : Nat) (cl : Int32) : Prop := ∃ q, F 2 a = nI c ∧ s < b ∧ b ≤ q ∧ L (a + 1) c b q ∧ q < len ∧ tx q = cl ∧ F 5 s = nI q ∧ e = q + 1
def ly_two (L : Nat → Nat → Nat → Nat → Prop) (tx : Nat → Int32) (len : Nat) (F : Nat → Nat → Int32) (a s e c b : Nat) (cl : Int32) : Prop := ∃ m q1 q2, F 2 a = nI m ∧ s < b ∧ b ≤ q1 ∧ a < m ∧ m ≤ c ∧ L (a + 1) m b q1 ∧ q1 < len ∧ tx q1 = 47 ∧ F 4 s = nI q1 ∧ q1 + 1 ≤ q2 ∧ L m c (q1 + 1) q2 ∧ q2 < len ∧ tx q2 = cl ∧ F 5 s = nI q2 ∧ e = q2 + 1
def ly_smp (c : Int32) : Prop := c = 108 ∨ c = 107 ∨ c = 119 ∨ c = 98 ∨ c = 43
def ly_act (L : Nat → Nat → Nat → Nat → Prop) (tx : Nat → Int32) (len : Nat) (F : Nat → Nat → Int32) (a s e c : Nat) : Prop := a < c ∧ s < e ∧ e ≤ len ∧ F 3 a = nI c ∧
  ((ly_smp (tx s) ∧ F 0 a = tx s ∧ e = s + 1 ∧ c = a + 1)
  ∨ (tx s = 33 ∧ F 0 a = 33 ∧ pp_s tx len (s + 1) < len ∧ pp_dg (tx (pp_s tx len (s + 1))) ∧ F 1 a = tx (pp_s tx len (s + 1)) - 48 ∧ e = pp_s tx len (s + 1) + 1 ∧ c = a + 1)
  ∨ ((48 : Int32) ≤ tx s ∧ tx s ≤ 55 ∧ F 0 a = 82 ∧ F 1 a = tx s - 48 ∧ pp_s tx len (s + 1) < len ∧ tx (pp_s tx len (s + 1)) = 123 ∧ ly_one L tx len F a s e c (pp_s tx len (s + 1) + 1) 125)
  ∨ (tx s = 40 ∧ F 0 a = 40 ∧ ly_two L tx len F a s e c (s + 1) 41)
  ∨ (tx s = 91 ∧ F 0 a = 91 ∧ ly_two L tx len F a s e c (s + 1) 93)
  ∨ (tx s = 60 ∧ F 0 a = 60 ∧ ly_one L tx len F a s e c (s + 1) 62)
  ∨ (tx s = 120 ∧ F 0 a = 120 ∧ pp_s tx len (s + 1) < len ∧ pp_dg (tx (pp_s tx len (s + 1))) ∧ F 1 a = tx (pp_s tx len (s + 1)) - 48 ∧ pp_s tx len (pp_s tx len (s + 1) + 1) < len ∧ tx (pp_s tx len (pp_s tx len (s + 1) + 1)) = 58 ∧ ly_one L tx len F a s e c (pp_s tx len (pp_s tx len (s + 1) + 1) + 1) 59))
def ly_seq (A : Nat → Nat → Nat → Nat → Prop) (tx : Nat → Int32) (len : Nat) : Nat → Nat → Nat → Nat → Nat → Prop
  | 0, a, b, p, q => a = b ∧ p ≤ len ∧ q = pp_s tx len p
  | n + 1, a, b, p, q => ∃ e c, p ≤ len ∧ pp_s tx len p < len ∧ A a (pp_s tx len p) e c ∧ c ≤ b ∧ e ≤ q ∧ ly_seq A tx len n c b e q
def ly (tx : Nat → Int32) (len : Nat) (F : Nat → Nat → Int32) : Nat → Nat → Nat → Nat → Nat → Prop
  | 0 => fun a b p q => ∃ n, ly_seq (ly_act (fun _ _ _ _ => False) tx len F) tx len n a b p q
  | j + 1 => fun a b p q => ∃ n, ly_seq (ly_act (ly tx len F j) tx len F) tx len n a b p q
def ly_ok (F F' : Nat → Nat → Int32) (a b p q : Nat) : Prop := (∀ k i, k < 4 → a ≤ i → i < b → F' k i = F k i) ∧ ∀ k i, 4 ≤ k → k < 6 → p ≤ i → i < q → F' k i = F k i
theorem ly_ok.sub {F F' : Nat → Nat → Int32} {a b p q a' b' p' q' : Nat} (h : ly_ok F F' a b p q) (h1 : a ≤ a') (h2 : b' ≤ b) (h3 : p ≤ p') (h4 : q' ≤ q) : ly_ok F F' a' b' p' q' := ⟨fun k i x y z => h.1 k i x (by omega) (by omega), fun k i x y z w => h.2 k i x y (by omega) (by omega)⟩
theorem ly_act_move {L L' : Nat → Nat → Nat → Nat → Prop} {tx : Nat → Int32} {len : Nat} {F F' : Nat → Nat → Int32} (hL : ∀ a b p q, ly_ok F F' a b p q → L a b p q → L' a b p q) {a s e c : Nat} (hk : ly_ok F F' a c s e) (h : ly_act L tx len F a s e c) : ly_act L' tx len F' a s e c := by
  obtain ⟨h1, h2, h3, h4, h5⟩ := h
  have k0 : ∀ k, k < 4 → F' k a = F k a := fun k hk4 => hk.1 k a hk4 (Nat.le_refl _) h1
  have k5 : ∀ k, 4 ≤ k → k < 6 → F' k s = F k s := fun k x y => hk.2 k s x y (Nat.le_refl _) h2
  have one : ∀ b cl, ly_one L tx len F a s e c b cl → ly_one L' tx len F' a s e c b cl := by
    rintro b cl ⟨q, a1, a2, a3, a4, a5, a6, a7, a8⟩
    exact ⟨q, by rw [k0 2 (by decide)]; exact a1, a2, a3, hL _ _ _ _ (hk.sub (by omega) (by omega) (by omega) (by omega)) a4, a5, a6, by rw [k5 5 (by decide) (by decide)]; exact a7, a8⟩
  have two : ∀ b cl, ly_two L tx len F a s e c b cl → ly_two L' tx len F' a s e c b cl := by
    rintro b cl ⟨m, q1, q2, a1, a2, a3, a4, a5, a6, a7, a8, a9, b1, b2, b3, b4, b5, b6⟩
    exact ⟨m, q1, q2, by rw [k0 2 (by decide)]; exact a1, a2, a3, a4, a5, hL _ _ _ _ (hk.sub (by omega) (by omega) (by omega) (by omega)) a6, a7, a8, by rw [k5 4 (by decide) (by decide)]; exact a9, b1, hL _ _ _ _ (hk.sub (by omega) (by omega) (by omega) (by omega)) b2, b3, b4, by rw [k5 5 (by decide) (by decide)]; exact b5, b6⟩
  refine ⟨h1, h2, h3, by rw [k0 3 (by decide)]; exact h4, ?_⟩
  rw [k0 0 (by decide), k0 1 (by decide)]
  rcases h5 with h | h | ⟨a1, a2, a3, a4, a5, a6, a7⟩ | ⟨a1, a2, a3⟩ | ⟨a1, a2, a3⟩ | ⟨a1, a2, a3⟩ | ⟨a1, a2, a3, a4, a5, a6, a7, a8⟩
  · exact Or.inl h
  · exact Or.inr (Or.inl h)
  · exact Or.inr (Or.inr (Or.inl ⟨a1, a2, a3, a4, a5, a6, one _ _ a7⟩))
  · exact Or.inr (Or.inr (Or.inr (Or.inl ⟨a1, a2, two _ _ a3⟩)))
  · exact Or.inr (Or.inr (Or.inr (Or.inr (Or.inl ⟨a1, a2, two _ _ a3⟩))))
  · exact Or.inr (Or.inr (Or.inr (Or.inr (Or.inr (Or.inl ⟨a1, a2, one _ _ a3⟩)))))
  · exact Or.inr (Or.inr (Or.inr (Or.inr (Or.inr (Or.inr ⟨a1, a2, a3, a4, a5, a6, a7, one _ _ a8⟩)))))
theorem ly_seq_move {L L' : Nat → Nat → Nat → Nat → Prop} {tx : Nat → Int32} {len : Nat} {F F' : Nat → Nat → Int32} (hL : ∀ a b p q, ly_ok F F' a b p q → L a b p q → L' a b p q) : ∀ (n a b p q : Nat), ly_ok F F' a b p q → ly_seq (ly_act L tx len F) tx len n a b p q → ly_seq (ly_act L' tx len F') tx len n a b p q
  | 0, a, b, p, q, _, h => h
  | n + 1, a, b, p, q, hk, ⟨e, c, h1, h2, h3, h4, h5, h6⟩ => by
    have hs := pp_s_ge (tx := tx) h1
    have ha := h3.1
    have hse := h3.2.1
    exact ⟨e, c, h1, h2, ly_act_move hL (hk.sub (Nat.le_refl _) h4 hs h5) h3, h4, h5, ly_seq_move hL n c b e q (hk.sub (by omega) (Nat.le_refl _) (by omega) (Nat.le_refl _)) h6⟩
theorem ly_move {tx : Nat → Int32} {len : Nat} {F F' : Nat → Nat → Int32} : ∀ (j a b p q : Nat), ly_ok F F' a b p q → ly tx len F j a b p q → ly tx len F' j a b p q
  | 0, a, b, p, q, hk, ⟨n, h⟩ => ⟨n, ly_seq_move (fun _ _ _ _ _ h => h) n a b p q hk h⟩
  | j + 1, a, b, p, q, hk, ⟨n, h⟩ => ⟨n, ly_seq_move (ly_move j) n a b p q hk h⟩
/-! the two readers' states and frames -/
def pa_CS (tx : Nat → Int32) (len p A : Nat) (dp rb : Int32) (z : Nat → Int32) (g : Nat → Nat → Int32) : Prop := z 4 = nI len ∧ z 5 = nI A ∧ z 6 = dp ∧ z 7 = rb ∧ z 8 = nI p ∧ g 8 = tx
def pa_RS (tx : Nat → Int32) (len s A : Nat) (dp rb : Int32) (z : Nat → Int32) (g : Nat → Nat → Int32) : Prop := z 21 = nI len ∧ z 22 = nI A ∧ z 23 = dp ∧ z 24 = rb ∧ z 25 = nI s ∧ ∀ i, i < len → g 24 i = tx i
def pa_Cw (z : Nat → Int32) (g : Nat → Nat → Int32) (z' : Nat → Int32) (g' : Nat → Nat → Int32) : Prop := (∀ i, ¬ (5 ≤ i ∧ i ≤ 9) → z' i = z i) ∧ ∀ k, ¬ (9 ≤ k ∧ k ≤ 12) → g' k = g k
def pa_C (A : Nat) (z : Nat → Int32) (g : Nat → Nat → Int32) (z' : Nat → Int32) (g' : Nat → Nat → Int32) : Prop := pa_Cw z g z' g' ∧ ∀ k i, i < A → g' k i = g k i
def pa_Rw (z : Nat → Int32) (g : Nat → Nat → Int32) (z' : Nat → Int32) (g' : Nat → Nat → Int32) : Prop := (∀ i, ¬ (22 ≤ i ∧ i ≤ 25) → z' i = z i) ∧ ∀ k, ¬ (25 ≤ k ∧ k ≤ 27) → g' k = g k
def pa_R (δ s : Nat) (z : Nat → Int32) (g : Nat → Nat → Int32) (z' : Nat → Int32) (g' : Nat → Nat → Int32) : Prop := pa_Rw z g z' g' ∧ (∀ j, j < δ → g' 27 j = g 27 j) ∧ ∀ i, i < s → g' 25 i = g 25 i ∧ g' 26 i = g 26 i
theorem pa_Cw.trans {z z1 z2 : Nat → Int32} {g g1 g2 : Nat → Nat → Int32} (h1 : pa_Cw z g z1 g1) (h2 : pa_Cw z1 g1 z2 g2) : pa_Cw z g z2 g2 := ⟨fun i hi => (h2.1 i hi).trans (h1.1 i hi), fun k hk => (h2.2 k hk).trans (h1.2 k hk)⟩
theorem pa_C.trans {A A' : Nat} {z z1 z2 : Nat → Int32} {g g1 g2 : Nat → Nat → Int32} (h1 : pa_C A z g z1 g1) (h2 : pa_C A' z1 g1 z2 g2) (hA : A ≤ A') : pa_C A z g z2 g2 := ⟨h1.1.trans h2.1, fun k i hi => (h2.2 k i (by omega)).trans (h1.2 k i hi)⟩
theorem pa_Rw.trans {z z1 z2 : Nat → Int32} {g g1 g2 : Nat → Nat → Int32} (h1 : pa_Rw z g z1 g1) (h2 : pa_Rw z1 g1 z2 g2) : pa_Rw z g z2 g2 := ⟨fun i hi => (h2.1 i hi).trans (h1.1 i hi), fun k hk => (h2.2 k hk).trans (h1.2 k hk)⟩
theorem pa_R.trans {δ s δ' s' : Nat} {z z1 z2 : Nat → Int32} {g g1 g2 : Nat → Nat → Int32} (h1 : pa_R δ s z g z1 g1) (h2 : pa_R δ' s' z1 g1 z2 g2) (hd : δ ≤ δ') (hs : s ≤ s') : pa_R δ s z g z2 g2 := ⟨h1.1.trans h2.1, fun j hj => (h2.2.1 j (by omega)).trans (h1.2.1 j hj), fun i hi => ⟨(h2.2.2 i (by omega)).1.trans (h1.2.2 i hi).1, (h2.2.2 i (by omega)).2.trans (h1.2.2 i hi).2⟩⟩
theorem pa_Cw.refl (z : Nat → Int32) (g : Nat → Nat → Int32) : pa_Cw z g z g := ⟨fun _ _ => rfl, fun _ _ => rfl⟩
theorem pa_C.refl (A : Nat) (z : Nat → Int32) (g : Nat → Nat → Int32) : pa_C A z g z g := ⟨pa_Cw.refl z g, fun _ _ _ => rfl⟩
theorem pa_Rw.refl (z : Nat → Int32) (g : Nat → Nat → Int32) : pa_Rw z g z g := ⟨fun _ _ => rfl, fun _ _ => rfl⟩
theorem pa_R.refl (δ s : Nat) (z : Nat → Int32) (g : Nat → Nat → Int32) : pa_R δ s z g z g := ⟨pa_Rw.refl z g, fun _ _ => rfl, fun _ _ => ⟨rfl, rfl⟩⟩
/-- the class writes a scalar of the reader, or a row's place from A on -/
theorem pa_C.z {A : Nat} {z : Nat → Int32} {g : Nat → Nat → Int32} {i : Nat} (hi : 5 ≤ i ∧ i ≤ 9) (v : Int32) : pa_C A z g (va_up z i v) g := ⟨⟨fun j hj => pp_up_ne _ _ (fun e => hj (e ▸ hi)), fun _ _ => rfl⟩, fun _ _ _ => rfl⟩
theorem pa_C.g {A : Nat} {z : Nat → Int32} {g : Nat → Nat → Int32} {k i : Nat} (hk : 9 ≤ k ∧ k ≤ 12) (hi : A ≤ i) (v : Int32) : pa_C A z g z (va_up g k (upd (g k) i v)) := by
  refine ⟨⟨fun _ _ => rfl, fun j hj => pp_up_ne _ _ (fun e => hj (e ▸ hk))⟩, fun j m hm => ?_⟩
  by_cases e : j = k
  · subst e
    rw [pp_up_eq, pk_un (by omega)]
  · rw [pp_up_ne _ _ e]
theorem pa_R.z {δ s : Nat} {z : Nat → Int32} {g : Nat → Nat → Int32} {i : Nat} (hi : 22 ≤ i ∧ i ≤ 25) (v : Int32) : pa_R δ s z g (va_up z i v) g := ⟨⟨fun j hj => pp_up_ne _ _ (fun e => hj (e ▸ hi)), fun _ _ => rfl⟩, fun _ _ => rfl, fun _ _ => ⟨rfl, rfl⟩⟩
theorem pa_R.g {δ s : Nat} {z : Nat → Int32} {g : Nat → Nat → Int32} {k i : Nat} (hk : (k = 27 ∧ δ ≤ i) ∨ ((k = 25 ∨ k = 26) ∧ s ≤ i)) (v : Int32) : pa_R δ s z g z (va_up g k (upd (g k) i v)) := by
  refine ⟨⟨fun _ _ => rfl, fun j hj => pp_up_ne _ _ (fun e => hj (by omega))⟩, fun j hj => ?_, fun m hm => ⟨?_, ?_⟩⟩
  · by_cases e : (27 : Nat) = k
    · rw [← e, pp_up_eq, pk_un (by omega)]
    · rw [pp_up_ne _ _ e]
  · by_cases e : (25 : Nat) = k
    · rw [← e, pp_up_eq, pk_un (by omega)]
    · rw [pp_up_ne _ _ e]
  · by_cases e : (26 : Nat) = k
    · rw [← e, pp_up_eq, pk_un (by omega)]
    · rw [pp_up_ne _ _ e]
/-! reaching, for the model's reader -/
def pa_D (a : Int32) (z : Nat → Int32) (g : Nat → Nat → Int32) (a' : Int32) (z' : Nat → Int32) (g' : Nat → Nat → Int32) : Prop := ∃ n, ∀ m w, nr_V (O_X6_reads_26 m a' z' g') (T_X6_reads_26 m a' z' g') w → nr_V (O_X6_reads_26 (m + n) a z g) (T_X6_reads_26 (m + n) a z g) w
def pa_T (a : Int32) (z : Nat → Int32) (g : Nat → Nat → Int32) (w : Int32 × nr_S) : Prop := ∃ n, ∀ m, nr_V (O_X6_reads_26 (m + n) a z g) (T_X6_reads_26 (m + n) a z g) w
theorem pa_D.refl (a : Int32) (z : Nat → Int32) (g : Nat → Nat → Int32) : pa_D a z g a z g := ⟨0, fun _ _ h => h⟩
theorem pa_D.trans {a a1 a2 : Int32} {z z1 z2 : Nat → Int32} {g g1 g2 : Nat → Nat → Int32} (h1 : pa_D a z g a1 z1 g1) (h2 : pa_D a1 z1 g1 a2 z2 g2) : pa_D a z g a2 z2 g2 := by
  obtain ⟨n1, h1⟩ := h1
  obtain ⟨n2, h2⟩ := h2
  exact ⟨n2 + n1, fun m w h => by rw [← Nat.add_assoc]; exact h1 _ _ (h2 _ _ h)⟩
theorem pa_D.ret {a a1 : Int32} {z z1 : Nat → Int32} {g g1 : Nat → Nat → Int32} {w : Int32 × nr_S} (h1 : pa_D a z g a1 z1 g1) (h2 : pa_T a1 z1 g1 w) : pa_T a z g w := by
  obtain ⟨n1, h1⟩ := h1
  obtain ⟨n2, h2⟩ := h2
  exact ⟨n2 + n1, fun m => by rw [← Nat.add_assoc]; exact h1 _ _ (h2 _)⟩
theorem pa_C.le {A A' : Nat} {z z1 : Nat → Int32} {g g1 : Nat → Nat → Int32} (h : pa_C A' z g z1 g1) (hA : A ≤ A') : pa_C A z g z1 g1 := ⟨h.1, fun k i hi => h.2 k i (by omega)⟩
theorem pa_R.le {δ δ' s s' : Nat} {z z1 : Nat → Int32} {g g1 : Nat → Nat → Int32} (h : pa_R δ' s' z g z1 g1) (hd : δ ≤ δ') (hs : s ≤ s') : pa_R δ s z g z1 g1 := ⟨h.1, fun j hj => h.2.1 j (by omega), fun i hi => h.2.2 i (by omega)⟩
