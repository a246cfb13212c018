/-! the porter's cells beside the model's -/
def cw (w : Nat) (x : Int32) : Prop := match w with
  | 0 => ∃ k, k ≤ 4 ∧ x = nI k
  | 1 => ∃ k, k ≤ 3 ∧ x = nI k
  | 2 => ∃ k, k ≤ 3 ∧ x = nI k
  | 3 => ∃ k, k ≤ 9 ∧ x = nI k
  | 4 => x = 0 ∨ x = 1
  | 5 => x = 0 ∨ x = 1
  | _ => ∃ k, k ≤ 9999 ∧ x = nI k
def rW (f : Nat → Int32) : Prop := (∀ r w, r < 8 → w < 7 → cw w (f (7 * r + w))) ∧ (∀ r, r < 8 → f (7 * r + 3) = 0 → f (7 * r + 4) = 0) ∧ ∃ k, k < 8 ∧ f 56 = nI (2 * k)
theorem rW_upd {f : Nat → Int32} (h : rW f) {r w : Nat} (hr : r < 8) (hw : w < 7) {v : Int32} (hv : cw w v) (h3 : w ≠ 3) (h4 : w = 4 → ¬ f (7 * r + 3) = 0) : rW (upd f (7 * r + w) v) := by
  obtain ⟨a, b, k, c, e⟩ := h
  refine ⟨fun r1 w1 hr1 hw1 => ?_, fun r1 hr1 q => ?_, k, c, ?_⟩
  · by_cases e1 : 7 * r1 + w1 = 7 * r + w
    · have : w1 = w := by omega
      subst this
      rw [e1, pk_us]; exact hv
    · rw [pk_un e1]; exact a r1 w1 hr1 hw1
  · rw [pk_un (by omega)] at q
    by_cases e1 : 7 * r1 + 4 = 7 * r + w
    · have e2 : r1 = r := by omega
      have e3 : w = 4 := by omega
      subst e2
      exact absurd q (h4 e3)
    · rw [pk_un e1]; exact b r1 hr1 q
  · rw [pk_un (by omega)]; exact e
theorem rW_keys {f : Nat → Int32} (h : rW f) {k : Nat} (hk : k < 8) : rW (upd f 56 (nI (2 * k))) := by
  obtain ⟨a, b, _, c, e⟩ := h
  exact ⟨fun r w hr hw => by rw [pk_un (by omega)]; exact a r w hr hw, fun r hr q => by rw [pk_un (by omega)] at q ⊢; exact b r hr q, k, hk, by rw [pk_us]⟩
theorem rW_sum {f : Nat → Int32} (h : rW f) (v : Int32) : rW (upd f 57 v) := by
  obtain ⟨a, b, k, c, e⟩ := h
  exact ⟨fun r w hr hw => by rw [pk_un (by omega)]; exact a r w hr hw, fun r hr q => by rw [pk_un (by omega)] at q ⊢; exact b r hr q, k, c, by rw [pk_un (by omega)]; exact e⟩
/-- the houses are the same, but whether one who isn't there is awake -/
def rH (D : Nat → Prop) (f k : Nat → Int32) : Prop := ∀ i, i < 58 → k i = f i ∨ ∃ r, r < 8 ∧ D r ∧ i = 7 * r + 4 ∧ f (7 * r + 3) = 0
theorem rH_upd {D : Nat → Prop} {f k : Nat → Int32} (h : rH D f k) {i : Nat} (hi : ∀ r, r < 8 → i ≠ 7 * r + 3) (v : Int32) : rH D (upd f i v) (upd k i v) := by
  intro j hj
  by_cases e : j = i
  · left; rw [e, pk_us, pk_us]
  · rcases h j hj with q | ⟨r, h1, h2, h3, h4⟩
    · left; rw [pk_un e, pk_un e]; exact q
    · right; exact ⟨r, h1, h2, h3, by rw [pk_un (fun q => hi r h1 q.symm)]; exact h4⟩
theorem rH_at {D : Nat → Prop} {f k : Nat → Int32} (h : rH D f k) {i : Nat} (hi : i < 58) (hn : ∀ r, r < 8 → i = 7 * r + 4 → ¬ f (7 * r + 3) = 0) : k i = f i := by
  rcases h i hi with q | ⟨r, h1, h2, h3, h4⟩
  · exact q
  · exact absurd h4 (hn r h1 h3)
def rD (en : Nat → Int32) (wr w26 : Int32) (k : Nat → Int32) : Prop := w26 = wr ∧ ∃ w, w ≤ 150 ∧ wr = nI w ∧ ∀ i, i < w → k i = en i
def rE (fa : Nat → Int32) (inn e30 e31 e32 e33 e34 : Int32) : Prop := e30 = fa 0 ∧ ((fa 0 = 0 ∧ fa 1 = -1 ∧ fa 2 = -1 ∧ fa 3 = 0 ∧ inn = -1) ∨ ((∃ k, 1 ≤ k ∧ k ≤ 6 ∧ fa 0 = nI k) ∧ e31 = fa 1 ∧ (fa 0 = 4 → e32 = fa 2) ∧ (¬ fa 0 = 4 → fa 2 = -1) ∧ (fa 0 = 5 → e33 = fa 3 ∧ e34 = inn) ∧ (¬ fa 0 = 5 → fa 3 = 0 ∧ inn = -1 ∧ e33 = 0 ∧ e34 = fa 0)))
def rS (tx : Nat → Int32) (len : Nat) (SL EN : Nat → Int32) (ζ : Nat → Int32) (γ : Nat → Nat → Int32) : Prop := ζ 21 = nI len ∧ (∀ i, i < len → γ 24 i = tx i) ∧ γ 26 = SL ∧ γ 25 = EN
def rr (D : Nat → Prop) (tx : Nat → Int32) (len : Nat) (SL EN : Nat → Int32) (f fa en : Nat → Int32) (wr inn dr : Int32) (ζ : Nat → Int32) (γ : Nat → Nat → Int32) : Prop :=
  rH D f (γ 21) ∧ rW f ∧ (ζ 27 = fa 4 ∧ ζ 28 = fa 6 ∧ ζ 29 = fa 7 ∧ ζ 37 = dr) ∧ (∃ k, k ≤ 40 ∧ fa 4 = nI k) ∧ rD en wr (ζ 26) (γ 28) ∧ rE fa inn (ζ 30) (ζ 31) (ζ 32) (ζ 33) (ζ 34) ∧ rS tx len SL EN ζ γ
/-- what a round may change of the model's, above the pile's first δ -/
def rF (δ : Nat) (ζ : Nat → Int32) (γ : Nat → Nat → Int32) (ζ' : Nat → Int32) (γ' : Nat → Nat → Int32) : Prop := (∀ i, i < 25 ∨ 37 < i → ζ' i = ζ i) ∧ (∀ k, ¬ (k = 21 ∨ (28 ≤ k ∧ k ≤ 32)) → γ' k = γ k) ∧ ∀ k j, 29 ≤ k → k ≤ 32 → j < δ → γ' k j = γ k j
theorem rF.refl (δ : Nat) (ζ : Nat → Int32) (γ : Nat → Nat → Int32) : rF δ ζ γ ζ γ := ⟨fun _ _ => rfl, fun _ _ => rfl, fun _ _ _ _ _ => rfl⟩
theorem rF.trans {δ δ' : Nat} {ζ ζ1 ζ2 : Nat → Int32} {γ γ1 γ2 : Nat → Nat → Int32} (h1 : rF δ ζ γ ζ1 γ1) (h2 : rF δ' ζ1 γ1 ζ2 γ2) (hd : δ ≤ δ') : rF δ ζ γ ζ2 γ2 := ⟨fun i hi => (h2.1 i hi).trans (h1.1 i hi), fun k hk => (h2.2.1 k hk).trans (h1.2.1 k hk), fun k j a b c => (h2.2.2 k j a b (by omega)).trans (h1.2.2 k j a b c)⟩
theorem rF.z {δ : Nat} {ζ : Nat → Int32} {γ : Nat → Nat → Int32} {i : Nat} (hi : 25 ≤ i ∧ i ≤ 37) (v : Int32) : rF δ ζ γ (va_up ζ i v) γ := ⟨fun j hj => pp_up_ne _ _ (by omega), fun _ _ => rfl, fun _ _ _ _ _ => rfl⟩
theorem rF.h {δ : Nat} {ζ : Nat → Int32} {γ : Nat → Nat → Int32} (v : Nat → Int32) {k : Nat} (hk : k = 21 ∨ k = 28) : rF δ ζ γ ζ (va_up γ k v) := ⟨fun _ _ => rfl, fun j hj => pp_up_ne _ _ (by omega), fun j i a b c => by rw [pp_up_ne _ _ (by omega)]⟩
theorem rF.p {δ : Nat} {ζ : Nat → Int32} {γ : Nat → Nat → Int32} {k i : Nat} (hk : 29 ≤ k ∧ k ≤ 32) (hi : δ ≤ i) (v : Int32) : rF δ ζ γ ζ (va_up γ k (upd (γ k) i v)) := by
  refine ⟨fun _ _ => rfl, fun j hj => pp_up_ne _ _ (by omega), fun j m a b c => ?_⟩
  by_cases e : j = k
  · subst e; rw [pp_up_eq, pk_un (by omega)]
  · rw [pp_up_ne _ _ e]
section
variable {D : Nat → Prop} {tx : Nat → Int32} {len : Nat} {SL EN : Nat → Int32} {f fa en : Nat → Int32} {wr inn dr : Int32} {ζ ζ' : Nat → Int32} {γ γ' : Nat → Nat → Int32}
theorem rr_cong (h : rr D tx len SL EN f fa en wr inn dr ζ γ) (hz : ∀ i, i ≠ 25 → i ≠ 35 → i ≠ 36 → ζ' i = ζ i) (hg : ∀ k, ¬ (29 ≤ k ∧ k ≤ 32) → γ' k = γ k) : rr D tx len SL EN f fa en wr inn dr ζ' γ' := by
  obtain ⟨a, b, ⟨c1, c2, c3, c4⟩, e, g, i, s1, s2, s3, s4⟩ := h
  refine ⟨by rw [hg 21 (by omega)]; exact a, b, ⟨?_, ?_, ?_, ?_⟩, e, ?_, ?_, ?_, ?_, ?_, ?_⟩
  · rw [hz 27 (by decide) (by decide) (by decide)]; exact c1
  · rw [hz 28 (by decide) (by decide) (by decide)]; exact c2
  · rw [hz 29 (by decide) (by decide) (by decide)]; exact c3
  · rw [hz 37 (by decide) (by decide) (by decide)]; exact c4
  · rw [hz 26 (by decide) (by decide) (by decide), hg 28 (by omega)]; exact g
  · rw [hz 30 (by decide) (by decide) (by decide), hz 31 (by decide) (by decide) (by decide), hz 32 (by decide) (by decide) (by decide), hz 33 (by decide) (by decide) (by decide), hz 34 (by decide) (by decide) (by decide)]; exact i
  · rw [hz 21 (by decide) (by decide) (by decide)]; exact s1
  · rw [hg 24 (by omega)]; exact s2
  · rw [hg 26 (by omega)]; exact s3
  · rw [hg 25 (by omega)]; exact s4
theorem rr_z (h : rr D tx len SL EN f fa en wr inn dr ζ γ) {i : Nat} (hi : i = 25 ∨ i = 35 ∨ i = 36) (v : Int32) : rr D tx len SL EN f fa en wr inn dr (va_up ζ i v) γ := rr_cong h (fun j a b c => pp_up_ne _ _ (by omega)) (fun _ _ => rfl)
theorem rr_p (h : rr D tx len SL EN f fa en wr inn dr ζ γ) {k : Nat} (hk : 29 ≤ k ∧ k ≤ 32) (v : Nat → Int32) : rr D tx len SL EN f fa en wr inn dr ζ (va_up γ k v) := rr_cong h (fun _ _ _ _ => rfl) (fun j hj => pp_up_ne _ _ (by omega))
theorem rr_h (h : rr D tx len SL EN f fa en wr inn dr ζ γ) {i : Nat} (hi : ∀ r, r < 8 → i ≠ 7 * r + 3) {v : Int32} (hW : rW (upd f i v)) : rr D tx len SL EN (upd f i v) fa en wr inn dr ζ (va_up γ 21 (upd (γ 21) i v)) := by
  obtain ⟨a, b, c, e, g, i9, s1, s2, s3, s4⟩ := h
  exact ⟨by rw [pp_up_eq]; exact rH_upd a hi v, hW, c, e, by rw [pp_up_ne _ _ (by decide)]; exact g, i9, s1, by rw [pp_up_ne _ _ (by decide)]; exact s2, by rw [pp_up_ne _ _ (by decide)]; exact s3, by rw [pp_up_ne _ _ (by decide)]; exact s4⟩
theorem rr_tick (h : rr D tx len SL EN f fa en wr inn dr ζ γ) (hk : fa 4 < 40) : rr D tx len SL EN f (upd fa 4 (fa 4 + 1)) en wr inn dr (va_up ζ 27 (ζ 27 + 1)) γ := by
  obtain ⟨a, b, ⟨c1, c2, c3, c4⟩, ⟨k, k1, k2⟩, g, i, s⟩ := h
  rw [k2] at hk
  have hk4 : k < 40 := (nI_ltI (b := 40) (by omega) (by decide)).mp hk
  refine ⟨a, b, ⟨by rw [pp_up_eq, pk_us, c1], by rw [pp_up_ne _ _ (by decide), pk_un (by decide)]; exact c2, by rw [pp_up_ne _ _ (by decide), pk_un (by decide)]; exact c3, by rw [pp_up_ne _ _ (by decide)]; exact c4⟩, ⟨k + 1, by omega, by rw [pk_us, k2, nI_1]⟩, by rw [pp_up_ne _ _ (by decide)]; exact g, ?_, ?_⟩
  · unfold rE
    simp only [pp_up_ne (i := 27) (j := 30) _ _ (by decide), pp_up_ne (i := 27) (j := 31) _ _ (by decide), pp_up_ne (i := 27) (j := 32) _ _ (by decide), pp_up_ne (i := 27) (j := 33) _ _ (by decide), pp_up_ne (i := 27) (j := 34) _ _ (by decide), pk_un (k := 4) (j := 0) (by decide), pk_un (k := 4) (j := 1) (by decide), pk_un (k := 4) (j := 2) (by decide), pk_un (k := 4) (j := 3) (by decide)]
    exact i
  · exact ⟨by rw [pp_up_ne _ _ (by decide)]; exact s.1, s.2⟩
/-- what the model writes when something befalls -/
def rz_bef (a b : Int32) (ζ : Nat → Int32) : Nat → Int32 := va_up (va_up (va_up (va_up (va_up (va_up ζ 30 a) 31 (ζ 36)) 32 b) 33 0) 34 a) 29 (ζ 29 + 1)
theorem ra_bef (a b : Int32) : T_X6_befalls a b ζ γ = (0, rz_bef a b ζ, γ) := rfl
theorem rz_bef_F {δ : Nat} (a b : Int32) : rF δ ζ γ (rz_bef a b ζ) γ := by
  unfold rz_bef
  exact (((((rF.z (i := 30) ⟨by decide, by decide⟩ _).trans (rF.z (i := 31) ⟨by decide, by decide⟩ _) (Nat.le_refl _)).trans (rF.z (i := 32) ⟨by decide, by decide⟩ _) (Nat.le_refl _)).trans (rF.z (i := 33) ⟨by decide, by decide⟩ _) (Nat.le_refl _)).trans (rF.z (i := 34) ⟨by decide, by decide⟩ _) (Nat.le_refl _)).trans (rF.z (i := 29) ⟨by decide, by decide⟩ _) (Nat.le_refl _)
theorem rr_bef (h : rr D tx len SL EN f fa en wr inn dr ζ γ) (h0 : fa 0 = 0) {k : Nat} (hk1 : 1 ≤ k) (hk2 : k ≤ 6) (hk5 : k ≠ 5) {b c : Int32} (hb : k = 4 → b = c) (hc : k ≠ 4 → c = -1) : rr D tx len SL EN f (pt_bef fa (nI k) (ζ 36) c) en wr inn dr (rz_bef (nI k) b ζ) γ := by
  obtain ⟨a, b9, ⟨c1, c2, c3, c4⟩, ⟨k9, k1, k2⟩, g, i, s⟩ := h
  have hinn : fa 3 = 0 ∧ inn = -1 := by
    rcases i.2 with q | q
    · exact ⟨q.2.2.2.1, q.2.2.2.2⟩
    · obtain ⟨k', q1, q2, q3⟩ := q.1
      rw [h0] at q3
      exact absurd q3.symm (nI_ne0 (by omega) (by omega))
  have e0 : pt_bef fa (nI k) (ζ 36) c 0 = nI k := by simp [pt_bef, upd]
  have e1 : pt_bef fa (nI k) (ζ 36) c 1 = ζ 36 := by simp [pt_bef, upd]
  have e2 : pt_bef fa (nI k) (ζ 36) c 2 = c := by simp [pt_bef, upd]
  have e3 : pt_bef fa (nI k) (ζ 36) c 3 = fa 3 := by simp [pt_bef, upd]
  have e4 : pt_bef fa (nI k) (ζ 36) c 4 = fa 4 := by simp [pt_bef, upd]
  have e6 : pt_bef fa (nI k) (ζ 36) c 6 = fa 6 := by simp [pt_bef, upd]
  have e7 : pt_bef fa (nI k) (ζ 36) c 7 = fa 7 + 1 := by simp [pt_bef, upd]
  have n4 : nI k = 4 ↔ k = 4 := nI_eq (b := 4) (by omega) (by decide)
  have n5 : nI k = 5 ↔ k = 5 := nI_eq (b := 5) (by omega) (by decide)
  refine ⟨a, b9, ⟨?_, ?_, ?_, ?_⟩, ⟨k9, k1, by rw [e4]; exact k2⟩, ?_, ?_, ?_, s.2⟩
  · rw [e4]; simp [rz_bef, va_up, c1]
  · rw [e6]; simp [rz_bef, va_up, c2]
  · rw [e7]; simp [rz_bef, va_up, c3]
  · simp [rz_bef, va_up, c4]
  · have : rz_bef (nI k) b ζ 26 = ζ 26 := by simp [rz_bef, va_up]
    rw [this]; exact g
  · unfold rE
    rw [e0, e1, e2, e3]
    refine ⟨by simp [rz_bef, va_up], Or.inr ⟨⟨k, hk1, hk2, rfl⟩, by simp [rz_bef, va_up], fun q => ?_, fun q => hc (fun q2 => q (n4.mpr q2)), fun q => absurd (n5.mp q) hk5, fun _ => ⟨hinn.1, hinn.2, by simp [rz_bef, va_up], by simp [rz_bef, va_up]⟩⟩⟩
    have : rz_bef (nI k) b ζ 32 = b := by simp [rz_bef, va_up]
    rw [this]; exact hb (n4.mp q)
  · have : rz_bef (nI k) b ζ 21 = ζ 21 := by simp [rz_bef, va_up]
    rw [this]; exact s.1
/-- calm again -/
theorem rr_calm (h : rr D tx len SL EN f fa en wr inn dr ζ γ) : rr D tx len SL EN f (pt_calm fa) en wr (-1) dr (va_up ζ 30 0) γ := by
  obtain ⟨a, b9, ⟨c1, c2, c3, c4⟩, ⟨k9, k1, k2⟩, g, i, s⟩ := h
  refine ⟨a, b9, ⟨by simp [pt_calm, upd, va_up, c1], by simp [pt_calm, upd, va_up, c2], by simp [pt_calm, upd, va_up, c3], by simp [va_up, c4]⟩, ⟨k9, k1, by simp [pt_calm, upd]; exact k2⟩, by rw [pp_up_ne _ _ (by decide)]; exact g, ?_, ⟨by rw [pp_up_ne _ _ (by decide)]; exact s.1, s.2⟩⟩
  exact ⟨by simp [pt_calm, upd, va_up], Or.inl ⟨by simp [pt_calm, upd], by simp [pt_calm, upd], by simp [pt_calm, upd], by simp [pt_calm, upd], rfl⟩⟩
/-- a report -/
def rz_rep (ζ : Nat → Int32) : Nat → Int32 := va_up (va_up (va_up ζ 30 5) 33 (ζ 33 + 1)) 29 (ζ 29 + 1)
theorem rr_rep (h : rr D tx len SL EN f fa en wr inn dr ζ γ) (h0 : ¬ fa 0 = 0) : rr D tx len SL EN f (pt_rep fa) en wr (if fa 0 = 5 then inn else fa 0) dr (rz_rep ζ) γ := by
  obtain ⟨a, b9, ⟨c1, c2, c3, c4⟩, ⟨k9, k1, k2⟩, g, i, s⟩ := h
  have e0 : pt_rep fa 0 = 5 := by simp [pt_rep, pt_bef, upd]
  have e1 : pt_rep fa 1 = fa 1 := by simp [pt_rep, pt_bef, upd]
  have e2 : pt_rep fa 2 = -1 := by simp [pt_rep, pt_bef, upd]
  have e3 : pt_rep fa 3 = fa 3 + 1 := by simp [pt_rep, pt_bef, upd]
  have e4 : pt_rep fa 4 = fa 4 := by simp [pt_rep, pt_bef, upd]
  have e6 : pt_rep fa 6 = fa 6 := by simp [pt_rep, pt_bef, upd]
  have e7 : pt_rep fa 7 = fa 7 + 1 := by simp [pt_rep, pt_bef, upd]
  refine ⟨a, b9, ⟨?_, ?_, ?_, ?_⟩, ⟨k9, k1, by rw [e4]; exact k2⟩, ?_, ?_, ?_, s.2⟩
  · rw [e4]; simp [rz_rep, va_up, c1]
  · rw [e6]; simp [rz_rep, va_up, c2]
  · rw [e7]; simp [rz_rep, va_up, c3]
  · simp [rz_rep, va_up, c4]
  · have : rz_rep ζ 26 = ζ 26 := by simp [rz_rep, va_up]
    rw [this]; exact g
  · obtain ⟨i1, i2⟩ := i
    rcases i2 with q | ⟨q1, q2, q3, q4, q5, q6⟩
    · exact absurd q.1 h0
    unfold rE
    rw [e0, e1, e2, e3]
    have f33 : rz_rep ζ 33 = ζ 33 + 1 := by simp [rz_rep, va_up]
    have f34 : rz_rep ζ 34 = ζ 34 := by simp [rz_rep, va_up]
    refine ⟨by simp [rz_rep, va_up], Or.inr ⟨⟨5, by decide, by decide, rfl⟩, by simp [rz_rep, va_up]; exact q2, fun q => absurd q (by decide), fun _ => rfl, fun _ => ?_, fun q => absurd rfl q⟩⟩
    rw [f33, f34]
    by_cases h5 : fa 0 = 5
    · rw [if_pos h5, (q5 h5).1, (q5 h5).2]; exact ⟨rfl, rfl⟩
    · rw [if_neg h5, (q6 h5).1, (q6 h5).2.2.1, (q6 h5).2.2.2]; exact ⟨rfl, rfl⟩
  · have : rz_rep ζ 21 = ζ 21 := by simp [rz_rep, va_up]
    rw [this]; exact s.1
/-- the diary -/
def rz_n (w : Nat) (ζ : Nat → Int32) : Nat → Int32 := if w < 150 then va_up ζ 26 (nI (w + 1)) else ζ
def rg_n (w : Nat) (v : Int32) (γ : Nat → Nat → Int32) : Nat → Nat → Int32 := if w < 150 then va_up γ 28 (upd (γ 28) w v) else γ
theorem ra_notes {w : Nat} (hw : w ≤ 150) (h26 : ζ 26 = nI w) (v : Int32) : nr_V (O_X6_notes v ζ γ) (T_X6_notes v ζ γ) (0, rz_n w ζ, rg_n w v γ) := by
  unfold O_X6_notes T_X6_notes rz_n rg_n
  rw [h26]
  by_cases h1 : w < 150
  · rw [if_pos h1, if_pos h1]
    refine V_neg (nI_ge (b := 150) h1 (by decide)) (V_and (vp_in_nI h1 (by decide)) (V_T ?_))
    rw [nI_1, pp_st_lit (by omega)]
  · rw [if_neg h1, if_neg h1]
    exact V_pos (nI_le (a := 150) (by omega) (by omega)) (V_T rfl)
theorem rn_F {δ w : Nat} (v : Int32) : rF δ ζ γ (rz_n w ζ) (rg_n w v γ) := by
  unfold rz_n rg_n
  by_cases h1 : w < 150
  · rw [if_pos h1, if_pos h1]
    exact (rF.z ⟨by decide, by decide⟩ _).trans (rF.h _ (Or.inr rfl)) (Nat.le_refl _)
  · rw [if_neg h1, if_neg h1]
    exact rF.refl _ _ _
theorem rz_n_o {w i : Nat} (hi : i ≠ 26) : rz_n w ζ i = ζ i := by
  unfold rz_n
  by_cases h1 : w < 150
  · rw [if_pos h1, pp_up_ne _ _ hi]
  · rw [if_neg h1]
theorem rg_n_o {w i : Nat} {v : Int32} (hi : i ≠ 28) : rg_n w v γ i = γ i := by
  unfold rg_n
  by_cases h1 : w < 150
  · rw [if_pos h1, pp_up_ne _ _ hi]
  · rw [if_neg h1]
theorem rr_n {w : Nat} (hw : w ≤ 150) (h : rr D tx len SL EN f fa en (nI w) inn dr ζ γ) (v : Int32) : rr D tx len SL EN f fa (pt_e en w v) (nI (pt_n w)) inn dr (rz_n w ζ) (rg_n w v γ) := by
  obtain ⟨a, b9, ⟨c1, c2, c3, c4⟩, k9, g, i, s1, s2, s3, s4⟩ := h
  refine ⟨by rw [rg_n_o (by decide)]; exact a, b9, ⟨by rw [rz_n_o (by decide)]; exact c1, by rw [rz_n_o (by decide)]; exact c2, by rw [rz_n_o (by decide)]; exact c3, by rw [rz_n_o (by decide)]; exact c4⟩, k9, ?_, ?_, by rw [rz_n_o (by decide)]; exact s1, by rw [rg_n_o (by decide)]; exact s2, by rw [rg_n_o (by decide)]; exact s3, by rw [rg_n_o (by decide)]; exact s4⟩
  · obtain ⟨g1, w2, g2, g3, g4⟩ := g
    have e : w = w2 := (nI_eq (by omega) (by omega)).mp g3
    subst e
    unfold rz_n rg_n pt_n pt_e
    by_cases h1 : w < 150
    · rw [if_pos h1, if_pos h1, if_pos h1, if_pos h1]
      refine ⟨by rw [pp_up_eq], w + 1, by omega, rfl, fun j hj => ?_⟩
      rw [pp_up_eq]
      by_cases e : j = w
      · rw [e, pk_us, pk_us]
      · rw [pk_un e, pk_un e]; exact g4 j (by omega)
    · rw [if_neg h1, if_neg h1, if_neg h1, if_neg h1]
      exact ⟨g1, w, g2, rfl, g4⟩
  · rw [rz_n_o (by decide), rz_n_o (by decide), rz_n_o (by decide), rz_n_o (by decide), rz_n_o (by decide)]; exact i
/-- doors open -/
theorem rr_37 (h : rr D tx len SL EN f fa en wr inn dr ζ γ) (v : Int32) : rr D tx len SL EN f fa en wr inn v (va_up ζ 37 v) γ := by
  obtain ⟨a, b9, ⟨c1, c2, c3, c4⟩, k9, g, i, s1, s⟩ := h
  refine ⟨a, b9, ⟨by rw [pp_up_ne _ _ (by decide)]; exact c1, by rw [pp_up_ne _ _ (by decide)]; exact c2, by rw [pp_up_ne _ _ (by decide)]; exact c3, pp_up_eq _ _ _⟩, k9, by rw [pp_up_ne _ _ (by decide)]; exact g, ?_, by rw [pp_up_ne _ _ (by decide)]; exact s1, s⟩
  rw [pp_up_ne _ _ (by decide), pp_up_ne _ _ (by decide), pp_up_ne _ _ (by decide), pp_up_ne _ _ (by decide), pp_up_ne _ _ (by decide)]; exact i
theorem rr_28 (h : rr D tx len SL EN f fa en wr inn dr ζ γ) (v : Int32) : rr D tx len SL EN f (upd fa 6 v) en wr inn dr (va_up ζ 28 v) γ := by
  obtain ⟨a, b9, ⟨c1, c2, c3, c4⟩, ⟨k9, k1, k2⟩, g, i, s1, s⟩ := h
  refine ⟨a, b9, ⟨by rw [pp_up_ne _ _ (by decide), pk_un (by decide)]; exact c1, by rw [pp_up_eq, pk_us], by rw [pp_up_ne _ _ (by decide), pk_un (by decide)]; exact c3, by rw [pp_up_ne _ _ (by decide)]; exact c4⟩, ⟨k9, k1, by rw [pk_un (by decide)]; exact k2⟩, by rw [pp_up_ne _ _ (by decide)]; exact g, ?_, by rw [pp_up_ne _ _ (by decide)]; exact s1, s⟩
  unfold rE
  simp only [pp_up_ne (i := 28) (j := 30) _ _ (by decide), pp_up_ne (i := 28) (j := 31) _ _ (by decide), pp_up_ne (i := 28) (j := 32) _ _ (by decide), pp_up_ne (i := 28) (j := 33) _ _ (by decide), pp_up_ne (i := 28) (j := 34) _ _ (by decide), pk_un (k := 6) (j := 0) (by decide), pk_un (k := 6) (j := 1) (by decide), pk_un (k := 6) (j := 2) (by decide), pk_un (k := 6) (j := 3) (by decide)]
  exact i
end
