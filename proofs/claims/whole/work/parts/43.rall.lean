/-! an act, acts, all levels -/
section
variable {D : Nat → Prop} {tx : Nat → Int32} {len : Nat} {SL EN : Nat → Int32} {F : Nat → Nat → Int32} {z : Nat → Int32} {g : Nat → Nat → Int32} {h t : Nat} {f fa en : Nat → Int32} {wr inn dr room left sec : Int32} {ζ ζ1 : Nat → Int32} {γ γ1 : Nat → Nat → Int32} {a s e c δ q r m : Nat} {rc : Int32 → Int32 → Int32 → Int32 → nr_S → Int32 × nr_S} {oc : Int32 → Int32 → Int32 → Int32 → nr_S → Prop} {L : Nat → Nat → Nat → Nat → Prop}
theorem rg_act (E : rO tx len SL EN F z g h t) (hB : rB D tx len SL EN z g h t L (δ + 1) rc oc) (hd : δ < 9) (hA : ly_act L tx len F a s e c) (hc100 : c ≤ 100) (R : rr D tx len SL EN f fa en wr inn dr ζ γ) (h0 : fa 0 = 0) (h25 : ζ 25 = nI s) (h35 : ζ 35 = nI δ) (h36 : ζ 36 = room) (hM : rM room) : rG D tx len SL EN z g h t dr room δ (pp_s tx len e) ζ γ (O_X2_doAct rc oc (nI a) room (nI δ) (PZ z t wr inn dr) (PG g h t f fa en)) (T_X2_doAct rc oc (nI a) room (nI δ) (PZ z t wr inn dr) (PG g h t f fa en)) := by
  obtain ⟨a1, a2, a3, a4, a5⟩ := hA
  have ha : a < 100 := by omega
  have hs : s < len := by omega
  by_cases hk : fa 4 < 40
  · rcases a5 with ⟨b1, b2, b3, b4⟩ | ⟨b1, b2, b3, b4, b5, b6, b7⟩ | ⟨b1, b2, b3, b4, b5, b6, b7⟩ | ⟨b1, b2, b3⟩ | ⟨b1, b2, b3⟩ | ⟨b1, b2, b3⟩ | ⟨b1, b2, b3, b4, b5, b6, b7, b8⟩
    · have hq : pp_s tx len e = pp_s tx len (s + 1) := by rw [b3]
      by_cases e43 : tx s = 43
      · exact rg_plus E R h0 hk h25 hs h35 h36 ha e43 (b2.trans e43) hq
      · have hrs : ly_rs (tx s) := by
          rcases b1 with q | q | q | q | q
          · exact Or.inl q
          · exact Or.inr (Or.inl q)
          · exact Or.inr (Or.inr (Or.inl q))
          · exact Or.inr (Or.inr (Or.inr q))
          · exact absurd q e43
        rcases hM with hm | ⟨r, hr, hm⟩
        · exact rg_hall E R h0 hk h25 hs h35 h36 hm ha hrs b2
        · subst hm
          rcases hrs with q | q | q | q
          · exact rg_l E R h0 hk h25 hs h35 h36 hr ha q b2 hq
          · exact rg_k E R h0 hk h25 hs h35 h36 hr ha q b2 hq
          · exact rg_w E R h0 hk h25 hs h35 h36 hr ha q b2 hq
          · exact rg_b E R h0 hk h25 hs h35 h36 hr ha q b2 hq
    · exact rg_alarm E R h0 hk h25 hs h35 h36 ha b1 b2 b3 b5
    · exact rg_room E hB hd R h0 hk h25 hs h35 h36 ha b1 b2 b3 b4 hc100 b5 b6 b7
    · exact rg_par E hB hd R h0 hk h25 hs h35 h36 hM ha b1 b2 a4 hc100 b3
    · exact rg_sq E hB hd R h0 hk h25 hs h35 h36 hM ha b1 b2 a4 hc100 b3
    · exact rg_ang E hB hd R h0 hk h25 hs h35 h36 hM ha b1 b2 hc100 b3
    · exact rg_x E hB hd R h0 hk h25 hs h35 h36 hM ha b1 b2 hc100 b3 b4 b5 b6 b7 b8
  · refine rg_tired E R h0 hk h25 hs ?_ h35 h36
    unfold pr_dl
    rcases a5 with ⟨b1, b2, b3, b4⟩ | ⟨b1, b2, b3, b4, b5, b6, b7⟩ | ⟨b1, b2, b3, b4, b5, b6, b7⟩ | ⟨b1, b2, b3⟩ | ⟨b1, b2, b3⟩ | ⟨b1, b2, b3⟩ | ⟨b1, b2, b3, b4, b5, b6, b7, b8⟩
    · rcases b1 with q | q | q | q | q <;> rw [q] <;> decide
    · rw [b1]; decide
    · intro q
      have hw : R_X5_within (tx s) 48 55 = 1 := pp_wy ⟨b1, b2⟩
      rcases q with q | q | q | q | q | q <;> rw [q] at hw <;> exact absurd hw (by decide)
    · rw [b1]; decide
    · rw [b1]; decide
    · rw [b1]; decide
    · rw [b1]; decide
theorem rg_seq (E : rO tx len SL EN F z g h t) (hB : rB D tx len SL EN z g h t L (δ + 1) rc oc) (hd : δ < 9) (hM : rM room) {b q : Nat} (hb : b ≤ 100) : ∀ (k a p i n : Nat) (f fa en : Nat → Int32) (wr inn : Int32) (ζ : Nat → Int32) (γ : Nat → Nat → Int32), ly_seq (ly_act L tx len F) tx len k a b p q → i ≤ a → b < n + a → rr D tx len SL EN f fa en wr inn dr ζ γ → fa 0 = 0 → ζ 25 = nI (pp_s tx len p) → ζ 35 = nI δ → ζ 36 = room → rG D tx len SL EN z g h t dr room δ q ζ γ (O_X2_doActs_6 rc oc n (nI b) room (nI δ) (nI a) (nI i) (PZ z t wr inn dr) (PG g h t f fa en)) (T_X2_doActs_6 rc oc n (nI b) room (nI δ) (nI a) (nI i) (PZ z t wr inn dr) (PG g h t f fa en)) := by
  intro k
  induction k with
  | zero =>
    intro a p i n f fa en wr inn ζ γ hS hi hn R h0 h25 h35 h36
    obtain ⟨e1, e2, e3⟩ := hS
    obtain ⟨n, rfl⟩ : ∃ n', n = n' + 1 := ⟨n - 1, by omega⟩
    rw [O_X2_doActs_6, T_X2_doActs_6]
    refine ⟨1, f, fa, en, wr, inn, ζ, γ, ?_, R, rF.refl _ _ _, pr_D.refl _ _, h35, h36, Or.inl ⟨rfl, h0, by rw [h25, e3]⟩⟩
    by_cases q100 : (100 : Int32) ≤ nI i
    · exact V_pos q100 (V_T rfl)
    · exact V_neg q100 (V_pos (nI_le (by omega) (by omega)) (V_T rfl))
  | succ k ih =>
    intro a p i n f fa en wr inn ζ γ hS hi hn R h0 h25 h35 h36
    obtain ⟨e, c, e1, e2, e3, e4, e5, e6⟩ := hS
    have e31 := e3.1
    obtain ⟨n, rfl⟩ : ∃ n', n = n' + 1 := ⟨n - 1, by omega⟩
    rw [O_X2_doActs_6, T_X2_doActs_6]
    obtain ⟨x, f', fa', en', wr', inn', ζ2, γ2, v2, R2, F2, D2, p35, p36, hx⟩ := rg_act (rc := rc) (oc := oc) E hB hd e3 (by omega) R h0 h25 h35 h36 hM
    have n1 : ¬ (100 : Int32) ≤ nI i := nI_ge (a := i) (b := 100) (by omega) (by decide)
    have n2 : ¬ nI b ≤ nI a := nI_ge (by omega) (by omega)
    have n3 : ¬ (8 : Int32) < nI δ := nI_nlt (a := 8) (b := δ) (by omega) (by decide)
    rcases hx with ⟨x1, z0, p25⟩ | ⟨x0, n0, p9⟩
    · subst x1
      obtain ⟨x, f3, fa3, en3, wr3, inn3, ζ3, γ3, v3, R3, F3, D3, q35, q36, hx3⟩ := ih c e (i + 1) n f' fa' en' wr' inn' ζ2 γ2 e6 (by omega) (by omega) R2 z0 p25 p35 p36
      refine ⟨x, f3, fa3, en3, wr3, inn3, ζ3, γ3, ?_, R3, F2.trans F3 (Nat.le_refl _), D2.trans D3, q35, q36, hx3⟩
      refine V_neg n1 (V_neg n2 (V_neg n3 (V_K v2 (V_neg (by decide) ?_))))
      rw [(rO_nx E (by omega) _ _ _ _ _ _).1, e3.2.2.2.1, nI_1]
      exact V_and (rO_nx E (by omega) _ _ _ _ _ _).2 v3
    · subst x0
      exact ⟨0, f', fa', en', wr', inn', ζ2, γ2, V_neg n1 (V_neg n2 (V_neg n3 (V_K v2 (V_pos rfl (V_T rfl))))), R2, F2, D2, p35, p36, Or.inr ⟨rfl, n0, p9⟩⟩
theorem rg_lev (E : rO tx len SL EN F z g h t) : ∀ (j δ : Nat), δ + j = 8 → rB D tx len SL EN z g h t (ly tx len F j) δ (nD (j + 1)).1 (nD (j + 1)).2
  | 0, δ, hd => by
    intro a b p q f fa en wr inn dr room ζ γ hL hb hp R h0 h25 h35 h36 hM
    obtain ⟨k, hS⟩ := hL
    exact rg_seq (rc := (nD 0).1) (oc := (nD 0).2) E (fun _ _ _ _ _ _ _ _ _ _ _ _ _ hF => False.elim hF) (by omega) hM hb k a p 0 500 f fa en wr inn ζ γ hS (by omega) (by omega) R h0 h25 h35 h36
  | j + 1, δ, hd => by
    intro a b p q f fa en wr inn dr room ζ γ hL hb hp R h0 h25 h35 h36 hM
    obtain ⟨k, hS⟩ := hL
    exact rg_seq (rc := (nD (j + 1)).1) (oc := (nD (j + 1)).2) E (rg_lev E j (δ + 1) (by omega)) (by omega) hM hb k a p 0 500 f fa en wr inn ζ γ hS (by omega) (by omega) R h0 h25 h35 h36
end
