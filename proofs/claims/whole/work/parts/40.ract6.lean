/-! so often -/
section
variable {D : Nat → Prop} {tx : Nat → Int32} {len : Nat} {SL EN : Nat → Int32} {F : Nat → Nat → Int32} {z : Nat → Int32} {g : Nat → Nat → Int32} {h t : Nat} {f fa en : Nat → Int32} {wr inn dr room left sec : Int32} {ζ ζ1 : Nat → Int32} {γ γ1 : Nat → Nat → Int32} {a s e c δ q r m : Nat} {rc : Int32 → Int32 → Int32 → Int32 → nr_S → Int32 × nr_S} {oc : Int32 → Int32 → Int32 → Int32 → nr_S → Prop} {L : Nat → Nat → Nat → Nat → Prop}
theorem ra_beh4 {b : Int32} {u : Nat} (hl : len ≤ 100) (h24 : ∀ i, i < len → γ 24 i = tx i) (hu : u < len) (hb : tx u = b) : ∀ (n p : Nat) (ζ : Nat → Int32), u - p < n → p ≤ u → (∀ i, p ≤ i → i < u → ¬ tx i = b) → ζ 25 = nI p → nr_V (O_X6_behindByte_4 n b ζ γ) (T_X6_behindByte_4 n b ζ γ) (0, va_up ζ 25 (nI (u + 1)), γ)
  | 0, p, ζ, h1, _, _, _ => absurd h1 (by omega)
  | n + 1, p, ζ, h1, h2, h3, h4 => by
    rw [O_X6_behindByte_4, T_X6_behindByte_4, h4, nI_clamp (by omega), h24 p (by omega), nI_1]
    refine V_and (vp_in_nI (by omega) (by decide)) ?_
    by_cases e : p = u
    · subst e
      exact V_pos hb (V_T rfl)
    · refine V_neg (h3 p (Nat.le_refl _) (by omega)) (V_w (ra_beh4 hl h24 hu hb n (p + 1) (va_up ζ 25 (nI (p + 1))) (by omega) (by omega) (fun i x y => h3 i (by omega) y) (pp_up_eq _ _ _)) ?_)
      rw [pp_up_up]
theorem ra_beh {b : Int32} {u p : Nat} (hl : len ≤ 100) (h21 : ζ 21 = nI len) (h24 : ∀ i, i < len → γ 24 i = tx i) (hu : u < len) (hb : tx u = b) (hp : p ≤ len) (h25 : ζ 25 = nI p) (hpu : pp_s tx len p ≤ u) (hn : ∀ i, pp_s tx len p ≤ i → i < u → ¬ tx i = b) : nr_V (O_X6_behindByte b ζ γ) (T_X6_behindByte b ζ γ) (0, va_up ζ 25 (nI (u + 1)), γ) := by
  have e := pp_skip (g := γ) h21 hl hp h25
  rw [pp_s_congr h24] at e
  unfold O_X6_behindByte T_X6_behindByte
  refine V_K e (V_w (ra_beh4 hl h24 hu hb 500 (pp_s tx len p) _ (by omega) hpu hn (pp_up_eq _ _ _)) ?_)
  rw [pp_up_up]
theorem pp_dg_k {c : Int32} (hc : pp_dg c) : ∃ k, k ≤ 9 ∧ c - 48 = nI k ∧ c = nI (48 + k) := by
  obtain ⟨h1, h2⟩ := hc
  have h3 : ¬ c < 0 := fun q => absurd (Int32.lt_of_le_of_lt h1 q) (by decide)
  obtain ⟨j, j1, j2⟩ := nI_of2 (M := 57) (n := 57) (by decide) h3 h2
  rw [j2] at h1
  have j3 : 48 ≤ j := (nI_leI (a := 48) (by decide) (by omega)).mp h1
  refine ⟨j - 48, by omega, ?_, ?_⟩
  · have : nI j = nI (j - 48) + 48 := by
      rw [show (48 : Int32) = nI 48 from rfl, nI_add]; congr 1; omega
    rw [j2, this]; simp
  · rw [j2]; congr 1; omega
/-- an act done so often is begun -/
theorem ra_x {d u k : Nat} (hl : len ≤ 100) (R : rr D tx len SL EN f fa en wr inn dr ζ γ) (hk : fa 4 < 40) (hs : s < len) (hc : tx s = 120) (hd1 : pp_s tx len (s + 1) = d) (hd2 : d < len) (hdk : tx d - 48 = nI k) (hu1 : pp_s tx len (d + 1) = u) (hu2 : u < len) (hu3 : tx u = 58) {v : Int32 × nr_S} (kz : nI k = 0 → v = (0, va_up (va_up (rz_t s ζ) 25 (nI (u + 1))) 25 (EN s + 1), γ)) (kn : ¬ nI k = 0 → nr_V (O_X6_pushes (nI s) (ζ 36) (nI k) (va_up (rz_t s ζ) 25 (nI (u + 1))) γ) (T_X6_pushes (nI s) (ζ 36) (nI k) (va_up (rz_t s ζ) 25 (nI (u + 1))) γ) v) : nr_V (O_X6_begins (nI s) ζ γ) (T_X6_begins (nI s) ζ γ) v := by
  have Rt := rz_t_rr (s := s) R hk
  unfold O_X6_begins T_X6_begins
  rw [nI_clamp (by omega), rr_24 R s hs, hc, pp_in07]
  refine V_and (vp_in_nI (by omega) (by decide)) (V_neg (rr_n40 R hk) (V_pos (by decide) (V_neg (by decide) (V_neg (by decide) (V_neg (by decide) (V_pos rfl ?_))))))
  have hfig := ra_fig (ζ := rz_t s ζ) (γ := γ) (d := s + 1) hl (rr_21 Rt) (rr_24 R) (by omega) (by omega)
  rw [hd1, ← nI_1 s, hdk] at hfig
  have R2 := rr_z Rt (Or.inl rfl) (nI (d + 1))
  have hbh := ra_beh (ζ := va_up (rz_t s ζ) 25 (nI (d + 1))) (γ := γ) (p := d + 1) (u := u) hl (rr_21 R2) (rr_24 R) hu2 hu3 (by omega) (pp_up_eq _ _ _) (by omega) (fun i x y => by omega)
  rw [pp_up_up] at hbh
  refine V_K hfig (V_K hbh ?_)
  by_cases k0 : nI k = 0
  · refine V_pos k0 (V_and (vp_in_nI (by omega) (by decide)) (V_T ?_))
    rw [kz k0, R.2.2.2.2.2.2.2.2.2]
  · have e36 : va_up (rz_t s ζ) 25 (nI (u + 1)) 36 = ζ 36 := by rw [pp_up_ne _ _ (by decide), rz_t_o (by decide) (by decide)]
    refine V_neg k0 ?_
    rw [e36]
    obtain ⟨x, y⟩ := kn k0
    obtain ⟨v0, v1, v2⟩ := v
    have v00 : v0 = 0 := by
      have : (T_X6_pushes (nI s) (ζ 36) (nI k) (va_up (rz_t s ζ) 25 (nI (u + 1))) γ).1 = 0 := rfl
      rw [y] at this
      exact this
    subst v00
    exact V_K1 ⟨x, y⟩ (V_T rfl)
/-- once again -/
theorem rD_again {d u j : Nat} (hl : len ≤ 100) (R : rr D tx len SL EN f fa en wr inn dr ζ γ) (h0 : fa 0 = 0) (h25 : ζ 25 = nI q) (hq : q < len) (hc : tx q = 59) (h35 : ζ 35 = nI (δ + 1)) (hd : δ < 9) (hP : rP δ s room (nI (j + 1)) sec γ) (hj : 1 ≤ j) (hj9 : j ≤ 9) (hs : s < len) (hd1 : pp_s tx len (s + 1) = d) (hd2 : d < len) (hdg : pp_dg (tx d)) (hu1 : pp_s tx len (d + 1) = u) (hu2 : u < len) (hu3 : tx u = 58) : ∃ ζ' γ', pr_D ζ γ ζ' γ' ∧ rF δ ζ γ ζ' γ' ∧ rr D tx len SL EN f fa en wr inn dr ζ' γ' ∧ rP δ s room (nI j) sec γ' ∧ ζ' 35 = nI (δ + 1) ∧ ζ' 36 = ζ 36 ∧ ζ' 25 = nI (pp_s tx len (u + 1)) := by
  have R1 := rr_z (rr_p (k := 31) R (by decide) (upd (γ 31) δ (nI j))) (Or.inl rfl) (nI (s + 1))
  obtain ⟨us1, us2, us3, us4⟩ := pp_s_spec tx len _ (d + 1) (Nat.le_refl _) (by omega)
  rw [hu1] at us1 us3
  have hbh := ra_beh (ζ := va_up ζ 25 (nI (s + 1))) (γ := va_up γ 31 (upd (γ 31) δ (nI j))) (p := s + 1) (u := u) (b := 58) hl (rr_21 R1) (rr_24 R1) hu2 hu3 (by omega) (pp_up_eq _ _ _) (by omega) (fun i x y q => by
    rw [hd1] at x
    by_cases e : i = d
    · subst e
      obtain ⟨k, k1, _, k2⟩ := pp_dg_k hdg
      rw [k2] at q
      have := (nI_eq (a := 48 + k) (b := 58) (by omega) (by decide)).mp q
      omega
    · rw [us3 i (by omega) y] at q
      exact absurd q (by decide))
  rw [pp_up_up] at hbh
  have hb : nr_V (O_X6_endsAt (tx q) ζ γ) (T_X6_endsAt (tx q) ζ γ) (0, va_up ζ 25 (nI (u + 1)), va_up γ 31 (upd (γ 31) δ (nI j))) := by
    unfold O_X6_endsAt T_X6_endsAt
    rw [h35, nI_pred, nI_clamp (by omega), hP.1, hP.2.2.1, hc, nI_pred, nI_1, pp_st_lit (by omega)]
    have i9 : vp_in (nI δ) 9 := vp_in_nI hd (by decide)
    exact V_and i9 (V_pos rfl (V_and i9 (V_neg (nI_ge (a := 1) (b := j + 1) (by omega) (by omega)) (V_and i9 (V_and i9 (V_K1 hbh (V_T rfl)))))))
  have R2 := rr_z (rr_p (k := 31) R (by decide) (upd (γ 31) δ (nI j))) (Or.inl rfl) (nI (u + 1))
  refine ⟨_, _, pr_end hl (rr_21 R) (rr_24 R) ((rr_30 R).trans h0) h25 hq (by rw [hc]; unfold pr_dl; decide) hb (rr_21 R2) (rr_24 R2) (pp_up_eq _ _ _) (by omega), ?_, rr_z R2 (Or.inl rfl) _, ?_, ?_, ?_, pp_up_eq _ _ _⟩
  · exact ((rF.z ⟨by decide, by decide⟩ _).trans (rF.p ⟨by decide, by decide⟩ (Nat.le_refl _) _) (Nat.le_refl _)).trans (rF.z ⟨by decide, by decide⟩ _) (Nat.le_refl _)
  · exact ⟨by rw [pp_up_ne _ _ (by decide)]; exact hP.1, by rw [pp_up_ne _ _ (by decide)]; exact hP.2.1, by rw [pp_up_eq, pk_us], by rw [pp_up_ne _ _ (by decide)]; exact hP.2.2.2⟩
  · rw [pp_up_ne _ _ (by decide), pp_up_ne _ _ (by decide)]; exact h35
  · rw [pp_up_ne _ _ (by decide), pp_up_ne _ _ (by decide)]
theorem rg_xl {d u k q1 : Nat} (E : rO tx len SL EN F z g h t) (hB : rB D tx len SL EN z g h t L (δ + 1) rc oc) (hd : δ < 9) (hM : rM room) (ha : a < 100) (hs : s < len) (hc : tx s = 120) (hd1 : pp_s tx len (s + 1) = d) (hd2 : d < len) (hdg : pp_dg (tx d)) (hu1 : pp_s tx len (d + 1) = u) (hu2 : u < len) (hu3 : tx u = 58) (k1 : F 2 a = nI c) (hL : L (a + 1) c (u + 1) q1) (hc100 : c ≤ 100) (k7 : q1 < len) (k8 : tx q1 = 59) (k14 : EN s = nI q1) (hk9 : k ≤ 9) : ∀ (j i n : Nat) (f fa en : Nat → Int32) (wr inn : Int32) (ζ : Nat → Int32) (γ : Nat → Nat → Int32), i + (j + 1) = k → j + 1 < n → rr D tx len SL EN f fa en wr inn dr ζ γ → fa 0 = 0 → ζ 25 = nI (pp_s tx len (u + 1)) → ζ 35 = nI (δ + 1) → ζ 36 = room → rP δ s room (nI (j + 1)) 0 γ → rG D tx len SL EN z g h t dr room δ (pp_s tx len (q1 + 1)) ζ γ (O_X2_doSoOften_13 rc oc n (nI a) room (nI δ) (nI k) (nI i) (PZ z t wr inn dr) (PG g h t f fa en)) (T_X2_doSoOften_13 rc oc n (nI a) room (nI δ) (nI k) (nI i) (PZ z t wr inn dr) (PG g h t f fa en)) := by
  have hl := E.2.2.2.2.1
  have hw : R_X5_within (tx s) 48 55 = 0 := by rw [hc]; decide
  intro j
  induction j with
  | zero =>
    intro i n f fa en wr inn ζ γ hi hn R h0 h25 h35 h36 hP
    obtain ⟨n, rfl⟩ : ∃ n', n = n' + 1 + 1 := ⟨n - 2, by omega⟩
    rw [O_X2_doSoOften_13, T_X2_doSoOften_13]
    obtain ⟨x, f', fa', en', wr', inn', ζ2, γ2, v2, R2, F2, D2, p35, p36, hx⟩ := hB (a + 1) c (u + 1) q1 _ _ _ _ _ _ _ _ _ hL hc100 (by omega) R h0 h25 h35 h36 hM
    have P2 := hP.F F2
    have hv1 := rc_first (room := room) (δ := δ) E ha k1 v2
    rcases hx with ⟨x1, z0, p25⟩ | ⟨x0, n0, p, hp, p25⟩
    · obtain ⟨ζ3, D3, F3, R3, b35, b36, b25⟩ := rD_end hl R2 z0 p25 k7 (by rw [k8]; unfold pr_dl; decide) (fun _ => by decide) p35 hd P2 hs hw k14 k7
      subst x1
      refine ⟨1, f', fa', en', wr', inn', ζ3, γ2, ?_, R3, (((rF.refl δ _ _).trans F2 (by omega)).trans F3 (Nat.le_refl _)), D2.trans D3, b35, b36, Or.inl ⟨rfl, z0, b25⟩⟩
      refine V_neg (nI_ge (by omega) (by omega)) (V_K hv1 (V_neg (by decide) ?_))
      rw [O_X2_doSoOften_13, T_X2_doSoOften_13, nI_1]
      exact V_pos (nI_le (by omega) (by omega)) (V_T rfl)
    · obtain ⟨ζ3, D3, F3, R3, b35, b36, b25⟩ := rD_down hl R2 n0 p25 hp p35 hd P2 hs hw (fun q => by rw [hc] at q; exact absurd q (by decide)) (fun q => by rw [hc] at q; exact absurd q (by decide)) (fun q => by rw [hc] at q; exact absurd q (by decide))
      subst x0
      refine ⟨0, f', fa', en', wr', inn', ζ3, γ2, ?_, R3, (((rF.refl δ _ _).trans F2 (by omega)).trans F3 (Nat.le_refl _)), D2.trans D3, b35, b36, Or.inr ⟨rfl, n0, b25⟩⟩
      exact V_neg (nI_ge (by omega) (by omega)) (V_K hv1 (V_pos rfl (V_T rfl)))
  | succ j ih =>
    intro i n f fa en wr inn ζ γ hi hn R h0 h25 h35 h36 hP
    obtain ⟨n, rfl⟩ : ∃ n', n = n' + 1 := ⟨n - 1, by omega⟩
    rw [O_X2_doSoOften_13, T_X2_doSoOften_13]
    obtain ⟨x, f', fa', en', wr', inn', ζ2, γ2, v2, R2, F2, D2, p35, p36, hx⟩ := hB (a + 1) c (u + 1) q1 _ _ _ _ _ _ _ _ _ hL hc100 (by omega) R h0 h25 h35 h36 hM
    have P2 := hP.F F2
    have hv1 := rc_first (room := room) (δ := δ) E ha k1 v2
    rcases hx with ⟨x1, z0, p25⟩ | ⟨x0, n0, p, hp, p25⟩
    · obtain ⟨ζ3, γ3, D3, F3, R3, P3, b35, b36, b25⟩ := rD_again hl R2 z0 p25 k7 k8 p35 hd P2 (by omega) (by omega) hs hd1 hd2 hdg hu1 hu2 hu3
      rw [p36] at b36
      obtain ⟨x, f2, fa2, en2, wr2, inn2, ζ4, γ4, v4, R4, F4, D4, c35, c36, hx⟩ := ih (i + 1) n f' fa' en' wr' inn' ζ3 γ3 (by omega) (by omega) R3 z0 b25 b35 b36 P3
      subst x1
      refine ⟨x, f2, fa2, en2, wr2, inn2, ζ4, γ4, ?_, R4, ((((rF.refl δ _ _).trans F2 (by omega)).trans F3 (Nat.le_refl _)).trans F4 (Nat.le_refl _)), (D2.trans D3).trans D4, c35, c36, hx⟩
      refine V_neg (nI_ge (by omega) (by omega)) (V_K hv1 (V_neg (by decide) ?_))
      rw [nI_1]
      exact v4
    · obtain ⟨ζ3, D3, F3, R3, b35, b36, b25⟩ := rD_down hl R2 n0 p25 hp p35 hd P2 hs hw (fun q => by rw [hc] at q; exact absurd q (by decide)) (fun q => by rw [hc] at q; exact absurd q (by decide)) (fun q => by rw [hc] at q; exact absurd q (by decide))
      subst x0
      refine ⟨0, f', fa', en', wr', inn', ζ3, γ2, ?_, R3, (((rF.refl δ _ _).trans F2 (by omega)).trans F3 (Nat.le_refl _)), D2.trans D3, b35, b36, Or.inr ⟨rfl, n0, b25⟩⟩
      exact V_neg (nI_ge (by omega) (by omega)) (V_K hv1 (V_pos rfl (V_T rfl)))
theorem rg_x (E : rO tx len SL EN F z g h t) (hB : rB D tx len SL EN z g h t L (δ + 1) rc oc) (hd : δ < 9) (R : rr D tx len SL EN f fa en wr inn dr ζ γ) (h0 : fa 0 = 0) (hk : fa 4 < 40) (h25 : ζ 25 = nI s) (hs : s < len) (h35 : ζ 35 = nI δ) (h36 : ζ 36 = room) (hM : rM room) (ha : a < 100) (hc : tx s = 120) (hf : F 0 a = 120) (hc100 : c ≤ 100) (hd2 : pp_s tx len (s + 1) < len) (hdg : pp_dg (tx (pp_s tx len (s + 1)))) (hf1 : F 1 a = tx (pp_s tx len (s + 1)) - 48) (hu2 : pp_s tx len (pp_s tx len (s + 1) + 1) < len) (hu3 : tx (pp_s tx len (pp_s tx len (s + 1) + 1)) = 58) (hT : ly_one L tx len F a s e c (pp_s tx len (pp_s tx len (s + 1) + 1) + 1) 59) : rG D tx len SL EN z g h t dr room δ (pp_s tx len e) ζ γ (O_X2_doAct rc oc (nI a) room (nI δ) (PZ z t wr inn dr) (PG g h t f fa en)) (T_X2_doAct rc oc (nI a) room (nI δ) (PZ z t wr inn dr) (PG g h t f fa en)) := by
  have hl := E.2.2.2.2.1
  obtain ⟨q1, k1, k2, k3, k6, k7, k8, k14, k15⟩ := hT
  rw [E.2.2.2.2.2.2.2.2.2.2] at k14
  obtain ⟨k, kk1, kk2, kk3⟩ := pp_dg_k hdg
  have Rt := rz_t_rr (s := s) R hk
  generalize hdd : pp_s tx len (s + 1) = d at *
  generalize huu : pp_s tx len (d + 1) = u at *
  subst k15
  have hdl : ¬ pr_dl (tx s) := by rw [hc]; unfold pr_dl; decide
  have hso : ∀ v, nr_V (O_X2_doSoOften_13 rc oc 500 (nI a) room (nI δ) (nI k) 0 (PZ z t wr inn dr) (PG g h t f (upd fa 4 (fa 4 + 1)) en)) (T_X2_doSoOften_13 rc oc 500 (nI a) room (nI δ) (nI k) 0 (PZ z t wr inn dr) (PG g h t f (upd fa 4 (fa 4 + 1)) en)) v → nr_V (O_X2_doAct rc oc (nI a) room (nI δ) (PZ z t wr inn dr) (PG g h t f fa en)) (T_X2_doAct rc oc (nI a) room (nI δ) (PZ z t wr inn dr) (PG g h t f fa en)) v := by
    intro v kv
    refine cp_br E hk ha (Or.inr (Or.inr (Or.inr (Or.inl ⟨?_, hf⟩))))
    unfold O_X2_doSoOften T_X2_doSoOften
    rw [(rO_fg E ha _ _ _ _ _ _).1, hf1, kk2]
    exact V_and (rO_fg E ha _ _ _ _ _ _).2 kv
  by_cases k0 : k = 0
  · have hb := ra_x (v := (0, va_up (va_up (rz_t s ζ) 25 (nI (u + 1))) 25 (nI (q1 + 1)), γ)) hl R hk hs hc hdd hd2 kk2 huu hu2 hu3 (fun _ => by rw [k14, nI_1]) (fun q => absurd (by rw [k0]; rfl) q)
    have R1 := rr_z (rr_z Rt (Or.inl rfl) (nI (u + 1))) (Or.inl rfl) (nI (q1 + 1))
    refine rG_begin hl R h0 h25 hs hdl hb (hso (1, PZ z t wr inn dr, PG g h t f (upd fa 4 (fa 4 + 1)) en) ?_) R1 ((rz_t_F.trans (rF.z ⟨by decide, by decide⟩ _) (Nat.le_refl _)).trans (rF.z ⟨by decide, by decide⟩ _) (Nat.le_refl _)) (by rw [pp_up_ne _ _ (by decide), pp_up_ne _ _ (by decide), rz_t_o (by decide) (by decide)]; exact h35) (by rw [pp_up_ne _ _ (by decide), pp_up_ne _ _ (by decide), rz_t_o (by decide) (by decide)]; exact h36) (pp_up_eq _ _ _) (by omega) (Or.inl ⟨rfl, rt_0 h0, rfl⟩)
    rw [show (500 : Nat) = 499 + 1 from rfl, O_X2_doSoOften_13, T_X2_doSoOften_13]
    exact V_pos (by rw [k0]; decide) (V_T rfl)
  · have e35 : va_up (rz_t s ζ) 25 (nI (u + 1)) 35 = nI δ := by rw [pp_up_ne _ _ (by decide), rz_t_o (by decide) (by decide)]; exact h35
    have e36 : va_up (rz_t s ζ) 25 (nI (u + 1)) 36 = room := by rw [pp_up_ne _ _ (by decide), rz_t_o (by decide) (by decide)]; exact h36
    obtain ⟨γ1, v1, F1, P1, o1⟩ := ra_push (γ := γ) e35 hd s room (nI k)
    rw [e36] at P1
    have hb := ra_x hl R hk hs hc hdd hd2 kk2 huu hu2 hu3 (fun q => absurd q (nI_ne0 (by omega) (by omega))) (fun _ => by rw [h36]; exact v1)
    have R1 : rr D tx len SL EN f (upd fa 4 (fa 4 + 1)) en wr inn dr (va_up (va_up (va_up (rz_t s ζ) 25 (nI (u + 1))) 35 (nI (δ + 1))) 36 room) γ1 := rr_cong Rt (fun i a b c => by rw [pp_up_ne _ _ c, pp_up_ne _ _ b, pp_up_ne _ _ a]) o1
    have D1 := pr_begin hl (rr_21 R) (rr_24 R) ((rr_30 R).trans h0) h25 hs hdl hb (rr_21 R1) (rr_24 R1) (p1 := u + 1) (by rw [pp_up_ne _ _ (by decide), pp_up_ne _ _ (by decide), pp_up_eq]) (by omega)
    have R2 := rr_z R1 (Or.inl rfl) (nI (pp_s tx len (u + 1)))
    obtain ⟨j, hj⟩ : ∃ j, k = j + 1 := ⟨k - 1, by omega⟩
    rw [hj] at P1
    obtain ⟨x, f2, fa2, en2, wr2, inn2, ζ4, γ4, v4, R4, F4, D4, c35, c36, hx⟩ := rg_xl (k := k) E hB hd hM ha hs hc hdd hd2 hdg huu hu2 hu3 k1 k6 hc100 k7 k8 k14 kk1 j 0 500 f (upd fa 4 (fa 4 + 1)) en wr inn _ γ1 (by omega) (by omega) R2 (rt_0 h0) (pp_up_eq _ _ _) (by rw [pp_up_ne _ _ (by decide), pp_up_ne _ _ (by decide), pp_up_eq]) (by rw [pp_up_ne _ _ (by decide), pp_up_eq]) P1
    refine ⟨x, f2, fa2, en2, wr2, inn2, ζ4, γ4, hso _ v4, R4, ?_, D1.trans D4, c35, c36, hx⟩
    exact (((((rz_t_F.trans (rF.z ⟨by decide, by decide⟩ _) (Nat.le_refl _)).trans F1 (Nat.le_refl _)).trans (rF.z ⟨by decide, by decide⟩ _) (Nat.le_refl _)).trans (rF.z ⟨by decide, by decide⟩ _) (Nat.le_refl _)).trans (rF.z ⟨by decide, by decide⟩ _) (Nat.le_refl _)).trans F4 (Nat.le_refl _)
end
