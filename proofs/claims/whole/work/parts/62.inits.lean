/-! the constructors -/
theorem nb_ls {Γ : nr_M} {A : Nat → Prop} {X : nr_CX} {nL : Nat} {Q : State → Prop} {pc : Nat} {lv lv' : List (Nat × Value)} {st : List Value} {ws : va_W} {cells slots : Nat} (hs : nr_sl lv lv') (kk : nb_G Γ A X nL Q pc lv' st ws cells slots) : nb_G Γ A X nL Q pc lv st ws cells slots := fun H locs ls hP hD hS hl => kk H locs ls hP hD hS (nr_sub_has hl (nr_sl_all hs))
theorem nb_nd : ∀ l : List Nat, l.Nodup → va_nd l = true
  | [], _ => rfl
  | a :: l, h => by
    rw [va_nd, nb_nd l (List.nodup_cons.mp h).2, Bool.and_true]
    exact decide_eq_true (List.nodup_cons.mp h).1
theorem nb_last (wr : va_W) (x : Nat × va_E) : [wr.length].map (fun i => (wr ++ [x])[i]?) = [x].map some ∧ (List.range wr.length).map (fun i => (wr ++ [x])[i]?) = wr.map some ∧ va_nd (List.range wr.length) = true ∧ ∀ i ∈ List.range wr.length, i ∉ [wr.length] := by
  refine ⟨by simp, ?_, nb_nd _ List.nodup_range, fun i hi => ?_⟩
  · refine List.ext_getElem? fun i => ?_
    rw [List.getElem?_map, List.getElem?_map]
    by_cases h : i < wr.length
    · rw [List.getElem?_range h, List.getElem?_eq_getElem h]
      simp [List.getElem?_append_left h]
    · rw [List.getElem?_eq_none (by simp; omega), List.getElem?_eq_none (by omega)]
      rfl
  · have := List.mem_range.mp hi
    simp; omega
section
variable {Γ : nr_M} {A : Nat → Prop} {X : nr_CX} {y : MethodName} {cc : ByteArray} {nL : Nat} {ret : Option FieldType} {d mc ms : Nat} {Q : State → Prop} {pc n : Nat} {lv : List (Nat × Value)} {st : List Value} {cells slots : Nat}
/-- a constructor on what was made last -/
theorem N_mk (hX : nb_Cx Γ A X y cc nL ret d mc ms) {idx b : Nat} {eb : va_E} {y' : MethodName} {cc' : ByteArray} {nL' na d' mc' ms' : Nat} {As st0 : List Value} {wr : va_W} {post : va_W → Prop} (hd : decode cc pc = .ok (.invokespecial idx, 3)) (hl0 : Cond.methodLink y.cls idx y' ∈ nr_tb ∨ ∃ host, Cond.methodLinkNest y.cls idx y' host ∈ nr_tb) (hi : Cond.instanceMethod y' ∈ nr_tb) (hy : y'.name = "<init>") (hM : nr_ML y' cc' nL' none na) (hC : nb_C Γ d' mc' ms' y' cc' nL' (.ref b :: As) [(b, eb)] post) (hdd : d' + 1 ≤ d) (hlen : As.length = na) (hst0 : st0 = As.reverse ++ .ref b :: st) (hw : (st.map fun v => v.category).sum ≤ 8) (hcc : cells + mc' ≤ mc) (hss : slots + ms' ≤ ms) (hn : pc + 3 = n) (kk : ∀ w1, post w1 → nb_G Γ A X nL Q n lv st (wr ++ w1) (cells + mc') (slots + ms')) : nb_G Γ A X nL Q pc lv st0 (wr ++ [(b, eb)]) cells slots := by
  obtain ⟨e1, e2, e3, e4⟩ := nb_last wr (b, eb)
  exact N_callI hX hd hl0 hi hy hM hC hdd hlen hst0 hw e1 rfl e2 e3 e4 hcc hss hn kk
end

theorem ml_yX0_init : nr_ML yX0_init cX0_init 1 none 0 := ⟨wc_yX0_init, wn_RX0, ⟨by decide, by decide⟩, by decide +kernel, by decide⟩
theorem ml_yX1_init : nr_ML yX1_init cX1_init 1 none 0 := ⟨wc_yX1_init, wn_RX1, ⟨by decide, by decide⟩, by decide +kernel, by decide⟩
theorem ml_yX2_init : nr_ML yX2_init cX2_init 4 none 3 := ⟨wc_yX2_init, wn_RX2, ⟨by decide, by decide⟩, by decide +kernel, by decide⟩
theorem ml_yX3_init : nr_ML yX3_init cX3_init 1 none 0 := ⟨wc_yX3_init, wn_RX3, ⟨by decide, by decide⟩, by decide +kernel, by decide⟩
theorem ml_yX4_init : nr_ML yX4_init cX4_init 1 none 0 := ⟨wc_yX4_init, wn_RX4, ⟨by decide, by decide⟩, by decide +kernel, by decide⟩
theorem ml_yX5_init : nr_ML yX5_init cX5_init 1 none 0 := ⟨wc_yX5_init, wn_RX5, ⟨by decide, by decide⟩, by decide +kernel, by decide⟩
theorem ml_yX6_init : nr_ML yX6_init cX6_init 1 none 0 := ⟨wc_yX6_init, wn_RX6, ⟨by decide, by decide⟩, by decide +kernel, by decide⟩
set_option maxHeartbeats 4000000 in
set_option maxRecDepth 100000 in
theorem b_X0 (Γ : nr_M) (h : Nat) : nb_C Γ 1 1 58 yX0_init cX0_init 1 [.ref h] [(h, .inr (0, [.null]))] (fun w => ∃ q, w = [(h, .inr (0, [.ref q])), (q, .inl (Γ.2.2.2.1, 58, .inl (fun _ => 0)))]) := by
  refine nb_body (lv := [(0, .ref h)]) (by decide +kernel) (Nat.le_of_ble_eq_true rfl) rfl (fun A X hX => ?_)
  refine N_aload_n hX dX0_init_0 rfl rfl ?_
  refine N_obj hX dX0_init_1 wm_RX0_3 (by decide) (by decide) rfl ?_
  refine N_aload_n hX dX0_init_4 rfl rfl ?_
  refine N_bipush (v := 58) hX dX0_init_5 (by decide) rfl ?_
  refine N_newi (N := 58) hX dX0_init_7 rfl (by decide) (by decide) (by decide) rfl (fun q => ?_)
  refine N_putF (ci := 0) (j := 0) (ty := (.array .int)) (q0 := 0) hX dX0_init_9 ⟨RX0, TX0, 1, tyX0, rfl, nr_u0, tyX0_ok, nmX0, by decide, wf_RX0_9, rfl, rfl, by decide +kernel⟩ rfl (Nat.le_of_ble_eq_true rfl) rfl rfl rfl rfl ?_
  exact N_vret hX dX0_init_12 (by decide) (by decide) ⟨q, rfl⟩
set_option maxHeartbeats 4000000 in
set_option maxRecDepth 100000 in
theorem b_X1 (Γ : nr_M) (h : Nat) : nb_C Γ 1 1 464 yX1_init cX1_init 1 [.ref h] [(h, .inr (1, [.null, .int 0]))] (fun w => ∃ q, w = [(h, .inr (1, [.ref q, .int 0])), (q, .inl (Γ.2.2.2.1, 464, .inl (fun _ => 0)))]) := by
  refine nb_body (lv := [(0, .ref h)]) (by decide +kernel) (Nat.le_of_ble_eq_true rfl) rfl (fun A X hX => ?_)
  refine N_aload_n hX dX1_init_0 rfl rfl ?_
  refine N_obj hX dX1_init_1 wm_RX1_3 (by decide) (by decide) rfl ?_
  refine N_aload_n hX dX1_init_4 rfl rfl ?_
  refine N_sipush (v := 464) hX dX1_init_5 (by decide) rfl ?_
  refine N_newi (N := 464) hX dX1_init_8 rfl (by decide) (by decide) (by decide) rfl (fun q => ?_)
  refine N_putF (ci := 1) (j := 0) (ty := (.array .int)) (q0 := 0) hX dX1_init_10 ⟨RX1, TX1, 2, tyX1, rfl, nr_u1, tyX1_ok, nmX1, by decide, wf_RX1_9, rfl, rfl, by decide +kernel⟩ rfl (Nat.le_of_ble_eq_true rfl) rfl rfl rfl rfl ?_
  exact N_vret hX dX1_init_13 (by decide) (by decide) ⟨q, rfl⟩
set_option maxHeartbeats 4000000 in
set_option maxRecDepth 100000 in
theorem b_X3 (Γ : nr_M) (h : Nat) : nb_C Γ 1 5 500 yX3_init cX3_init 1 [.ref h] [(h, .inr (3, [.null, .null, .null, .null, .null, .int 0, .int 0, .int 0, .int 0, .int 0, .int 0]))] (fun w => ∃ q1 q2 q3 q4 q5, w = [(h, .inr (3, [.ref q1, .ref q2, .ref q3, .ref q4, .ref q5, .int 0, .int 0, .int 0, .int 0, .int 0, .int 0])), (q1, .inl (Γ.2.2.2.1, 100, .inl (fun _ => 0))), (q2, .inl (Γ.2.2.2.1, 100, .inl (fun _ => 0))), (q3, .inl (Γ.2.2.2.1, 100, .inl (fun _ => 0))), (q4, .inl (Γ.2.2.2.1, 100, .inl (fun _ => 0))), (q5, .inl (Γ.2.2.2.1, 100, .inl (fun _ => 0)))]) := by
  refine nb_body (lv := [(0, .ref h)]) (by decide +kernel) (Nat.le_of_ble_eq_true rfl) rfl (fun A X hX => ?_)
  refine N_aload_n hX dX3_init_0 rfl rfl ?_
  refine N_obj hX dX3_init_1 wm_RX3_3 (by decide) (by decide) rfl ?_
  refine N_aload_n hX dX3_init_4 rfl rfl ?_
  refine N_bipush (v := 100) hX dX3_init_5 (by decide) rfl ?_
  refine N_newi (N := 100) hX dX3_init_7 rfl (by decide) (by decide) (by decide) rfl (fun q1 => ?_)
  refine N_putF (ci := 3) (j := 0) (ty := (.array .int)) (q0 := 0) hX dX3_init_9 ⟨RX3, TX3, 11, tyX3, rfl, nr_u3, tyX3_ok, nmX3, by decide, wf_RX3_9, rfl, rfl, by decide +kernel⟩ rfl (Nat.le_of_ble_eq_true rfl) rfl rfl rfl rfl ?_
  refine N_aload_n hX dX3_init_12 rfl rfl ?_
  refine N_bipush (v := 100) hX dX3_init_13 (by decide) rfl ?_
  refine N_newi (N := 100) hX dX3_init_15 rfl (by decide) (by decide) (by decide) rfl (fun q2 => ?_)
  refine N_putF (ci := 3) (j := 1) (ty := (.array .int)) (q0 := 0) hX dX3_init_17 ⟨RX3, TX3, 11, tyX3, rfl, nr_u3, tyX3_ok, nmX3, by decide, wf_RX3_15, rfl, rfl, by decide +kernel⟩ rfl (Nat.le_of_ble_eq_true rfl) rfl rfl rfl rfl ?_
  refine N_aload_n hX dX3_init_20 rfl rfl ?_
  refine N_bipush (v := 100) hX dX3_init_21 (by decide) rfl ?_
  refine N_newi (N := 100) hX dX3_init_23 rfl (by decide) (by decide) (by decide) rfl (fun q3 => ?_)
  refine N_putF (ci := 3) (j := 2) (ty := (.array .int)) (q0 := 0) hX dX3_init_25 ⟨RX3, TX3, 11, tyX3, rfl, nr_u3, tyX3_ok, nmX3, by decide, wf_RX3_18, rfl, rfl, by decide +kernel⟩ rfl (Nat.le_of_ble_eq_true rfl) rfl rfl rfl rfl ?_
  refine N_aload_n hX dX3_init_28 rfl rfl ?_
  refine N_bipush (v := 100) hX dX3_init_29 (by decide) rfl ?_
  refine N_newi (N := 100) hX dX3_init_31 rfl (by decide) (by decide) (by decide) rfl (fun q4 => ?_)
  refine N_putF (ci := 3) (j := 3) (ty := (.array .int)) (q0 := 0) hX dX3_init_33 ⟨RX3, TX3, 11, tyX3, rfl, nr_u3, tyX3_ok, nmX3, by decide, wf_RX3_21, rfl, rfl, by decide +kernel⟩ rfl (Nat.le_of_ble_eq_true rfl) rfl rfl rfl rfl ?_
  refine N_aload_n hX dX3_init_36 rfl rfl ?_
  refine N_bipush (v := 100) hX dX3_init_37 (by decide) rfl ?_
  refine N_newi (N := 100) hX dX3_init_39 rfl (by decide) (by decide) (by decide) rfl (fun q5 => ?_)
  refine N_putF (ci := 3) (j := 4) (ty := (.array .int)) (q0 := 0) hX dX3_init_41 ⟨RX3, TX3, 11, tyX3, rfl, nr_u3, tyX3_ok, nmX3, by decide, wf_RX3_24, rfl, rfl, by decide +kernel⟩ rfl (Nat.le_of_ble_eq_true rfl) rfl rfl rfl rfl ?_
  exact N_vret hX dX3_init_44 (by decide) (by decide) ⟨q1, q2, q3, q4, q5, rfl⟩
set_option maxHeartbeats 4000000 in
set_option maxRecDepth 100000 in
theorem b_X2 (Γ : nr_M) (h a b c : Nat) : nb_C Γ 1 0 0 yX2_init cX2_init 4 [.ref h, .ref a, .ref b, .ref c] [(h, .inr (2, [.null, .null, .null]))] (fun w => w = [(h, .inr (2, [.ref a, .ref b, .ref c]))]) := by
  refine nb_body (lv := [(0, .ref h), (1, .ref a), (2, .ref b), (3, .ref c)]) (by decide +kernel) (Nat.le_of_ble_eq_true rfl) rfl (fun A X hX => ?_)
  refine N_aload_n hX dX2_init_0 rfl rfl ?_
  refine N_obj hX dX2_init_1 wm_RX2_3 (by decide) (by decide) rfl ?_
  refine N_aload_n hX dX2_init_4 rfl rfl ?_
  refine N_aload_n hX dX2_init_5 rfl rfl ?_
  refine N_putF (ci := 2) (j := 0) (ty := (.object "NightRounds$Script")) (q0 := 0) hX dX2_init_6 ⟨RX2, TX2, 3, tyX2, rfl, nr_u2, tyX2_ok, nmX2, by decide, wf_RX2_9, rfl, rfl, by decide +kernel⟩ rfl (Nat.le_of_ble_eq_true rfl) rfl rfl rfl rfl ?_
  refine N_aload_n hX dX2_init_9 rfl rfl ?_
  refine N_aload_n hX dX2_init_10 rfl rfl ?_
  refine N_put (ci := 2) (j := 1) (ty := .object "NightRounds$House") (q0 := 0) hX dX2_init_11 ⟨RX2, TX2, 3, tyX2, rfl, nr_u2, tyX2_ok, nmX2, by decide, wf_RX2_15, rfl, by decide +kernel⟩ rfl (Nat.le_of_ble_eq_true rfl) rfl rfl rfl ?_
  refine N_aload_n hX dX2_init_14 rfl rfl ?_
  refine N_aload_n hX dX2_init_15 rfl rfl ?_
  refine N_put (ci := 2) (j := 2) (ty := .object "NightRounds$Tale") (q0 := 0) hX dX2_init_16 ⟨RX2, TX2, 3, tyX2, rfl, nr_u2, tyX2_ok, nmX2, by decide, wf_RX2_19, rfl, by decide +kernel⟩ rfl (Nat.le_of_ble_eq_true rfl) rfl rfl rfl ?_
  exact N_vret hX dX2_init_19 (by decide) (by decide) rfl
set_option maxHeartbeats 4000000 in
set_option maxRecDepth 100000 in
theorem b_fill_5 (Γ : nr_M) (a : Nat) (v : Int32) {A : Nat → Prop} {X : nr_CX} (hX : nb_Cx Γ A X yJ7_fill_53178 cJ7_fill_53178 4 none 0 0 0) : ∀ (j i : Nat) (f : Nat → Int32), i + j = 8 → (∀ k, k < i → f k = v) → nb_G Γ A X 4 (nb_Q Γ A X 0 0 (fun w => ∃ f' : Nat → Int32, w = [(a, .inl (Γ.2.2.2.1, 8, .inl f'))] ∧ ∀ i, i < 8 → f' i = v)) 5 [(0, .ref a), (1, .int v), (2, .int (nI i)), (3, .int (nI 8))] [] [(a, .inl (Γ.2.2.2.1, 8, .inl f))] 0 0
  | 0, i, f, hi, hf => by
    refine N_iload_n hX dJ7_fill_53178_5 rfl rfl ?_
    refine N_iload_n hX dJ7_fill_53178_6 rfl rfl ?_
    refine N_icmp_ge (tg := 20) hX dJ7_fill_53178_7 (by decide) rfl (fun _ => ?_) (fun q => absurd (nI_le (by omega) (by omega)) q)
    exact N_vret hX dJ7_fill_53178_20 (by decide) (by decide) ⟨f, rfl, fun k hk => hf k (by omega)⟩
  | j + 1, i, f, hi, hf => by
    refine N_iload_n hX dJ7_fill_53178_5 rfl rfl ?_
    refine N_iload_n hX dJ7_fill_53178_6 rfl rfl ?_
    refine N_icmp_ge (tg := 20) hX dJ7_fill_53178_7 (by decide) rfl (fun q => absurd q (nI_ge (by omega) (by omega))) (fun _ => ?_)
    refine N_aload_n hX dJ7_fill_53178_10 rfl rfl ?_
    refine N_iload_n hX dJ7_fill_53178_11 rfl rfl ?_
    refine N_iload_n hX dJ7_fill_53178_12 rfl rfl ?_
    refine N_iast (q0 := 0) (N := 8) (f := f) (i := i) hX dJ7_fill_53178_13 rfl rfl (by omega) (by decide) rfl ?_
    refine N_iinc (v := nI (i + 1)) hX dJ7_fill_53178_14 rfl (nI_1 i) (by decide) rfl rfl ?_
    refine N_goto (tg := 5) hX dJ7_fill_53178_17 (by decide) ?_
    refine nb_ls (lv' := [(0, .ref a), (1, .int v), (2, .int (nI (i + 1))), (3, .int (nI 8))]) ⟨rfl, rfl, rfl, rfl, trivial⟩ ?_
    refine b_fill_5 Γ a v hX j (i + 1) (upd f i v) (by omega) (fun k hk => ?_)
    by_cases e : k = i
    · rw [e, pk_us]
    · rw [pk_un e]; exact hf k (by omega)
set_option maxHeartbeats 4000000 in
set_option maxRecDepth 100000 in
theorem b_fill (Γ : nr_M) (a : Nat) (v : Int32) (f : Nat → Int32) : nb_C Γ 0 0 0 yJ7_fill_53178 cJ7_fill_53178 4 [.ref a, .int v] [(a, .inl (Γ.2.2.2.1, 8, .inl f))] (fun w => ∃ f' : Nat → Int32, w = [(a, .inl (Γ.2.2.2.1, 8, .inl f'))] ∧ ∀ i, i < 8 → f' i = v) := by
  refine nb_body (lv := [(0, .ref a), (1, .int v)]) (by decide +kernel) (Nat.le_of_ble_eq_true rfl) rfl (fun A X hX => ?_)
  refine N_iconst (v := 0) hX dJ7_fill_53178_0 (by decide) rfl ?_
  refine N_istore_n hX dJ7_fill_53178_1 (by decide) rfl rfl ?_
  refine N_aload_n hX dJ7_fill_53178_2 rfl rfl ?_
  refine N_alen (q0 := 0) (N := 8) (f := f) hX dJ7_fill_53178_3 rfl rfl ?_
  refine N_istore_n hX dJ7_fill_53178_4 (by decide) rfl rfl ?_
  refine nb_ls (lv' := [(0, .ref a), (1, .int v), (2, .int (nI 0)), (3, .int (nI 8))]) ⟨rfl, rfl, rfl, rfl, trivial⟩ ?_
  exact b_fill_5 Γ a v hX 8 0 f rfl (fun k hk => absurd hk (by omega))
def b_cf (f : Nat → Int32) : Nat → Int32 := upd (upd (upd (upd f 0 0) 1 (-1)) 2 (-1)) 3 0
set_option maxHeartbeats 4000000 in
set_option maxRecDepth 100000 in
theorem b_calm (Γ : nr_M) (h a e : Nat) (o1 o2 o3 : Int32) (f : Nat → Int32) : nb_C Γ 0 0 0 yX4_calm cX4_calm 1 [.ref h] [(h, .inr (4, [.ref a, .ref e, .int o1, .int o2, .int o3])), (a, .inl (Γ.2.2.2.1, 8, .inl f))] (fun w => w = [(h, .inr (4, [.ref a, .ref e, .int o1, .int (-1), .int o3])), (a, .inl (Γ.2.2.2.1, 8, .inl (b_cf f)))]) := by
  refine nb_body (lv := [(0, .ref h)]) (by decide +kernel) (Nat.le_of_ble_eq_true rfl) rfl (fun A X hX => ?_)
  refine N_aload_n hX dX4_calm_0 rfl rfl ?_
  refine N_get (ci := 4) (j := 0) (q0 := 0) hX dX4_calm_1 ⟨RX4, TX4, 5, rfl, nr_u4, by decide, Or.inl wf_RX4_9⟩ rfl rfl rfl ?_
  refine N_iconst (v := 0) hX dX4_calm_4 (by decide) rfl ?_
  refine N_iconst (v := 0) hX dX4_calm_5 (by decide) rfl ?_
  refine N_iast (q0 := 1) (N := 8) (f := f) (i := 0) hX dX4_calm_6 rfl rfl (by decide) (by decide) rfl ?_
  refine N_aload_n hX dX4_calm_7 rfl rfl ?_
  refine N_get (ci := 4) (j := 0) (q0 := 0) hX dX4_calm_8 ⟨RX4, TX4, 5, rfl, nr_u4, by decide, Or.inl wf_RX4_9⟩ rfl rfl rfl ?_
  refine N_iconst (v := 1) hX dX4_calm_11 (by decide) rfl ?_
  refine N_iconst (v := (-1)) hX dX4_calm_12 (by decide) rfl ?_
  refine N_iast (q0 := 1) (N := 8) (f := (upd f 0 0)) (i := 1) hX dX4_calm_13 rfl rfl (by decide) (by decide) rfl ?_
  refine N_aload_n hX dX4_calm_14 rfl rfl ?_
  refine N_get (ci := 4) (j := 0) (q0 := 0) hX dX4_calm_15 ⟨RX4, TX4, 5, rfl, nr_u4, by decide, Or.inl wf_RX4_9⟩ rfl rfl rfl ?_
  refine N_iconst (v := 2) hX dX4_calm_18 (by decide) rfl ?_
  refine N_iconst (v := (-1)) hX dX4_calm_19 (by decide) rfl ?_
  refine N_iast (q0 := 1) (N := 8) (f := (upd (upd f 0 0) 1 (-1))) (i := 2) hX dX4_calm_20 rfl rfl (by decide) (by decide) rfl ?_
  refine N_aload_n hX dX4_calm_21 rfl rfl ?_
  refine N_get (ci := 4) (j := 0) (q0 := 0) hX dX4_calm_22 ⟨RX4, TX4, 5, rfl, nr_u4, by decide, Or.inl wf_RX4_9⟩ rfl rfl rfl ?_
  refine N_iconst (v := 3) hX dX4_calm_25 (by decide) rfl ?_
  refine N_iconst (v := 0) hX dX4_calm_26 (by decide) rfl ?_
  refine N_iast (q0 := 1) (N := 8) (f := (upd (upd (upd f 0 0) 1 (-1)) 2 (-1))) (i := 3) hX dX4_calm_27 rfl rfl (by decide) (by decide) rfl ?_
  refine N_aload_n hX dX4_calm_28 rfl rfl ?_
  refine N_iconst (v := -1) hX dX4_calm_29 (by decide) rfl ?_
  refine N_put (ci := 4) (j := 3) (ty := .int) (q0 := 0) hX dX4_calm_30 ⟨RX4, TX4, 5, tyX4, rfl, nr_u4, tyX4_ok, nmX4, by decide, wf_RX4_37, rfl, by decide +kernel⟩ rfl (Nat.le_of_ble_eq_true rfl) rfl rfl rfl ?_
  exact N_vret hX dX4_calm_33 (by decide) (by decide) rfl
def b_tf (f : Nat → Int32) : Prop := f 0 = 0 ∧ f 1 = -1 ∧ f 2 = -1 ∧ ∀ i, 3 ≤ i → i < 8 → f i = 0
theorem b_tf_cf {f : Nat → Int32} (h : ∀ i, i < 8 → f i = 0) : b_tf (b_cf f) := by
  unfold b_tf b_cf
  refine ⟨by simp [upd], by simp [upd], by simp [upd], fun i h3 h8 => ?_⟩
  by_cases e : i = 3
  · rw [e, pk_us]
  · rw [pk_un e, pk_un (by omega), pk_un (by omega), pk_un (by omega)]; exact h i h8
set_option maxHeartbeats 4000000 in
set_option maxRecDepth 100000 in
theorem b_begin (Γ : nr_M) (h a e : Nat) (o1 o2 o3 : Int32) (f : Nat → Int32) : nb_C Γ 1 0 0 yX4_begin cX4_begin 1 [.ref h] [(h, .inr (4, [.ref a, .ref e, .int o1, .int o2, .int o3])), (a, .inl (Γ.2.2.2.1, 8, .inl f))] (fun w => ∃ f' : Nat → Int32, w = [(h, .inr (4, [.ref a, .ref e, .int 0, .int (-1), .int 0])), (a, .inl (Γ.2.2.2.1, 8, .inl f'))] ∧ b_tf f') := by
  refine nb_body (lv := [(0, .ref h)]) (by decide +kernel) (Nat.le_of_ble_eq_true rfl) rfl (fun A X hX => ?_)
  refine N_aload_n hX dX4_begin_0 rfl rfl ?_
  refine N_get (ci := 4) (j := 0) (q0 := 0) hX dX4_begin_1 ⟨RX4, TX4, 5, rfl, nr_u4, by decide, Or.inl wf_RX4_9⟩ rfl rfl rfl ?_
  refine N_iconst (v := 0) hX dX4_begin_4 (by decide) rfl ?_
  refine N_callS (isC := [1]) (isR := [0]) (wc := [(a, .inl (Γ.2.2.2.1, 8, .inl f))]) (wr := [(h, .inr (4, [.ref a, .ref e, .int o1, .int o2, .int o3]))]) hX dX4_begin_5 ls_RX4_21 (b_fill Γ a 0 f) (by decide) rfl rfl (by decide) rfl rfl rfl rfl (by decide) (by decide) (by decide) rfl (fun w1 hw1 => ?_)
  obtain ⟨f1, rfl, hf1⟩ := hw1
  refine N_aload_n hX dX4_begin_8 rfl rfl ?_
  refine N_iconst (v := 0) hX dX4_begin_9 (by decide) rfl ?_
  refine N_put (ci := 4) (j := 2) (ty := .int) (q0 := 0) hX dX4_begin_10 ⟨RX4, TX4, 5, tyX4, rfl, nr_u4, tyX4_ok, nmX4, by decide, wf_RX4_27, rfl, by decide +kernel⟩ rfl (Nat.le_of_ble_eq_true rfl) rfl rfl rfl ?_
  refine N_aload_n hX dX4_begin_13 rfl rfl ?_
  refine N_iconst (v := 0) hX dX4_begin_14 (by decide) rfl ?_
  refine N_put (ci := 4) (j := 4) (ty := .int) (q0 := 0) hX dX4_begin_15 ⟨RX4, TX4, 5, tyX4, rfl, nr_u4, tyX4_ok, nmX4, by decide, wf_RX4_31, rfl, by decide +kernel⟩ rfl (Nat.le_of_ble_eq_true rfl) rfl rfl rfl ?_
  refine N_aload_n hX dX4_begin_18 rfl rfl ?_
  refine N_callV (ci := 4) (q0 := 0) (isC := [0, 1]) (isR := []) (wc := [(h, .inr (4, [.ref a, .ref e, .int 0, .int o2, .int 0])), (a, .inl (Γ.2.2.2.1, 8, .inl f1))]) (wr := []) (fs := [.ref a, .ref e, .int 0, .int o2, .int 0]) hX dX4_begin_19 lv_RX4_34 (b_calm Γ h a e 0 o2 0 f1) (by decide) rfl rfl rfl (by decide) rfl rfl rfl rfl (by decide) (by decide) (by decide) rfl (fun w1 hw1 => ?_)
  subst hw1
  exact N_vret hX dX4_begin_22 (by decide) (by decide) ⟨b_cf f1, rfl, b_tf_cf hf1⟩
set_option maxHeartbeats 4000000 in
set_option maxRecDepth 100000 in
theorem b_X4 (Γ : nr_M) (h : Nat) : nb_C Γ 2 2 158 yX4_init cX4_init 1 [.ref h] [(h, .inr (4, [.null, .null, .int 0, .int 0, .int 0]))] (fun w => ∃ (q1 q2 : Nat) (f : Nat → Int32), w = [(q2, .inl (Γ.2.2.2.1, 150, .inl (fun _ => 0))), (h, .inr (4, [.ref q1, .ref q2, .int 0, .int (-1), .int 0])), (q1, .inl (Γ.2.2.2.1, 8, .inl f))] ∧ b_tf f) := by
  refine nb_body (lv := [(0, .ref h)]) (by decide +kernel) (Nat.le_of_ble_eq_true rfl) rfl (fun A X hX => ?_)
  refine N_aload_n hX dX4_init_0 rfl rfl ?_
  refine N_obj hX dX4_init_1 wm_RX4_3 (by decide) (by decide) rfl ?_
  refine N_aload_n hX dX4_init_4 rfl rfl ?_
  refine N_bipush (v := 8) hX dX4_init_5 (by decide) rfl ?_
  refine N_newi (N := 8) hX dX4_init_7 rfl (by decide) (by decide) (by decide) rfl (fun q1 => ?_)
  refine N_putF (ci := 4) (j := 0) (ty := (.array .int)) (q0 := 0) hX dX4_init_9 ⟨RX4, TX4, 5, tyX4, rfl, nr_u4, tyX4_ok, nmX4, by decide, wf_RX4_9, rfl, rfl, by decide +kernel⟩ rfl (Nat.le_of_ble_eq_true rfl) rfl rfl rfl rfl ?_
  refine N_aload_n hX dX4_init_12 rfl rfl ?_
  refine N_sipush (v := 150) hX dX4_init_13 (by decide) rfl ?_
  refine N_newi (N := 150) hX dX4_init_16 rfl (by decide) (by decide) (by decide) rfl (fun q2 => ?_)
  refine N_putF (ci := 4) (j := 1) (ty := (.array .int)) (q0 := 0) hX dX4_init_18 ⟨RX4, TX4, 5, tyX4, rfl, nr_u4, tyX4_ok, nmX4, by decide, wf_RX4_15, rfl, rfl, by decide +kernel⟩ rfl (Nat.le_of_ble_eq_true rfl) rfl rfl rfl rfl ?_
  refine N_aload_n hX dX4_init_21 rfl rfl ?_
  refine N_callV (ci := 4) (q0 := 0) (isC := [0, 1]) (isR := [2]) (wc := [(h, .inr (4, [.ref q1, .ref q2, .int 0, .int 0, .int 0])), (q1, .inl (Γ.2.2.2.1, 8, .inl (fun _ => 0)))]) (wr := [(q2, .inl (Γ.2.2.2.1, 150, .inl (fun _ => 0)))]) (fs := [.ref q1, .ref q2, .int 0, .int 0, .int 0]) hX dX4_init_22 lv_RX4_18 (b_begin Γ h q1 q2 0 0 0 (fun _ => 0)) (by decide) rfl rfl rfl (by decide) rfl rfl rfl rfl (by decide) (by decide) (by decide) rfl (fun w1 hw1 => ?_)
  obtain ⟨f1, rfl, hf1⟩ := hw1
  exact N_vret hX dX4_init_25 (by decide) (by decide) ⟨q1, q2, f1, rfl, hf1⟩
