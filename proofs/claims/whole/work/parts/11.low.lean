def T_J7_fill_53178_5 (k0 : Nat) : Nat → Int32 → Int32 → Int32 → (Nat → Int32) → (Nat → Nat → Int32) → Int32 × nr_S
  | 0, _, _, _, z, g => (0, z, g)
  | n + 1, a1, a2, a3, z, g => (if a3 ≤ a2 then (0, z, g) else (T_J7_fill_53178_5 k0 n a1 (a2 + (1 : Int32)) a3 z (nr_st g k0 a2 a1)))
def O_J7_fill_53178_5 (k0 : Nat) : Nat → Int32 → Int32 → Int32 → (Nat → Int32) → (Nat → Nat → Int32) → Prop
  | 0, _, _, _, _, _ => False
  | n + 1, a1, a2, a3, z, g => ((a3 ≤ a2 → True) ∧ (¬ (a3 ≤ a2) → (0 < (nr_il k0) ∧ (vp_in a2 (nr_il k0) ∧ (O_J7_fill_53178_5 k0 n a1 (a2 + (1 : Int32)) a3 z (nr_st g k0 a2 a1))))))
set_option maxHeartbeats 4000000 in
set_option maxRecDepth 100000 in
theorem sp_J7_fill_53178_5 (Γ : nr_M) (ρ : Nat → Nat) (d : Nat) (k0 : Nat) (X : nr_CX) (hX : nr_Cx Γ ρ X yJ7_fill_53178 cJ7_fill_53178 4 none (d + 0)) : ∀ (n : Nat) (a1 : Int32) (a2 : Int32) (a3 : Int32) (z : Nat → Int32) (g : Nat → Nat → Int32) (R0 : Int32 × nr_S) (_ : T_J7_fill_53178_5 k0 n a1 a2 a3 z g = R0) (_ : O_J7_fill_53178_5 k0 n a1 a2 a3 z g), nr_G Γ ρ X 4 (nr_Qv Γ ρ X (fun u => R0 = (0, u))) 5 [(0, .ref (ρ k0)), (1, .int a1), (2, .int a2), (3, .int a3)] [] z g := by
  intro n
  induction n with
  | zero => intro a1 a2 a3 z g R0 hR hok; exact False.elim hok
  | succ n ih =>
    intro a1 a2 a3 z g R0 hR hok
    rw [T_J7_fill_53178_5] at hR
    rw [O_J7_fill_53178_5] at hok
    refine G_iload_n hX dJ7_fill_53178_5 rfl rfl ?_
    refine G_iload_n hX dJ7_fill_53178_6 rfl rfl ?_
    refine G_icmp_ge (tg := 20) hX dJ7_fill_53178_7 (by decide) rfl (fun (h_7 : a3 ≤ a2) => ?_) (fun (h_7 : ¬ (a3 ≤ a2)) => ?_)
    · rw [if_pos h_7] at hR
      replace hok := hok.1 h_7
      exact G_vret hX dJ7_fill_53178_20 hR.symm
    · rw [if_neg h_7] at hR
      replace hok := hok.2 h_7
      refine G_aload_n hX dJ7_fill_53178_10 rfl rfl ?_
      refine G_iload_n hX dJ7_fill_53178_11 rfl rfl ?_
      refine G_iload_n hX dJ7_fill_53178_12 rfl rfl ?_
      obtain ⟨hz_13, hok⟩ := hok
      obtain ⟨hi_13, hok⟩ := hok
      refine G_ist hX dJ7_fill_53178_13 rfl hz_13 hi_13 rfl ?_
      refine G_iinc (v := (a2 + (1 : Int32))) hX dJ7_fill_53178_14 rfl rfl (by decide) rfl rfl ?_
      refine G_goto (tg := 5) hX dJ7_fill_53178_17 (by decide) ?_
      exact nr_sub (by exact ⟨rfl, rfl, rfl, rfl, trivial⟩) (ih a1 (a2 + (1 : Int32)) a3 z (nr_st g k0 a2 a1) R0 hR hok)
def T_J7_fill_53178 (k0 : Nat) (a1 : Int32) (z : Nat → Int32) (g : Nat → Nat → Int32) : Int32 × nr_S := (T_J7_fill_53178_5 k0 500 a1 (0 : Int32) (Int32.ofNat (nr_rl k0)) z g)
def O_J7_fill_53178 (k0 : Nat) (a1 : Int32) (z : Nat → Int32) (g : Nat → Nat → Int32) : Prop := (0 < nr_rl k0 ∧ (O_J7_fill_53178_5 k0 500 a1 (0 : Int32) (Int32.ofNat (nr_rl k0)) z g))
set_option maxHeartbeats 4000000 in
set_option maxRecDepth 100000 in
theorem sp_J7_fill_53178 (Γ : nr_M) (ρ : Nat → Nat) (d : Nat) (k0 : Nat) (a1 : Int32) (z : Nat → Int32) (g : Nat → Nat → Int32) (hok : O_J7_fill_53178 k0 a1 z g) : nr_Sv Γ ρ (d + 0) yJ7_fill_53178 cJ7_fill_53178 4 none [.ref (ρ k0), .int a1] z g (fun u => (T_J7_fill_53178 k0 a1 z g) = (0, u)) := by
  refine nr_body_v (lv := [(0, .ref (ρ k0)), (1, .int a1)]) (by decide +kernel) (Nat.le_of_ble_eq_true rfl) rfl (fun X hX => ?_)
  generalize hR : (T_J7_fill_53178 k0 a1 z g) = R0
  rw [T_J7_fill_53178] at hR
  rw [O_J7_fill_53178] at hok
  refine G_iconst (v := (0 : Int32)) hX dJ7_fill_53178_0 (by decide) rfl ?_
  refine G_istore_n hX dJ7_fill_53178_1 (by decide) rfl rfl ?_
  refine G_aload_n hX dJ7_fill_53178_2 rfl rfl ?_
  obtain ⟨hz_3, hok⟩ := hok
  refine G_rlen hX dJ7_fill_53178_3 hz_3 rfl ?_
  refine G_istore_n hX dJ7_fill_53178_4 (by decide) rfl rfl ?_
  exact nr_sub (by exact ⟨rfl, rfl, rfl, rfl, trivial⟩) (sp_J7_fill_53178_5 Γ ρ d k0 X hX 500 a1 (0 : Int32) (Int32.ofNat (nr_rl k0)) z g R0 hR hok)
def T_X4_calm (t : Nat) (z : Nat → Int32) (g : Nat → Nat → Int32) : Int32 × nr_S := (0, (va_up z (t - 2) (-1 : Int32)), (nr_st (nr_st (nr_st (nr_st g (t + 1) (0 : Int32) (0 : Int32)) (t + 1) (1 : Int32) (-1 : Int32)) (t + 1) (2 : Int32) (-1 : Int32)) (t + 1) (3 : Int32) (0 : Int32)))
set_option maxHeartbeats 4000000 in
set_option maxRecDepth 100000 in
theorem sp_X4_calm (Γ : nr_M) (ρ : Nat → Nat) (d : Nat) (t : Nat) (ht : nr_ta t) (z : Nat → Int32) (g : Nat → Nat → Int32) : nr_Sv Γ ρ (d + 0) yX4_calm cX4_calm 1 none [.ref (ρ t)] z g (fun u => (T_X4_calm t z g) = (0, u)) := by
  refine nr_body_v (lv := [(0, .ref (ρ t))]) (by decide +kernel) (Nat.le_of_ble_eq_true rfl) rfl (fun X hX => ?_)
  generalize hR : (T_X4_calm t z g) = R0
  rw [T_X4_calm] at hR
  refine G_aload_n hX dX4_calm_0 rfl rfl ?_
  refine G_getr hX dX4_calm_1 (gt_RX4_9 ht) rfl ?_
  refine G_iconst (v := (0 : Int32)) hX dX4_calm_4 (by decide) rfl ?_
  refine G_iconst (v := (0 : Int32)) hX dX4_calm_5 (by decide) rfl ?_
  refine G_ist hX dX4_calm_6 (nr_il_t1 ht) (by decide) (by unfold vp_in; decide) rfl ?_
  refine G_aload_n hX dX4_calm_7 rfl rfl ?_
  refine G_getr hX dX4_calm_8 (gt_RX4_9 ht) rfl ?_
  refine G_iconst (v := (1 : Int32)) hX dX4_calm_11 (by decide) rfl ?_
  refine G_iconst (v := (-1 : Int32)) hX dX4_calm_12 (by decide) rfl ?_
  refine G_ist hX dX4_calm_13 (nr_il_t1 ht) (by decide) (by unfold vp_in; decide) rfl ?_
  refine G_aload_n hX dX4_calm_14 rfl rfl ?_
  refine G_getr hX dX4_calm_15 (gt_RX4_9 ht) rfl ?_
  refine G_iconst (v := (2 : Int32)) hX dX4_calm_18 (by decide) rfl ?_
  refine G_iconst (v := (-1 : Int32)) hX dX4_calm_19 (by decide) rfl ?_
  refine G_ist hX dX4_calm_20 (nr_il_t1 ht) (by decide) (by unfold vp_in; decide) rfl ?_
  refine G_aload_n hX dX4_calm_21 rfl rfl ?_
  refine G_getr hX dX4_calm_22 (gt_RX4_9 ht) rfl ?_
  refine G_iconst (v := (3 : Int32)) hX dX4_calm_25 (by decide) rfl ?_
  refine G_iconst (v := (0 : Int32)) hX dX4_calm_26 (by decide) rfl ?_
  refine G_ist hX dX4_calm_27 (nr_il_t1 ht) (by decide) (by unfold vp_in; decide) rfl ?_
  refine G_aload_n hX dX4_calm_28 rfl rfl ?_
  refine G_iconst (v := (-1 : Int32)) hX dX4_calm_29 (by decide) rfl ?_
  refine G_put hX dX4_calm_30 (pt_RX4_37 ht) rfl rfl rfl ?_
  exact G_vret hX dX4_calm_33 hR.symm
def T_X4_begin (t : Nat) (z : Nat → Int32) (g : Nat → Nat → Int32) : Int32 × nr_S := (nr_K (T_J7_fill_53178 (t + 1) (0 : Int32) z g) (fun r_5 z_5 g_5 => (nr_K (T_X4_calm t (va_up (va_up z_5 (t - 3) (0 : Int32)) (t - 1) (0 : Int32)) g_5) (fun r_19 z_19 g_19 => (0, z_19, g_19)))))
def O_X4_begin (t : Nat) (z : Nat → Int32) (g : Nat → Nat → Int32) : Prop := ((O_J7_fill_53178 (t + 1) (0 : Int32) z g ∧ True))
set_option maxHeartbeats 4000000 in
set_option maxRecDepth 100000 in
theorem sp_X4_begin (Γ : nr_M) (ρ : Nat → Nat) (d : Nat) (t : Nat) (ht : nr_ta t) (z : Nat → Int32) (g : Nat → Nat → Int32) (hok : O_X4_begin t z g) : nr_Sv Γ ρ (d + 1) yX4_begin cX4_begin 1 none [.ref (ρ t)] z g (fun u => (T_X4_begin t z g) = (0, u)) := by
  refine nr_body_v (lv := [(0, .ref (ρ t))]) (by decide +kernel) (Nat.le_of_ble_eq_true rfl) rfl (fun X hX => ?_)
  generalize hR : (T_X4_begin t z g) = R0
  rw [T_X4_begin] at hR
  rw [O_X4_begin] at hok
  refine G_aload_n hX dX4_begin_0 rfl rfl ?_
  refine G_getr hX dX4_begin_1 (gt_RX4_9 ht) rfl ?_
  refine G_iconst (v := (0 : Int32)) hX dX4_begin_4 (by decide) rfl ?_
  obtain ⟨ho_5, hok⟩ := hok
  refine G_cSv hX dX4_begin_5 ls_RX4_21 (sp_J7_fill_53178 Γ ρ d (t + 1) (0 : Int32) z g ho_5) (by omega) rfl rfl (Nat.le_of_ble_eq_true rfl) rfl (fun u_5 e_5 => ?_)
  obtain ⟨z_5, g_5⟩ := u_5
  rw [e_5, nr_K_mk] at hR
  refine G_aload_n hX dX4_begin_8 rfl rfl ?_
  refine G_iconst (v := (0 : Int32)) hX dX4_begin_9 (by decide) rfl ?_
  refine G_put hX dX4_begin_10 (pt_RX4_27 ht) rfl rfl rfl ?_
  refine G_aload_n hX dX4_begin_13 rfl rfl ?_
  refine G_iconst (v := (0 : Int32)) hX dX4_begin_14 (by decide) rfl ?_
  refine G_put hX dX4_begin_15 (pt_RX4_31 ht) rfl rfl rfl ?_
  refine G_aload_n hX dX4_begin_18 rfl rfl ?_
  refine G_cVv hX dX4_begin_19 lv_RX4_34 (sp_X4_calm Γ ρ d t ht (va_up (va_up z_5 (t - 3) (0 : Int32)) (t - 1) (0 : Int32)) g_5) (by omega) (nr_is_ta ht) rfl rfl (Nat.le_of_ble_eq_true rfl) rfl (fun u_19 e_19 => ?_)
  obtain ⟨z_19, g_19⟩ := u_19
  rw [e_19, nr_K_mk] at hR
  exact G_vret hX dX4_begin_22 hR.symm
def R_X0_cell (b : Nat) (a1 : Int32) (a2 : Int32) (z : Nat → Int32) (g : Nat → Nat → Int32) : Int32 := (if ((a1 * (7 : Int32)) + a2) < 0 then (0 : Int32) else (if (58 : Int32) ≤ ((a1 * (7 : Int32)) + a2) then (0 : Int32) else (g (b + 1) (((a1 * (7 : Int32)) + a2)).toNatClampNeg)))
def O_X0_cell (b : Nat) (a1 : Int32) (a2 : Int32) (z : Nat → Int32) (g : Nat → Nat → Int32) : Prop := ((((a1 * (7 : Int32)) + a2) < 0 → True) ∧ (¬ (((a1 * (7 : Int32)) + a2) < 0) → (((58 : Int32) ≤ ((a1 * (7 : Int32)) + a2) → True) ∧ (¬ ((58 : Int32) ≤ ((a1 * (7 : Int32)) + a2)) → (vp_in ((a1 * (7 : Int32)) + a2) 58 ∧ True)))))
set_option maxHeartbeats 4000000 in
set_option maxRecDepth 100000 in
theorem sp_X0_cell (Γ : nr_M) (ρ : Nat → Nat) (d : Nat) (b : Nat) (a1 : Int32) (a2 : Int32) (hb : nr_ho b) (z : Nat → Int32) (g : Nat → Nat → Int32) (hok : O_X0_cell b a1 a2 z g) : nr_Si Γ ρ (d + 0) yX0_cell cX0_cell 4 (some .int) [.ref (ρ b), .int a1, .int a2] z g (fun x u => x = (R_X0_cell b a1 a2 z g) ∧ u = (z, g)) := by
  refine nr_body_i (lv := [(0, .ref (ρ b)), (1, .int a1), (2, .int a2)]) (by decide +kernel) (Nat.le_of_ble_eq_true rfl) rfl (fun X hX => ?_)
  generalize hR : (R_X0_cell b a1 a2 z g) = R0
  rw [R_X0_cell] at hR
  rw [O_X0_cell] at hok
  refine G_iload_n hX dX0_cell_0 rfl rfl ?_
  refine G_bipush (v := (7 : Int32)) hX dX0_cell_1 (by decide) rfl ?_
  refine G_imul hX dX0_cell_3 rfl ?_
  refine G_iload_n hX dX0_cell_4 rfl rfl ?_
  refine G_iadd hX dX0_cell_5 rfl ?_
  refine G_istore_n hX dX0_cell_6 (by decide) rfl rfl ?_
  refine G_iload_n hX dX0_cell_7 rfl rfl ?_
  refine G_if_lt (tg := 26) hX dX0_cell_8 (by decide) rfl (fun (h_8 : ((a1 * (7 : Int32)) + a2) < 0) => ?_) (fun (h_8 : ¬ (((a1 * (7 : Int32)) + a2) < 0)) => ?_)
  · rw [if_pos h_8] at hR
    replace hok := hok.1 h_8
    refine G_iconst (v := (0 : Int32)) hX dX0_cell_26 (by decide) rfl ?_
    exact G_iret hX rfl dX0_cell_27 rfl ⟨hR, rfl⟩
  · rw [if_neg h_8] at hR
    replace hok := hok.2 h_8
    refine G_iload_n hX dX0_cell_11 rfl rfl ?_
    refine G_bipush (v := (58 : Int32)) hX dX0_cell_12 (by decide) rfl ?_
    refine G_icmp_ge (tg := 26) hX dX0_cell_14 (by decide) rfl (fun (h_14 : (58 : Int32) ≤ ((a1 * (7 : Int32)) + a2)) => ?_) (fun (h_14 : ¬ ((58 : Int32) ≤ ((a1 * (7 : Int32)) + a2))) => ?_)
    · rw [if_pos h_14] at hR
      replace hok := hok.1 h_14
      refine G_iconst (v := (0 : Int32)) hX dX0_cell_26 (by decide) rfl ?_
      exact G_iret hX rfl dX0_cell_27 rfl ⟨hR, rfl⟩
    · rw [if_neg h_14] at hR
      replace hok := hok.2 h_14
      refine G_aload_n hX dX0_cell_17 rfl rfl ?_
      refine G_getr hX dX0_cell_18 (gt_RX0_9 hb) rfl ?_
      refine G_iload_n hX dX0_cell_21 rfl rfl ?_
      obtain ⟨hi_22, hok⟩ := hok
      refine G_iald hX dX0_cell_22 (nr_il_ho hb) (by decide) hi_22 rfl ?_
      refine G_goto (tg := 27) hX dX0_cell_23 (by decide) ?_
      exact G_iret hX rfl dX0_cell_27 rfl ⟨hR, rfl⟩
def T_X0_setCell (b : Nat) (a1 : Int32) (a2 : Int32) (a3 : Int32) (z : Nat → Int32) (g : Nat → Nat → Int32) : Int32 × nr_S := (if ((a1 * (7 : Int32)) + a2) < 0 then (0, z, g) else (if (58 : Int32) ≤ ((a1 * (7 : Int32)) + a2) then (0, z, g) else (0, z, (nr_st g (b + 1) ((a1 * (7 : Int32)) + a2) a3))))
def O_X0_setCell (b : Nat) (a1 : Int32) (a2 : Int32) (a3 : Int32) (z : Nat → Int32) (g : Nat → Nat → Int32) : Prop := ((((a1 * (7 : Int32)) + a2) < 0 → True) ∧ (¬ (((a1 * (7 : Int32)) + a2) < 0) → (((58 : Int32) ≤ ((a1 * (7 : Int32)) + a2) → True) ∧ (¬ ((58 : Int32) ≤ ((a1 * (7 : Int32)) + a2)) → (vp_in ((a1 * (7 : Int32)) + a2) 58 ∧ True)))))
set_option maxHeartbeats 4000000 in
set_option maxRecDepth 100000 in
theorem sp_X0_setCell (Γ : nr_M) (ρ : Nat → Nat) (d : Nat) (b : Nat) (a1 : Int32) (a2 : Int32) (a3 : Int32) (hb : nr_ho b) (z : Nat → Int32) (g : Nat → Nat → Int32) (hok : O_X0_setCell b a1 a2 a3 z g) : nr_Sv Γ ρ (d + 0) yX0_setCell cX0_setCell 5 none [.ref (ρ b), .int a1, .int a2, .int a3] z g (fun u => (T_X0_setCell b a1 a2 a3 z g) = (0, u)) := by
  refine nr_body_v (lv := [(0, .ref (ρ b)), (1, .int a1), (2, .int a2), (3, .int a3)]) (by decide +kernel) (Nat.le_of_ble_eq_true rfl) rfl (fun X hX => ?_)
  generalize hR : (T_X0_setCell b a1 a2 a3 z g) = R0
  rw [T_X0_setCell] at hR
  rw [O_X0_setCell] at hok
  refine G_iload_n hX dX0_setCell_0 rfl rfl ?_
  refine G_bipush (v := (7 : Int32)) hX dX0_setCell_1 (by decide) rfl ?_
  refine G_imul hX dX0_setCell_3 rfl ?_
  refine G_iload_n hX dX0_setCell_4 rfl rfl ?_
  refine G_iadd hX dX0_setCell_5 rfl ?_
  refine G_istore hX dX0_setCell_6 (by decide) rfl rfl ?_
  refine G_iload hX dX0_setCell_8 rfl rfl ?_
  refine G_if_lt (tg := 28) hX dX0_setCell_10 (by decide) rfl (fun (h_10 : ((a1 * (7 : Int32)) + a2) < 0) => ?_) (fun (h_10 : ¬ (((a1 * (7 : Int32)) + a2) < 0)) => ?_)
  · rw [if_pos h_10] at hR
    replace hok := hok.1 h_10
    exact G_vret hX dX0_setCell_28 hR.symm
  · rw [if_neg h_10] at hR
    replace hok := hok.2 h_10
    refine G_iload hX dX0_setCell_13 rfl rfl ?_
    refine G_bipush (v := (58 : Int32)) hX dX0_setCell_15 (by decide) rfl ?_
    refine G_icmp_ge (tg := 28) hX dX0_setCell_17 (by decide) rfl (fun (h_17 : (58 : Int32) ≤ ((a1 * (7 : Int32)) + a2)) => ?_) (fun (h_17 : ¬ ((58 : Int32) ≤ ((a1 * (7 : Int32)) + a2))) => ?_)
    · rw [if_pos h_17] at hR
      replace hok := hok.1 h_17
      exact G_vret hX dX0_setCell_28 hR.symm
    · rw [if_neg h_17] at hR
      replace hok := hok.2 h_17
      refine G_aload_n hX dX0_setCell_20 rfl rfl ?_
      refine G_getr hX dX0_setCell_21 (gt_RX0_9 hb) rfl ?_
      refine G_iload hX dX0_setCell_24 rfl rfl ?_
      refine G_iload_n hX dX0_setCell_26 rfl rfl ?_
      obtain ⟨hi_27, hok⟩ := hok
      refine G_ist hX dX0_setCell_27 (nr_il_ho hb) (by decide) hi_27 rfl ?_
      exact G_vret hX dX0_setCell_28 hR.symm
def T_X0_change (b : Nat) (a1 : Int32) (a2 : Int32) (a3 : Int32) (z : Nat → Int32) (g : Nat → Nat → Int32) : Int32 × nr_S := (nr_K (T_X0_setCell b a1 a2 a3 z g) (fun r_4 z_4 g_4 => (if a2 = (3 : Int32) then (nr_K (T_X0_setCell b a1 (4 : Int32) (0 : Int32) z_4 g_4) (fun r_16 z_16 g_16 => (0, z_16, g_16))) else (0, z_4, g_4))))
def O_X0_change (b : Nat) (a1 : Int32) (a2 : Int32) (a3 : Int32) (z : Nat → Int32) (g : Nat → Nat → Int32) : Prop := ((O_X0_setCell b a1 a2 a3 z g ∧ nr_KP (T_X0_setCell b a1 a2 a3 z g) (fun r_4 z_4 g_4 => ((a2 = (3 : Int32) → ((O_X0_setCell b a1 (4 : Int32) (0 : Int32) z_4 g_4 ∧ True))) ∧ (¬ (a2 = (3 : Int32)) → True)))))
set_option maxHeartbeats 4000000 in
set_option maxRecDepth 100000 in
theorem sp_X0_change (Γ : nr_M) (ρ : Nat → Nat) (d : Nat) (b : Nat) (a1 : Int32) (a2 : Int32) (a3 : Int32) (hb : nr_ho b) (z : Nat → Int32) (g : Nat → Nat → Int32) (hok : O_X0_change b a1 a2 a3 z g) : nr_Sv Γ ρ (d + 1) yX0_change cX0_change 4 none [.ref (ρ b), .int a1, .int a2, .int a3] z g (fun u => (T_X0_change b a1 a2 a3 z g) = (0, u)) := by
  refine nr_body_v (lv := [(0, .ref (ρ b)), (1, .int a1), (2, .int a2), (3, .int a3)]) (by decide +kernel) (Nat.le_of_ble_eq_true rfl) rfl (fun X hX => ?_)
  generalize hR : (T_X0_change b a1 a2 a3 z g) = R0
  rw [T_X0_change] at hR
  rw [O_X0_change] at hok
  refine G_aload_n hX dX0_change_0 rfl rfl ?_
  refine G_iload_n hX dX0_change_1 rfl rfl ?_
  refine G_iload_n hX dX0_change_2 rfl rfl ?_
  refine G_iload_n hX dX0_change_3 rfl rfl ?_
  obtain ⟨ho_4, hok⟩ := hok
  refine G_cVv hX dX0_change_4 lv_RX0_15 (sp_X0_setCell Γ ρ d b a1 a2 a3 hb z g ho_4) (by omega) (nr_is_ho hb) rfl rfl (Nat.le_of_ble_eq_true rfl) rfl (fun u_4 e_4 => ?_)
  obtain ⟨z_4, g_4⟩ := u_4
  rw [e_4, nr_K_mk] at hR
  rw [e_4, nr_KP_mk] at hok
  refine G_iload_n hX dX0_change_7 rfl rfl ?_
  refine G_iconst (v := (3 : Int32)) hX dX0_change_8 (by decide) rfl ?_
  refine G_icmp_ne (tg := 19) hX dX0_change_9 (by decide) rfl (fun (h_9 : ¬ (a2 = (3 : Int32))) => ?_) (fun (h_9 : a2 = (3 : Int32)) => ?_)
  · rw [if_neg h_9] at hR
    replace hok := hok.2 h_9
    exact G_vret hX dX0_change_19 hR.symm
  · rw [if_pos h_9] at hR
    replace hok := hok.1 h_9
    refine G_aload_n hX dX0_change_12 rfl rfl ?_
    refine G_iload_n hX dX0_change_13 rfl rfl ?_
    refine G_iconst (v := (4 : Int32)) hX dX0_change_14 (by decide) rfl ?_
    refine G_iconst (v := (0 : Int32)) hX dX0_change_15 (by decide) rfl ?_
    obtain ⟨ho_16, hok⟩ := hok
    refine G_cVv hX dX0_change_16 lv_RX0_15 (sp_X0_setCell Γ ρ d b a1 (4 : Int32) (0 : Int32) hb z_4 g_4 ho_16) (by omega) (nr_is_ho hb) rfl rfl (Nat.le_of_ble_eq_true rfl) rfl (fun u_16 e_16 => ?_)
    obtain ⟨z_16, g_16⟩ := u_16
    rw [e_16, nr_K_mk] at hR
    exact G_vret hX dX0_change_19 hR.symm
def T_X1_keep_37   (z : Nat → Int32) (g : Nat → Nat → Int32) : Int32 × nr_S := (0, (va_up z 3 ((z 3) + (1 : Int32))), (nr_cp g 2 6 (0 : Int32) ((z 3) * (58 : Int32)) (58 : Int32)))
def O_X1_keep_37   (z : Nat → Int32) (g : Nat → Nat → Int32) : Prop := (¬ ((z 3) * (58 : Int32)) < 0 ∧ ((((z 3) * (58 : Int32))).toNatClampNeg + ((58 : Int32)).toNatClampNeg ≤ 464 ∧ True))
set_option maxHeartbeats 4000000 in
set_option maxRecDepth 100000 in
theorem sp_X1_keep_37 (Γ : nr_M) (ρ : Nat → Nat) (d : Nat) (X : nr_CX) (hX : nr_Cx Γ ρ X yX1_keep cX1_keep 2 none (d + 1))  (z : Nat → Int32) (g : Nat → Nat → Int32) (R0 : Int32 × nr_S) (hR : T_X1_keep_37  z g = R0) (hok : O_X1_keep_37  z g) : nr_G Γ ρ X 2 (nr_Qv Γ ρ X (fun u => R0 = (0, u))) 37 [(0, .ref (ρ 5)), (1, .ref (ρ 1))] [] z g := by
  rw [T_X1_keep_37] at hR
  rw [O_X1_keep_37] at hok
  refine G_aload_n hX dX1_keep_37 rfl rfl ?_
  refine G_getr hX dX1_keep_38 gt_RX1_25 rfl ?_
  refine G_iconst (v := (0 : Int32)) hX dX1_keep_41 (by decide) rfl ?_
  refine G_aload_n hX dX1_keep_42 rfl rfl ?_
  refine G_getr hX dX1_keep_43 gt_RX1_9 rfl ?_
  refine G_aload_n hX dX1_keep_46 rfl rfl ?_
  refine G_geti hX dX1_keep_47 gt_RX1_15 rfl ?_
  refine G_bipush (v := (58 : Int32)) hX dX1_keep_50 (by decide) rfl ?_
  refine G_imul hX dX1_keep_52 rfl ?_
  refine G_bipush (v := (58 : Int32)) hX dX1_keep_53 (by decide) rfl ?_
  obtain ⟨c2_55, hok⟩ := hok
  obtain ⟨c5_55, hok⟩ := hok
  refine G_cpy hX dX1_keep_55 wm_RX1_19 (by omega) (Nat.le_of_ble_eq_true rfl) (rfl : nr_il 2 = 58) (by decide) (rfl : nr_il 6 = 464) (by decide) (by decide) c2_55 (by decide) (by decide) c5_55 rfl ?_
  refine G_aload_n hX dX1_keep_58 rfl rfl ?_
  refine G_dup hX dX1_keep_59 rfl rfl ?_
  refine G_geti hX dX1_keep_60 gt_RX1_15 rfl ?_
  refine G_iconst (v := (1 : Int32)) hX dX1_keep_63 (by decide) rfl ?_
  refine G_iadd hX dX1_keep_64 rfl ?_
  refine G_put hX dX1_keep_65 pt_RX1_15 rfl rfl rfl ?_
  exact G_vret hX dX1_keep_68 hR.symm
def T_X1_keep  (z : Nat → Int32) (g : Nat → Nat → Int32) : Int32 × nr_S := (if (z 3) < (8 : Int32) then (T_X1_keep_37  z g) else (T_X1_keep_37  (va_up z 3 (7 : Int32)) (nr_cp g 6 6 (58 : Int32) (0 : Int32) ((464 : Int32) - (58 : Int32)))))
def O_X1_keep  (z : Nat → Int32) (g : Nat → Nat → Int32) : Prop := (((z 3) < (8 : Int32) → (O_X1_keep_37  z g)) ∧ (¬ ((z 3) < (8 : Int32)) → (¬ ((464 : Int32) - (58 : Int32)) < 0 ∧ (((58 : Int32)).toNatClampNeg + (((464 : Int32) - (58 : Int32))).toNatClampNeg ≤ 464 ∧ (((0 : Int32)).toNatClampNeg + (((464 : Int32) - (58 : Int32))).toNatClampNeg ≤ 464 ∧ (O_X1_keep_37  (va_up z 3 (7 : Int32)) (nr_cp g 6 6 (58 : Int32) (0 : Int32) ((464 : Int32) - (58 : Int32)))))))))
set_option maxHeartbeats 4000000 in
set_option maxRecDepth 100000 in
theorem sp_X1_keep (Γ : nr_M) (ρ : Nat → Nat) (d : Nat) (z : Nat → Int32) (g : Nat → Nat → Int32) (hok : O_X1_keep z g) : nr_Sv Γ ρ (d + 1) yX1_keep cX1_keep 2 none [.ref (ρ 5), .ref (ρ 1)] z g (fun u => (T_X1_keep z g) = (0, u)) := by
  refine nr_body_v (lv := [(0, .ref (ρ 5)), (1, .ref (ρ 1))]) (by decide +kernel) (Nat.le_of_ble_eq_true rfl) rfl (fun X hX => ?_)
  generalize hR : (T_X1_keep z g) = R0
  rw [T_X1_keep] at hR
  rw [O_X1_keep] at hok
  refine G_aload_n hX dX1_keep_0 rfl rfl ?_
  refine G_geti hX dX1_keep_1 gt_RX1_15 rfl ?_
  refine G_bipush (v := (8 : Int32)) hX dX1_keep_4 (by decide) rfl ?_
  refine G_icmp_lt (tg := 37) hX dX1_keep_6 (by decide) rfl (fun (h_6 : (z 3) < (8 : Int32)) => ?_) (fun (h_6 : ¬ ((z 3) < (8 : Int32))) => ?_)
  · rw [if_pos h_6] at hR
    replace hok := hok.1 h_6
    exact nr_sub (by exact ⟨rfl, rfl, trivial⟩) (sp_X1_keep_37 Γ ρ d X hX z g R0 hR hok)
  · rw [if_neg h_6] at hR
    replace hok := hok.2 h_6
    refine G_aload_n hX dX1_keep_9 rfl rfl ?_
    refine G_getr hX dX1_keep_10 gt_RX1_9 rfl ?_
    refine G_bipush (v := (58 : Int32)) hX dX1_keep_13 (by decide) rfl ?_
    refine G_aload_n hX dX1_keep_15 rfl rfl ?_
    refine G_getr hX dX1_keep_16 gt_RX1_9 rfl ?_
    refine G_iconst (v := (0 : Int32)) hX dX1_keep_19 (by decide) rfl ?_
    refine G_aload_n hX dX1_keep_20 rfl rfl ?_
    refine G_getr hX dX1_keep_21 gt_RX1_9 rfl ?_
    refine G_alen (N := 464) (v := (464 : Int32)) hX dX1_keep_24 rfl (by decide) (by decide) rfl ?_
    refine G_bipush (v := (58 : Int32)) hX dX1_keep_25 (by decide) rfl ?_
    refine G_isub hX dX1_keep_27 rfl ?_
    obtain ⟨c3_28, hok⟩ := hok
    obtain ⟨c4_28, hok⟩ := hok
    obtain ⟨c5_28, hok⟩ := hok
    refine G_cpy hX dX1_keep_28 wm_RX1_19 (by omega) (Nat.le_of_ble_eq_true rfl) (rfl : nr_il 6 = 464) (by decide) (rfl : nr_il 6 = 464) (by decide) (by decide) (by decide) c3_28 c4_28 c5_28 rfl ?_
    refine G_aload_n hX dX1_keep_31 rfl rfl ?_
    refine G_bipush (v := (7 : Int32)) hX dX1_keep_32 (by decide) rfl ?_
    refine G_put hX dX1_keep_34 pt_RX1_15 rfl rfl rfl ?_
    exact nr_sub (by exact ⟨rfl, rfl, trivial⟩) (sp_X1_keep_37 Γ ρ d X hX (va_up z 3 (7 : Int32)) (nr_cp g 6 6 (58 : Int32) (0 : Int32) ((464 : Int32) - (58 : Int32))) R0 hR hok)
def R_X5_at (k0 : Nat) (a1 : Int32) (z : Nat → Int32) (g : Nat → Nat → Int32) : Int32 := (if a1 < 0 then (0 : Int32) else (if (Int32.ofNat (nr_rl k0)) ≤ a1 then (0 : Int32) else (nr_rd g k0 (a1).toNatClampNeg)))
def O_X5_at (k0 : Nat) (a1 : Int32) (z : Nat → Int32) (g : Nat → Nat → Int32) : Prop := ((a1 < 0 → True) ∧ (¬ (a1 < 0) → (0 < nr_rl k0 ∧ (((Int32.ofNat (nr_rl k0)) ≤ a1 → True) ∧ (¬ ((Int32.ofNat (nr_rl k0)) ≤ a1) → (0 < (nr_rl k0) ∧ (vp_in a1 (nr_rl k0) ∧ True)))))))
set_option maxHeartbeats 4000000 in
set_option maxRecDepth 100000 in
theorem sp_X5_at (Γ : nr_M) (ρ : Nat → Nat) (d : Nat) (k0 : Nat) (a1 : Int32) (z : Nat → Int32) (g : Nat → Nat → Int32) (hok : O_X5_at k0 a1 z g) : nr_Si Γ ρ (d + 0) yX5_at cX5_at 2 (some .int) [.ref (ρ k0), .int a1] z g (fun x u => x = (R_X5_at k0 a1 z g) ∧ u = (z, g)) := by
  refine nr_body_i (lv := [(0, .ref (ρ k0)), (1, .int a1)]) (by decide +kernel) (Nat.le_of_ble_eq_true rfl) rfl (fun X hX => ?_)
  generalize hR : (R_X5_at k0 a1 z g) = R0
  rw [R_X5_at] at hR
  rw [O_X5_at] at hok
  refine G_iload_n hX dX5_at_0 rfl rfl ?_
  refine G_if_lt (tg := 16) hX dX5_at_1 (by decide) rfl (fun (h_1 : a1 < 0) => ?_) (fun (h_1 : ¬ (a1 < 0)) => ?_)
  · rw [if_pos h_1] at hR
    replace hok := hok.1 h_1
    refine G_iconst (v := (0 : Int32)) hX dX5_at_16 (by decide) rfl ?_
    exact G_iret hX rfl dX5_at_17 rfl ⟨hR, rfl⟩
  · rw [if_neg h_1] at hR
    replace hok := hok.2 h_1
    refine G_iload_n hX dX5_at_4 rfl rfl ?_
    refine G_aload_n hX dX5_at_5 rfl rfl ?_
    obtain ⟨hz_6, hok⟩ := hok
    refine G_rlen hX dX5_at_6 hz_6 rfl ?_
    refine G_icmp_ge (tg := 16) hX dX5_at_7 (by decide) rfl (fun (h_7 : (Int32.ofNat (nr_rl k0)) ≤ a1) => ?_) (fun (h_7 : ¬ ((Int32.ofNat (nr_rl k0)) ≤ a1)) => ?_)
    · rw [if_pos h_7] at hR
      replace hok := hok.1 h_7
      refine G_iconst (v := (0 : Int32)) hX dX5_at_16 (by decide) rfl ?_
      exact G_iret hX rfl dX5_at_17 rfl ⟨hR, rfl⟩
    · rw [if_neg h_7] at hR
      replace hok := hok.2 h_7
      refine G_aload_n hX dX5_at_10 rfl rfl ?_
      refine G_iload_n hX dX5_at_11 rfl rfl ?_
      obtain ⟨hz_12, hok⟩ := hok
      obtain ⟨hi_12, hok⟩ := hok
      refine G_rald hX dX5_at_12 hz_12 hi_12 rfl ?_
      refine G_goto (tg := 17) hX dX5_at_13 (by decide) ?_
      exact G_iret hX rfl dX5_at_17 rfl ⟨hR, rfl⟩
def R_X5_within (a0 : Int32) (a1 : Int32) (a2 : Int32) : Int32 := (if a0 < a1 then (0 : Int32) else (if a2 < a0 then (0 : Int32) else (1 : Int32)))
set_option maxHeartbeats 4000000 in
set_option maxRecDepth 100000 in
theorem sp_X5_within (Γ : nr_M) (ρ : Nat → Nat) (d : Nat) (a0 : Int32) (a1 : Int32) (a2 : Int32) (z : Nat → Int32) (g : Nat → Nat → Int32) : nr_Si Γ ρ (d + 0) yX5_within cX5_within 3 (some .boolean) [.int a0, .int a1, .int a2] z g (fun x u => x = (R_X5_within a0 a1 a2) ∧ u = (z, g)) := by
  refine nr_body_i (lv := [(0, .int a0), (1, .int a1), (2, .int a2)]) (by decide +kernel) (Nat.le_of_ble_eq_true rfl) rfl (fun X hX => ?_)
  generalize hR : (R_X5_within a0 a1 a2) = R0
  rw [R_X5_within] at hR
  refine G_iload_n hX dX5_within_0 rfl rfl ?_
  refine G_iload_n hX dX5_within_1 rfl rfl ?_
  refine G_icmp_lt (tg := 14) hX dX5_within_2 (by decide) rfl (fun (h_2 : a0 < a1) => ?_) (fun (h_2 : ¬ (a0 < a1)) => ?_)
  · rw [if_pos h_2] at hR
    refine G_iconst (v := (0 : Int32)) hX dX5_within_14 (by decide) rfl ?_
    exact G_iret hX rfl dX5_within_15 rfl ⟨hR, rfl⟩
  · rw [if_neg h_2] at hR
    refine G_iload_n hX dX5_within_5 rfl rfl ?_
    refine G_iload_n hX dX5_within_6 rfl rfl ?_
    refine G_icmp_gt (tg := 14) hX dX5_within_7 (by decide) rfl (fun (h_7 : a2 < a0) => ?_) (fun (h_7 : ¬ (a2 < a0)) => ?_)
    · rw [if_pos h_7] at hR
      refine G_iconst (v := (0 : Int32)) hX dX5_within_14 (by decide) rfl ?_
      exact G_iret hX rfl dX5_within_15 rfl ⟨hR, rfl⟩
    · rw [if_neg h_7] at hR
      refine G_iconst (v := (1 : Int32)) hX dX5_within_10 (by decide) rfl ?_
      refine G_goto (tg := 15) hX dX5_within_11 (by decide) ?_
      exact G_iret hX rfl dX5_within_15 rfl ⟨hR, rfl⟩
theorem nb_X5_within (a0 : Int32) (a1 : Int32) (a2 : Int32) : narrow .boolean (.int (R_X5_within a0 a1 a2)) = .int (R_X5_within a0 a1 a2) := by
  unfold R_X5_within; repeat' split
  all_goals first | rfl | exact nb_X5_within _ _ _ | exact nb_X6_in _ _ _ | exact nb_X3_isRoomSign _ | exact nb_X3_holdsActs _
def R_X5_isRoom (a0 : Int32) : Int32 := (R_X5_within a0 (0 : Int32) (7 : Int32))
set_option maxHeartbeats 4000000 in
set_option maxRecDepth 100000 in
theorem sp_X5_isRoom (Γ : nr_M) (ρ : Nat → Nat) (d : Nat) (a0 : Int32) (z : Nat → Int32) (g : Nat → Nat → Int32) : nr_Si Γ ρ (d + 1) yX5_isRoom cX5_isRoom 1 (some .boolean) [.int a0] z g (fun x u => x = (R_X5_isRoom a0) ∧ u = (z, g)) := by
  refine nr_body_i (lv := [(0, .int a0)]) (by decide +kernel) (Nat.le_of_ble_eq_true rfl) rfl (fun X hX => ?_)
  generalize hR : (R_X5_isRoom a0) = R0
  rw [R_X5_isRoom] at hR
  refine G_iload_n hX dX5_isRoom_0 rfl rfl ?_
  refine G_iconst (v := (0 : Int32)) hX dX5_isRoom_1 (by decide) rfl ?_
  refine G_bipush (v := (7 : Int32)) hX dX5_isRoom_2 (by decide) rfl ?_
  refine G_fSi hX dX5_isRoom_4 ls_RX5_56 (sp_X5_within Γ ρ d a0 (0 : Int32) (7 : Int32) z g) (by omega) rfl rfl (Nat.le_of_ble_eq_true rfl) rfl ?_
  exact G_iret hX rfl dX5_isRoom_7 (nb_X5_within a0 (0 : Int32) (7 : Int32)) ⟨hR, rfl⟩
theorem nb_X5_isRoom (a0 : Int32) : narrow .boolean (.int (R_X5_isRoom a0)) = .int (R_X5_isRoom a0) := by
  unfold R_X5_isRoom; exact nb_X5_within _ _ _
def T_X5_refuse (a1 : Int32) (z : Nat → Int32) (g : Nat → Nat → Int32) : Int32 × nr_S := (if a1 = (-2 : Int32) then (a1, (va_up z 0 ((z 0) + (1 : Int32))), g) else (if a1 = (-3 : Int32) then (a1, (va_up z 1 ((z 1) + (1 : Int32))), g) else (a1, (va_up z 2 ((z 2) + (1 : Int32))), g)))
set_option maxHeartbeats 4000000 in
set_option maxRecDepth 100000 in
theorem sp_X5_refuse (Γ : nr_M) (ρ : Nat → Nat) (d : Nat) (a1 : Int32) (z : Nat → Int32) (g : Nat → Nat → Int32) : nr_Si Γ ρ (d + 0) yX5_refuse cX5_refuse 2 (some .int) [.ref (ρ 0), .int a1] z g (fun x u => (T_X5_refuse a1 z g) = (x, u)) := by
  refine nr_body_i (lv := [(0, .ref (ρ 0)), (1, .int a1)]) (by decide +kernel) (Nat.le_of_ble_eq_true rfl) rfl (fun X hX => ?_)
  generalize hR : (T_X5_refuse a1 z g) = R0
  rw [T_X5_refuse] at hR
  refine G_iload_n hX dX5_refuse_0 rfl rfl ?_
  refine G_bipush (v := (-2 : Int32)) hX dX5_refuse_1 (by decide) rfl ?_
  refine G_icmp_ne (tg := 19) hX dX5_refuse_3 (by decide) rfl (fun (h_3 : ¬ (a1 = (-2 : Int32))) => ?_) (fun (h_3 : a1 = (-2 : Int32)) => ?_)
  · rw [if_neg h_3] at hR
    refine G_iload_n hX dX5_refuse_19 rfl rfl ?_
    refine G_bipush (v := (-3 : Int32)) hX dX5_refuse_20 (by decide) rfl ?_
    refine G_icmp_ne (tg := 38) hX dX5_refuse_22 (by decide) rfl (fun (h_22 : ¬ (a1 = (-3 : Int32))) => ?_) (fun (h_22 : a1 = (-3 : Int32)) => ?_)
    · rw [if_neg h_22] at hR
      refine G_aload_n hX dX5_refuse_38 rfl rfl ?_
      refine G_dup hX dX5_refuse_39 rfl rfl ?_
      refine G_geti hX dX5_refuse_40 gt_RX5_175 rfl ?_
      refine G_iconst (v := (1 : Int32)) hX dX5_refuse_43 (by decide) rfl ?_
      refine G_iadd hX dX5_refuse_44 rfl ?_
      refine G_put hX dX5_refuse_45 pt_RX5_175 rfl rfl rfl ?_
      refine G_iload_n hX dX5_refuse_48 rfl rfl ?_
      exact G_iret hX rfl dX5_refuse_49 rfl hR.symm
    · rw [if_pos h_22] at hR
      refine G_aload_n hX dX5_refuse_25 rfl rfl ?_
      refine G_dup hX dX5_refuse_26 rfl rfl ?_
      refine G_geti hX dX5_refuse_27 gt_RX5_172 rfl ?_
      refine G_iconst (v := (1 : Int32)) hX dX5_refuse_30 (by decide) rfl ?_
      refine G_iadd hX dX5_refuse_31 rfl ?_
      refine G_put hX dX5_refuse_32 pt_RX5_172 rfl rfl rfl ?_
      refine G_goto (tg := 48) hX dX5_refuse_35 (by decide) ?_
      refine G_iload_n hX dX5_refuse_48 rfl rfl ?_
      exact G_iret hX rfl dX5_refuse_49 rfl hR.symm
  · rw [if_pos h_3] at hR
    refine G_aload_n hX dX5_refuse_6 rfl rfl ?_
    refine G_dup hX dX5_refuse_7 rfl rfl ?_
    refine G_geti hX dX5_refuse_8 gt_RX5_168 rfl ?_
    refine G_iconst (v := (1 : Int32)) hX dX5_refuse_11 (by decide) rfl ?_
    refine G_iadd hX dX5_refuse_12 rfl ?_
    refine G_put hX dX5_refuse_13 pt_RX5_168 rfl rfl rfl ?_
    refine G_goto (tg := 48) hX dX5_refuse_16 (by decide) ?_
    refine G_iload_n hX dX5_refuse_48 rfl rfl ?_
    exact G_iret hX rfl dX5_refuse_49 rfl hR.symm
def R_X0_swollen (a0 : Int32) : Int32 := ((2 : Int32) + (nr_rem a0 (3 : Int32)))
set_option maxHeartbeats 4000000 in
set_option maxRecDepth 100000 in
theorem sp_X0_swollen (Γ : nr_M) (ρ : Nat → Nat) (d : Nat) (a0 : Int32) (z : Nat → Int32) (g : Nat → Nat → Int32) : nr_Si Γ ρ (d + 0) yX0_swollen cX0_swollen 1 (some .int) [.int a0] z g (fun x u => x = (R_X0_swollen a0) ∧ u = (z, g)) := by
  refine nr_body_i (lv := [(0, .int a0)]) (by decide +kernel) (Nat.le_of_ble_eq_true rfl) rfl (fun X hX => ?_)
  generalize hR : (R_X0_swollen a0) = R0
  rw [R_X0_swollen] at hR
  refine G_iconst (v := (2 : Int32)) hX dX0_swollen_0 (by decide) rfl ?_
  refine G_iload_n hX dX0_swollen_1 rfl rfl ?_
  refine G_iconst (v := (3 : Int32)) hX dX0_swollen_2 (by decide) rfl ?_
  refine G_irem hX dX0_swollen_3 (by decide) rfl ?_
  refine G_iadd hX dX0_swollen_4 rfl ?_
  exact G_iret hX rfl dX0_swollen_5 rfl ⟨hR, rfl⟩
def R_X0_loudness (b : Nat) (a1 : Int32) (z : Nat → Int32) (g : Nat → Nat → Int32) : Int32 := (if (R_X0_cell b a1 (0 : Int32) z g) = (1 : Int32) then (2 : Int32) else (if (R_X0_cell b a1 (0 : Int32) z g) = (2 : Int32) then (R_X0_swollen (R_X0_cell b a1 (6 : Int32) z g)) else (if (R_X0_cell b a1 (0 : Int32) z g) = (3 : Int32) then (if (R_X0_cell b a1 (6 : Int32) z g) ≤ (2 : Int32) then (2 : Int32) else (0 : Int32)) else (if (R_X0_cell b a1 (0 : Int32) z g) = (4 : Int32) then ((2 : Int32) * (R_X0_swollen (R_X0_cell b a1 (6 : Int32) z g))) else (0 : Int32)))))
def O_X0_loudness (b : Nat) (a1 : Int32) (z : Nat → Int32) (g : Nat → Nat → Int32) : Prop := (O_X0_cell b a1 (6 : Int32) z g ∧ (O_X0_cell b a1 (0 : Int32) z g ∧ True))
set_option maxHeartbeats 4000000 in
set_option maxRecDepth 100000 in
theorem sp_X0_loudness (Γ : nr_M) (ρ : Nat → Nat) (d : Nat) (b : Nat) (a1 : Int32) (hb : nr_ho b) (z : Nat → Int32) (g : Nat → Nat → Int32) (hok : O_X0_loudness b a1 z g) : nr_Si Γ ρ (d + 1) yX0_loudness cX0_loudness 3 (some .int) [.ref (ρ b), .int a1] z g (fun x u => x = (R_X0_loudness b a1 z g) ∧ u = (z, g)) := by
  refine nr_body_i (lv := [(0, .ref (ρ b)), (1, .int a1)]) (by decide +kernel) (Nat.le_of_ble_eq_true rfl) rfl (fun X hX => ?_)
  generalize hR : (R_X0_loudness b a1 z g) = R0
  rw [R_X0_loudness] at hR
  rw [O_X0_loudness] at hok
  refine G_aload_n hX dX0_loudness_0 rfl rfl ?_
  refine G_iload_n hX dX0_loudness_1 rfl rfl ?_
  refine G_bipush (v := (6 : Int32)) hX dX0_loudness_2 (by decide) rfl ?_
  obtain ⟨ho_4, hok⟩ := hok
  refine G_fVi hX dX0_loudness_4 lv_RX0_19 (sp_X0_cell Γ ρ d b a1 (6 : Int32) hb z g ho_4) (by omega) (nr_is_ho hb) rfl rfl (Nat.le_of_ble_eq_true rfl) rfl ?_
  refine G_istore_n hX dX0_loudness_7 (by decide) rfl rfl ?_
  refine G_aload_n hX dX0_loudness_8 rfl rfl ?_
  refine G_iload_n hX dX0_loudness_9 rfl rfl ?_
  refine G_iconst (v := (0 : Int32)) hX dX0_loudness_10 (by decide) rfl ?_
  obtain ⟨ho_11, hok⟩ := hok
  refine G_fVi hX dX0_loudness_11 lv_RX0_19 (sp_X0_cell Γ ρ d b a1 (0 : Int32) hb z g ho_11) (by omega) (nr_is_ho hb) rfl rfl (Nat.le_of_ble_eq_true rfl) rfl ?_
  by_cases h_14_1 : (R_X0_cell b a1 (0 : Int32) z g) = (1 : Int32)
  · rw [if_pos h_14_1] at hR
    refine G_tabIn (off := 30) (tg := 44) hX dX0_loudness_14 (by rw [h_14_1]; decide) (by rw [h_14_1]; decide) (by rw [h_14_1]; decide) (by decide) ?_
    refine G_iconst (v := (2 : Int32)) hX dX0_loudness_44 (by decide) rfl ?_
    exact G_iret hX rfl dX0_loudness_45 rfl ⟨hR, rfl⟩
  · rw [if_neg h_14_1] at hR
    by_cases h_14_2 : (R_X0_cell b a1 (0 : Int32) z g) = (2 : Int32)
    · rw [if_pos h_14_2] at hR
      refine G_tabIn (off := 32) (tg := 46) hX dX0_loudness_14 (by rw [h_14_2]; decide) (by rw [h_14_2]; decide) (by rw [h_14_2]; decide) (by decide) ?_
      refine G_iload_n hX dX0_loudness_46 rfl rfl ?_
      refine G_fSi hX dX0_loudness_47 ls_RX0_23 (sp_X0_swollen Γ ρ d (R_X0_cell b a1 (6 : Int32) z g) z g) (by omega) rfl rfl (Nat.le_of_ble_eq_true rfl) rfl ?_
      exact G_iret hX rfl dX0_loudness_50 rfl ⟨hR, rfl⟩
    · rw [if_neg h_14_2] at hR
      by_cases h_14_3 : (R_X0_cell b a1 (0 : Int32) z g) = (3 : Int32)
      · rw [if_pos h_14_3] at hR
        refine G_tabIn (off := 37) (tg := 51) hX dX0_loudness_14 (by rw [h_14_3]; decide) (by rw [h_14_3]; decide) (by rw [h_14_3]; decide) (by decide) ?_
        refine G_iload_n hX dX0_loudness_51 rfl rfl ?_
        refine G_iconst (v := (2 : Int32)) hX dX0_loudness_52 (by decide) rfl ?_
        refine G_icmp_le (tg := 60) hX dX0_loudness_53 (by decide) rfl (fun (h_53 : (R_X0_cell b a1 (6 : Int32) z g) ≤ (2 : Int32)) => ?_) (fun (h_53 : ¬ ((R_X0_cell b a1 (6 : Int32) z g) ≤ (2 : Int32))) => ?_)
        · rw [if_pos h_53] at hR
          refine G_iconst (v := (2 : Int32)) hX dX0_loudness_60 (by decide) rfl ?_
          exact G_iret hX rfl dX0_loudness_61 rfl ⟨hR, rfl⟩
        · rw [if_neg h_53] at hR
          refine G_iconst (v := (0 : Int32)) hX dX0_loudness_56 (by decide) rfl ?_
          refine G_goto (tg := 61) hX dX0_loudness_57 (by decide) ?_
          exact G_iret hX rfl dX0_loudness_61 rfl ⟨hR, rfl⟩
      · rw [if_neg h_14_3] at hR
        by_cases h_14_4 : (R_X0_cell b a1 (0 : Int32) z g) = (4 : Int32)
        · rw [if_pos h_14_4] at hR
          refine G_tabIn (off := 48) (tg := 62) hX dX0_loudness_14 (by rw [h_14_4]; decide) (by rw [h_14_4]; decide) (by rw [h_14_4]; decide) (by decide) ?_
          refine G_iconst (v := (2 : Int32)) hX dX0_loudness_62 (by decide) rfl ?_
          refine G_iload_n hX dX0_loudness_63 rfl rfl ?_
          refine G_fSi hX dX0_loudness_64 ls_RX0_23 (sp_X0_swollen Γ ρ d (R_X0_cell b a1 (6 : Int32) z g) z g) (by omega) rfl rfl (Nat.le_of_ble_eq_true rfl) rfl ?_
          refine G_imul hX dX0_loudness_67 rfl ?_
          exact G_iret hX rfl dX0_loudness_68 rfl ⟨hR, rfl⟩
        · rw [if_neg h_14_4] at hR
          refine G_tabOut (tg := 69) hX dX0_loudness_14 (by have q0 := lv_neT (a := 1) h_14_1 (by decide); have q1 := lv_neT (a := 2) h_14_2 (by decide); have q2 := lv_neT (a := 3) h_14_3 (by decide); have q3 := lv_neT (a := 4) h_14_4 (by decide); omega) (by decide) ?_
          refine G_iconst (v := (0 : Int32)) hX dX0_loudness_69 (by decide) rfl ?_
          exact G_iret hX rfl dX0_loudness_70 rfl ⟨hR, rfl⟩
def T_X0_giveKeys (b : Nat) (a1 : Int32) (z : Nat → Int32) (g : Nat → Nat → Int32) : Int32 × nr_S := (0, z, (nr_st g (b + 1) (56 : Int32) a1))
set_option maxHeartbeats 4000000 in
set_option maxRecDepth 100000 in
theorem sp_X0_giveKeys (Γ : nr_M) (ρ : Nat → Nat) (d : Nat) (b : Nat) (a1 : Int32) (hb : nr_ho b) (z : Nat → Int32) (g : Nat → Nat → Int32) : nr_Sv Γ ρ (d + 0) yX0_giveKeys cX0_giveKeys 2 none [.ref (ρ b), .int a1] z g (fun u => (T_X0_giveKeys b a1 z g) = (0, u)) := by
  refine nr_body_v (lv := [(0, .ref (ρ b)), (1, .int a1)]) (by decide +kernel) (Nat.le_of_ble_eq_true rfl) rfl (fun X hX => ?_)
  generalize hR : (T_X0_giveKeys b a1 z g) = R0
  rw [T_X0_giveKeys] at hR
  refine G_aload_n hX dX0_giveKeys_0 rfl rfl ?_
  refine G_getr hX dX0_giveKeys_1 (gt_RX0_9 hb) rfl ?_
  refine G_bipush (v := (56 : Int32)) hX dX0_giveKeys_4 (by decide) rfl ?_
  refine G_iload_n hX dX0_giveKeys_6 rfl rfl ?_
  refine G_ist hX dX0_giveKeys_7 (nr_il_ho hb) (by decide) (by unfold vp_in; decide) rfl ?_
  exact G_vret hX dX0_giveKeys_8 hR.symm
def R_X0_keyring (b : Nat) (z : Nat → Int32) (g : Nat → Nat → Int32) : Int32 := (g (b + 1) ((56 : Int32)).toNatClampNeg)
set_option maxHeartbeats 4000000 in
set_option maxRecDepth 100000 in
theorem sp_X0_keyring (Γ : nr_M) (ρ : Nat → Nat) (d : Nat) (b : Nat) (hb : nr_ho b) (z : Nat → Int32) (g : Nat → Nat → Int32) : nr_Si Γ ρ (d + 0) yX0_keyring cX0_keyring 1 (some .int) [.ref (ρ b)] z g (fun x u => x = (R_X0_keyring b z g) ∧ u = (z, g)) := by
  refine nr_body_i (lv := [(0, .ref (ρ b))]) (by decide +kernel) (Nat.le_of_ble_eq_true rfl) rfl (fun X hX => ?_)
  generalize hR : (R_X0_keyring b z g) = R0
  rw [R_X0_keyring] at hR
  refine G_aload_n hX dX0_keyring_0 rfl rfl ?_
  refine G_getr hX dX0_keyring_1 (gt_RX0_9 hb) rfl ?_
  refine G_bipush (v := (56 : Int32)) hX dX0_keyring_4 (by decide) rfl ?_
  refine G_iald hX dX0_keyring_6 (nr_il_ho hb) (by decide) (by unfold vp_in; decide) rfl ?_
  exact G_iret hX rfl dX0_keyring_7 rfl ⟨hR, rfl⟩
def R_X0_roomsWith_4 (b : Nat) : Nat → Int32 → Int32 → Int32 → (Nat → Int32) → (Nat → Nat → Int32) → Int32
  | 0, _, _, _, z, g => 0
  | n + 1, a1, a2, a3, z, g => (if (8 : Int32) ≤ a3 then a2 else (if (R_X0_cell b a3 a1 z g) = 0 then (R_X0_roomsWith_4 b n a1 a2 (a3 + (1 : Int32)) z g) else (R_X0_roomsWith_4 b n a1 (a2 + (1 : Int32)) (a3 + (1 : Int32)) z g)))
def O_X0_roomsWith_4 (b : Nat) : Nat → Int32 → Int32 → Int32 → (Nat → Int32) → (Nat → Nat → Int32) → Prop
  | 0, _, _, _, _, _ => False
  | n + 1, a1, a2, a3, z, g => (((8 : Int32) ≤ a3 → True) ∧ (¬ ((8 : Int32) ≤ a3) → (O_X0_cell b a3 a1 z g ∧ (((R_X0_cell b a3 a1 z g) = 0 → (O_X0_roomsWith_4 b n a1 a2 (a3 + (1 : Int32)) z g)) ∧ (¬ ((R_X0_cell b a3 a1 z g) = 0) → (O_X0_roomsWith_4 b n a1 (a2 + (1 : Int32)) (a3 + (1 : Int32)) z g))))))
set_option maxHeartbeats 4000000 in
set_option maxRecDepth 100000 in
theorem sp_X0_roomsWith_4 (Γ : nr_M) (ρ : Nat → Nat) (d : Nat) (b : Nat) (hb : nr_ho b) (X : nr_CX) (hX : nr_Cx Γ ρ X yX0_roomsWith cX0_roomsWith 4 (some .int) (d + 1)) : ∀ (n : Nat) (a1 : Int32) (a2 : Int32) (a3 : Int32) (z : Nat → Int32) (g : Nat → Nat → Int32) (R0 : Int32) (_ : R_X0_roomsWith_4 b n a1 a2 a3 z g = R0) (_ : O_X0_roomsWith_4 b n a1 a2 a3 z g), nr_G Γ ρ X 4 (nr_Qi Γ ρ X (fun x u => x = R0 ∧ u = (z, g))) 4 [(0, .ref (ρ b)), (1, .int a1), (2, .int a2), (3, .int a3)] [] z g := by
  intro n
  induction n with
  | zero => intro a1 a2 a3 z g R0 hR hok; exact False.elim hok
  | succ n ih =>
    intro a1 a2 a3 z g R0 hR hok
    rw [R_X0_roomsWith_4] at hR
    rw [O_X0_roomsWith_4] at hok
    refine G_iload_n hX dX0_roomsWith_4 rfl rfl ?_
    refine G_bipush (v := (8 : Int32)) hX dX0_roomsWith_5 (by decide) rfl ?_
    refine G_icmp_ge (tg := 28) hX dX0_roomsWith_7 (by decide) rfl (fun (h_7 : (8 : Int32) ≤ a3) => ?_) (fun (h_7 : ¬ ((8 : Int32) ≤ a3)) => ?_)
    · rw [if_pos h_7] at hR
      replace hok := hok.1 h_7
      refine G_iload_n hX dX0_roomsWith_28 rfl rfl ?_
      exact G_iret hX rfl dX0_roomsWith_29 rfl ⟨hR, rfl⟩
    · rw [if_neg h_7] at hR
      replace hok := hok.2 h_7
      refine G_aload_n hX dX0_roomsWith_10 rfl rfl ?_
      refine G_iload_n hX dX0_roomsWith_11 rfl rfl ?_
      refine G_iload_n hX dX0_roomsWith_12 rfl rfl ?_
      obtain ⟨ho_13, hok⟩ := hok
      refine G_fVi hX dX0_roomsWith_13 lv_RX0_19 (sp_X0_cell Γ ρ d b a3 a1 hb z g ho_13) (by omega) (nr_is_ho hb) rfl rfl (Nat.le_of_ble_eq_true rfl) rfl ?_
      refine G_if_eq (tg := 22) hX dX0_roomsWith_16 (by decide) rfl (fun (h_16 : (R_X0_cell b a3 a1 z g) = 0) => ?_) (fun (h_16 : ¬ ((R_X0_cell b a3 a1 z g) = 0)) => ?_)
      · rw [if_pos h_16] at hR
        replace hok := hok.1 h_16
        refine G_iinc (v := (a3 + (1 : Int32))) hX dX0_roomsWith_22 rfl rfl (by decide) rfl rfl ?_
        refine G_goto (tg := 4) hX dX0_roomsWith_25 (by decide) ?_
        exact nr_sub (by exact ⟨rfl, rfl, rfl, rfl, trivial⟩) (ih a1 a2 (a3 + (1 : Int32)) z g R0 hR hok)
      · rw [if_neg h_16] at hR
        replace hok := hok.2 h_16
        refine G_iinc (v := (a2 + (1 : Int32))) hX dX0_roomsWith_19 rfl rfl (by decide) rfl rfl ?_
        refine G_iinc (v := (a3 + (1 : Int32))) hX dX0_roomsWith_22 rfl rfl (by decide) rfl rfl ?_
        refine G_goto (tg := 4) hX dX0_roomsWith_25 (by decide) ?_
        exact nr_sub (by exact ⟨rfl, rfl, rfl, rfl, trivial⟩) (ih a1 (a2 + (1 : Int32)) (a3 + (1 : Int32)) z g R0 hR hok)
def R_X0_roomsWith (b : Nat) (a1 : Int32) (z : Nat → Int32) (g : Nat → Nat → Int32) : Int32 := (R_X0_roomsWith_4 b 500 a1 (0 : Int32) (0 : Int32) z g)
def O_X0_roomsWith (b : Nat) (a1 : Int32) (z : Nat → Int32) (g : Nat → Nat → Int32) : Prop := (O_X0_roomsWith_4 b 500 a1 (0 : Int32) (0 : Int32) z g)
set_option maxHeartbeats 4000000 in
set_option maxRecDepth 100000 in
theorem sp_X0_roomsWith (Γ : nr_M) (ρ : Nat → Nat) (d : Nat) (b : Nat) (a1 : Int32) (hb : nr_ho b) (z : Nat → Int32) (g : Nat → Nat → Int32) (hok : O_X0_roomsWith b a1 z g) : nr_Si Γ ρ (d + 1) yX0_roomsWith cX0_roomsWith 4 (some .int) [.ref (ρ b), .int a1] z g (fun x u => x = (R_X0_roomsWith b a1 z g) ∧ u = (z, g)) := by
  refine nr_body_i (lv := [(0, .ref (ρ b)), (1, .int a1)]) (by decide +kernel) (Nat.le_of_ble_eq_true rfl) rfl (fun X hX => ?_)
  generalize hR : (R_X0_roomsWith b a1 z g) = R0
  rw [R_X0_roomsWith] at hR
  rw [O_X0_roomsWith] at hok
  refine G_iconst (v := (0 : Int32)) hX dX0_roomsWith_0 (by decide) rfl ?_
  refine G_istore_n hX dX0_roomsWith_1 (by decide) rfl rfl ?_
  refine G_iconst (v := (0 : Int32)) hX dX0_roomsWith_2 (by decide) rfl ?_
  refine G_istore_n hX dX0_roomsWith_3 (by decide) rfl rfl ?_
  exact nr_sub (by exact ⟨rfl, rfl, rfl, rfl, trivial⟩) (sp_X0_roomsWith_4 Γ ρ d b hb X hX 500 a1 (0 : Int32) (0 : Int32) z g R0 hR hok)
def T_X0_settle_2 (b : Nat) : Nat → Int32 → (Nat → Int32) → (Nat → Nat → Int32) → Int32 × nr_S
  | 0, _, z, g => (0, z, g)
  | n + 1, a1, z, g => (if (8 : Int32) ≤ a1 then (0, z, g) else (nr_K (T_X0_setCell b a1 (4 : Int32) (0 : Int32) z g) (fun r_12 z_12 g_12 => (nr_K (T_X0_setCell b a1 (5 : Int32) (0 : Int32) z_12 g_12) (fun r_19 z_19 g_19 => (T_X0_settle_2 b n (a1 + (1 : Int32)) z_19 g_19))))))
def O_X0_settle_2 (b : Nat) : Nat → Int32 → (Nat → Int32) → (Nat → Nat → Int32) → Prop
  | 0, _, _, _ => False
  | n + 1, a1, z, g => (((8 : Int32) ≤ a1 → True) ∧ (¬ ((8 : Int32) ≤ a1) → ((O_X0_setCell b a1 (4 : Int32) (0 : Int32) z g ∧ nr_KP (T_X0_setCell b a1 (4 : Int32) (0 : Int32) z g) (fun r_12 z_12 g_12 => ((O_X0_setCell b a1 (5 : Int32) (0 : Int32) z_12 g_12 ∧ nr_KP (T_X0_setCell b a1 (5 : Int32) (0 : Int32) z_12 g_12) (fun r_19 z_19 g_19 => (O_X0_settle_2 b n (a1 + (1 : Int32)) z_19 g_19)))))))))
set_option maxHeartbeats 4000000 in
set_option maxRecDepth 100000 in
theorem sp_X0_settle_2 (Γ : nr_M) (ρ : Nat → Nat) (d : Nat) (b : Nat) (hb : nr_ho b) (X : nr_CX) (hX : nr_Cx Γ ρ X yX0_settle cX0_settle 2 none (d + 1)) : ∀ (n : Nat) (a1 : Int32) (z : Nat → Int32) (g : Nat → Nat → Int32) (R0 : Int32 × nr_S) (_ : T_X0_settle_2 b n a1 z g = R0) (_ : O_X0_settle_2 b n a1 z g), nr_G Γ ρ X 2 (nr_Qv Γ ρ X (fun u => R0 = (0, u))) 2 [(0, .ref (ρ b)), (1, .int a1)] [] z g := by
  intro n
  induction n with
  | zero => intro a1 z g R0 hR hok; exact False.elim hok
  | succ n ih =>
    intro a1 z g R0 hR hok
    rw [T_X0_settle_2] at hR
    rw [O_X0_settle_2] at hok
    refine G_iload_n hX dX0_settle_2 rfl rfl ?_
    refine G_bipush (v := (8 : Int32)) hX dX0_settle_3 (by decide) rfl ?_
    refine G_icmp_ge (tg := 28) hX dX0_settle_5 (by decide) rfl (fun (h_5 : (8 : Int32) ≤ a1) => ?_) (fun (h_5 : ¬ ((8 : Int32) ≤ a1)) => ?_)
    · rw [if_pos h_5] at hR
      replace hok := hok.1 h_5
      exact G_vret hX dX0_settle_28 hR.symm
    · rw [if_neg h_5] at hR
      replace hok := hok.2 h_5
      refine G_aload_n hX dX0_settle_8 rfl rfl ?_
      refine G_iload_n hX dX0_settle_9 rfl rfl ?_
      refine G_iconst (v := (4 : Int32)) hX dX0_settle_10 (by decide) rfl ?_
      refine G_iconst (v := (0 : Int32)) hX dX0_settle_11 (by decide) rfl ?_
      obtain ⟨ho_12, hok⟩ := hok
      refine G_cVv hX dX0_settle_12 lv_RX0_15 (sp_X0_setCell Γ ρ d b a1 (4 : Int32) (0 : Int32) hb z g ho_12) (by omega) (nr_is_ho hb) rfl rfl (Nat.le_of_ble_eq_true rfl) rfl (fun u_12 e_12 => ?_)
      obtain ⟨z_12, g_12⟩ := u_12
      rw [e_12, nr_K_mk] at hR
      rw [e_12, nr_KP_mk] at hok
      refine G_aload_n hX dX0_settle_15 rfl rfl ?_
      refine G_iload_n hX dX0_settle_16 rfl rfl ?_
      refine G_iconst (v := (5 : Int32)) hX dX0_settle_17 (by decide) rfl ?_
      refine G_iconst (v := (0 : Int32)) hX dX0_settle_18 (by decide) rfl ?_
      obtain ⟨ho_19, hok⟩ := hok
      refine G_cVv hX dX0_settle_19 lv_RX0_15 (sp_X0_setCell Γ ρ d b a1 (5 : Int32) (0 : Int32) hb z_12 g_12 ho_19) (by omega) (nr_is_ho hb) rfl rfl (Nat.le_of_ble_eq_true rfl) rfl (fun u_19 e_19 => ?_)
      obtain ⟨z_19, g_19⟩ := u_19
      rw [e_19, nr_K_mk] at hR
      rw [e_19, nr_KP_mk] at hok
      refine G_iinc (v := (a1 + (1 : Int32))) hX dX0_settle_22 rfl rfl (by decide) rfl rfl ?_
      refine G_goto (tg := 2) hX dX0_settle_25 (by decide) ?_
      exact nr_sub (by exact ⟨rfl, rfl, trivial⟩) (ih (a1 + (1 : Int32)) z_19 g_19 R0 hR hok)
def T_X0_settle (b : Nat) (z : Nat → Int32) (g : Nat → Nat → Int32) : Int32 × nr_S := (T_X0_settle_2 b 500 (0 : Int32) z g)
def O_X0_settle (b : Nat) (z : Nat → Int32) (g : Nat → Nat → Int32) : Prop := (O_X0_settle_2 b 500 (0 : Int32) z g)
set_option maxHeartbeats 4000000 in
set_option maxRecDepth 100000 in
theorem sp_X0_settle (Γ : nr_M) (ρ : Nat → Nat) (d : Nat) (b : Nat) (hb : nr_ho b) (z : Nat → Int32) (g : Nat → Nat → Int32) (hok : O_X0_settle b z g) : nr_Sv Γ ρ (d + 1) yX0_settle cX0_settle 2 none [.ref (ρ b)] z g (fun u => (T_X0_settle b z g) = (0, u)) := by
  refine nr_body_v (lv := [(0, .ref (ρ b))]) (by decide +kernel) (Nat.le_of_ble_eq_true rfl) rfl (fun X hX => ?_)
  generalize hR : (T_X0_settle b z g) = R0
  rw [T_X0_settle] at hR
  rw [O_X0_settle] at hok
  refine G_iconst (v := (0 : Int32)) hX dX0_settle_0 (by decide) rfl ?_
  refine G_istore_n hX dX0_settle_1 (by decide) rfl rfl ?_
  exact nr_sub (by exact ⟨rfl, rfl, trivial⟩) (sp_X0_settle_2 Γ ρ d b hb X hX 500 (0 : Int32) z g R0 hR hok)
def R_X0_sum (b : Nat) (z : Nat → Int32) (g : Nat → Nat → Int32) : Int32 := (g (b + 1) ((57 : Int32)).toNatClampNeg)
set_option maxHeartbeats 4000000 in
set_option maxRecDepth 100000 in
theorem sp_X0_sum (Γ : nr_M) (ρ : Nat → Nat) (d : Nat) (b : Nat) (hb : nr_ho b) (z : Nat → Int32) (g : Nat → Nat → Int32) : nr_Si Γ ρ (d + 0) yX0_sum cX0_sum 1 (some .int) [.ref (ρ b)] z g (fun x u => x = (R_X0_sum b z g) ∧ u = (z, g)) := by
  refine nr_body_i (lv := [(0, .ref (ρ b))]) (by decide +kernel) (Nat.le_of_ble_eq_true rfl) rfl (fun X hX => ?_)
  generalize hR : (R_X0_sum b z g) = R0
  rw [R_X0_sum] at hR
  refine G_aload_n hX dX0_sum_0 rfl rfl ?_
  refine G_getr hX dX0_sum_1 (gt_RX0_9 hb) rfl ?_
  refine G_bipush (v := (57 : Int32)) hX dX0_sum_4 (by decide) rfl ?_
  refine G_iald hX dX0_sum_6 (nr_il_ho hb) (by decide) (by unfold vp_in; decide) rfl ?_
  exact G_iret hX rfl dX0_sum_7 rfl ⟨hR, rfl⟩
def T_X0_addToSum (b : Nat) (a1 : Int32) (z : Nat → Int32) (g : Nat → Nat → Int32) : Int32 × nr_S := (0, z, (nr_st g (b + 1) (57 : Int32) ((g (b + 1) ((57 : Int32)).toNatClampNeg) + a1)))
set_option maxHeartbeats 4000000 in
set_option maxRecDepth 100000 in
theorem sp_X0_addToSum (Γ : nr_M) (ρ : Nat → Nat) (d : Nat) (b : Nat) (a1 : Int32) (hb : nr_ho b) (z : Nat → Int32) (g : Nat → Nat → Int32) : nr_Sv Γ ρ (d + 0) yX0_addToSum cX0_addToSum 2 none [.ref (ρ b), .int a1] z g (fun u => (T_X0_addToSum b a1 z g) = (0, u)) := by
  refine nr_body_v (lv := [(0, .ref (ρ b)), (1, .int a1)]) (by decide +kernel) (Nat.le_of_ble_eq_true rfl) rfl (fun X hX => ?_)
  generalize hR : (T_X0_addToSum b a1 z g) = R0
  rw [T_X0_addToSum] at hR
  refine G_aload_n hX dX0_addToSum_0 rfl rfl ?_
  refine G_getr hX dX0_addToSum_1 (gt_RX0_9 hb) rfl ?_
  refine G_bipush (v := (57 : Int32)) hX dX0_addToSum_4 (by decide) rfl ?_
  refine G_dup2 hX dX0_addToSum_6 rfl rfl rfl ?_
  refine G_iald hX dX0_addToSum_7 (nr_il_ho hb) (by decide) (by unfold vp_in; decide) rfl ?_
  refine G_iload_n hX dX0_addToSum_8 rfl rfl ?_
  refine G_iadd hX dX0_addToSum_9 rfl ?_
  refine G_ist hX dX0_addToSum_10 (nr_il_ho hb) (by decide) (by unfold vp_in; decide) rfl ?_
  exact G_vret hX dX0_addToSum_11 hR.symm
def T_X4_befall (t : Nat) (a1 : Int32) (a2 : Int32) (a3 : Int32) (z : Nat → Int32) (g : Nat → Nat → Int32) : Int32 × nr_S := (0, z, (nr_st (nr_st (nr_st (nr_st g (t + 1) (0 : Int32) a1) (t + 1) (1 : Int32) a2) (t + 1) (2 : Int32) a3) (t + 1) (7 : Int32) (((nr_st (nr_st (nr_st g (t + 1) (0 : Int32) a1) (t + 1) (1 : Int32) a2) (t + 1) (2 : Int32) a3) (t + 1) ((7 : Int32)).toNatClampNeg) + (1 : Int32))))
set_option maxHeartbeats 4000000 in
set_option maxRecDepth 100000 in
theorem sp_X4_befall (Γ : nr_M) (ρ : Nat → Nat) (d : Nat) (t : Nat) (a1 : Int32) (a2 : Int32) (a3 : Int32) (ht : nr_ta t) (z : Nat → Int32) (g : Nat → Nat → Int32) : nr_Sv Γ ρ (d + 0) yX4_befall cX4_befall 4 none [.ref (ρ t), .int a1, .int a2, .int a3] z g (fun u => (T_X4_befall t a1 a2 a3 z g) = (0, u)) := by
  refine nr_body_v (lv := [(0, .ref (ρ t)), (1, .int a1), (2, .int a2), (3, .int a3)]) (by decide +kernel) (Nat.le_of_ble_eq_true rfl) rfl (fun X hX => ?_)
  generalize hR : (T_X4_befall t a1 a2 a3 z g) = R0
  rw [T_X4_befall] at hR
  refine G_aload_n hX dX4_befall_0 rfl rfl ?_
  refine G_getr hX dX4_befall_1 (gt_RX4_9 ht) rfl ?_
  refine G_iconst (v := (0 : Int32)) hX dX4_befall_4 (by decide) rfl ?_
  refine G_iload_n hX dX4_befall_5 rfl rfl ?_
  refine G_ist hX dX4_befall_6 (nr_il_t1 ht) (by decide) (by unfold vp_in; decide) rfl ?_
  refine G_aload_n hX dX4_befall_7 rfl rfl ?_
  refine G_getr hX dX4_befall_8 (gt_RX4_9 ht) rfl ?_
  refine G_iconst (v := (1 : Int32)) hX dX4_befall_11 (by decide) rfl ?_
  refine G_iload_n hX dX4_befall_12 rfl rfl ?_
  refine G_ist hX dX4_befall_13 (nr_il_t1 ht) (by decide) (by unfold vp_in; decide) rfl ?_
  refine G_aload_n hX dX4_befall_14 rfl rfl ?_
  refine G_getr hX dX4_befall_15 (gt_RX4_9 ht) rfl ?_
  refine G_iconst (v := (2 : Int32)) hX dX4_befall_18 (by decide) rfl ?_
  refine G_iload_n hX dX4_befall_19 rfl rfl ?_
  refine G_ist hX dX4_befall_20 (nr_il_t1 ht) (by decide) (by unfold vp_in; decide) rfl ?_
  refine G_aload_n hX dX4_befall_21 rfl rfl ?_
  refine G_getr hX dX4_befall_22 (gt_RX4_9 ht) rfl ?_
  refine G_bipush (v := (7 : Int32)) hX dX4_befall_25 (by decide) rfl ?_
  refine G_dup2 hX dX4_befall_27 rfl rfl rfl ?_
  refine G_iald hX dX4_befall_28 (nr_il_t1 ht) (by decide) (by unfold vp_in; decide) rfl ?_
  refine G_iconst (v := (1 : Int32)) hX dX4_befall_29 (by decide) rfl ?_
  refine G_iadd hX dX4_befall_30 rfl ?_
  refine G_ist hX dX4_befall_31 (nr_il_t1 ht) (by decide) (by unfold vp_in; decide) rfl ?_
  exact G_vret hX dX4_befall_32 hR.symm
def R_X4_fact (t : Nat) (a1 : Int32) (z : Nat → Int32) (g : Nat → Nat → Int32) : Int32 := (R_X5_at (t + 1) a1 z g)
def O_X4_fact (t : Nat) (a1 : Int32) (z : Nat → Int32) (g : Nat → Nat → Int32) : Prop := (O_X5_at (t + 1) a1 z g ∧ True)
set_option maxHeartbeats 4000000 in
set_option maxRecDepth 100000 in
theorem sp_X4_fact (Γ : nr_M) (ρ : Nat → Nat) (d : Nat) (t : Nat) (a1 : Int32) (ht : nr_ta t) (z : Nat → Int32) (g : Nat → Nat → Int32) (hok : O_X4_fact t a1 z g) : nr_Si Γ ρ (d + 1) yX4_fact cX4_fact 2 (some .int) [.ref (ρ t), .int a1] z g (fun x u => x = (R_X4_fact t a1 z g) ∧ u = (z, g)) := by
  refine nr_body_i (lv := [(0, .ref (ρ t)), (1, .int a1)]) (by decide +kernel) (Nat.le_of_ble_eq_true rfl) rfl (fun X hX => ?_)
  generalize hR : (R_X4_fact t a1 z g) = R0
  rw [R_X4_fact] at hR
  rw [O_X4_fact] at hok
  refine G_aload_n hX dX4_fact_0 rfl rfl ?_
  refine G_getr hX dX4_fact_1 (gt_RX4_9 ht) rfl ?_
  refine G_iload_n hX dX4_fact_4 rfl rfl ?_
  obtain ⟨ho_5, hok⟩ := hok
  refine G_fSi hX dX4_fact_5 ls_RX4_44 (sp_X5_at Γ ρ d (t + 1) a1 z g ho_5) (by omega) rfl rfl (Nat.le_of_ble_eq_true rfl) rfl ?_
  exact G_iret hX rfl dX4_fact_8 rfl ⟨hR, rfl⟩
def T_X4_report_20 (t : Nat)  (z : Nat → Int32) (g : Nat → Nat → Int32) : Int32 × nr_S := (nr_K (T_X4_befall t (5 : Int32) ((nr_st g (t + 1) (3 : Int32) ((g (t + 1) ((3 : Int32)).toNatClampNeg) + (1 : Int32))) (t + 1) ((1 : Int32)).toNatClampNeg) (-1 : Int32) z (nr_st g (t + 1) (3 : Int32) ((g (t + 1) ((3 : Int32)).toNatClampNeg) + (1 : Int32)))) (fun r_39 z_39 g_39 => (0, z_39, g_39)))
def O_X4_report_20 (t : Nat)  (z : Nat → Int32) (g : Nat → Nat → Int32) : Prop := True
set_option maxHeartbeats 4000000 in
set_option maxRecDepth 100000 in
theorem sp_X4_report_20 (Γ : nr_M) (ρ : Nat → Nat) (d : Nat) (t : Nat) (ht : nr_ta t) (X : nr_CX) (hX : nr_Cx Γ ρ X yX4_report cX4_report 1 none (d + 1))  (z : Nat → Int32) (g : Nat → Nat → Int32) (R0 : Int32 × nr_S) (hR : T_X4_report_20 t  z g = R0) (hok : O_X4_report_20 t  z g) : nr_G Γ ρ X 1 (nr_Qv Γ ρ X (fun u => R0 = (0, u))) 20 [(0, .ref (ρ t))] [] z g := by
  rw [T_X4_report_20] at hR
  rw [O_X4_report_20] at hok
  refine G_aload_n hX dX4_report_20 rfl rfl ?_
  refine G_getr hX dX4_report_21 (gt_RX4_9 ht) rfl ?_
  refine G_iconst (v := (3 : Int32)) hX dX4_report_24 (by decide) rfl ?_
  refine G_dup2 hX dX4_report_25 rfl rfl rfl ?_
  refine G_iald hX dX4_report_26 (nr_il_t1 ht) (by decide) (by unfold vp_in; decide) rfl ?_
  refine G_iconst (v := (1 : Int32)) hX dX4_report_27 (by decide) rfl ?_
  refine G_iadd hX dX4_report_28 rfl ?_
  refine G_ist hX dX4_report_29 (nr_il_t1 ht) (by decide) (by unfold vp_in; decide) rfl ?_
  refine G_aload_n hX dX4_report_30 rfl rfl ?_
  refine G_iconst (v := (5 : Int32)) hX dX4_report_31 (by decide) rfl ?_
  refine G_aload_n hX dX4_report_32 rfl rfl ?_
  refine G_getr hX dX4_report_33 (gt_RX4_9 ht) rfl ?_
  refine G_iconst (v := (1 : Int32)) hX dX4_report_36 (by decide) rfl ?_
  refine G_iald hX dX4_report_37 (nr_il_t1 ht) (by decide) (by unfold vp_in; decide) rfl ?_
  refine G_iconst (v := (-1 : Int32)) hX dX4_report_38 (by decide) rfl ?_
  refine G_cVv hX dX4_report_39 lv_RX4_40 (sp_X4_befall Γ ρ d t (5 : Int32) ((nr_st g (t + 1) (3 : Int32) ((g (t + 1) ((3 : Int32)).toNatClampNeg) + (1 : Int32))) (t + 1) ((1 : Int32)).toNatClampNeg) (-1 : Int32) ht z (nr_st g (t + 1) (3 : Int32) ((g (t + 1) ((3 : Int32)).toNatClampNeg) + (1 : Int32)))) (by omega) (nr_is_ta ht) rfl rfl (Nat.le_of_ble_eq_true rfl) rfl (fun u_39 e_39 => ?_)
  obtain ⟨z_39, g_39⟩ := u_39
  rw [e_39, nr_K_mk] at hR
  exact G_vret hX dX4_report_42 hR.symm
def T_X4_report (t : Nat) (z : Nat → Int32) (g : Nat → Nat → Int32) : Int32 × nr_S := (if (g (t + 1) ((0 : Int32)).toNatClampNeg) = (5 : Int32) then (T_X4_report_20 t  z g) else (T_X4_report_20 t  (va_up z (t - 2) (g (t + 1) ((0 : Int32)).toNatClampNeg)) g))
def O_X4_report (t : Nat) (z : Nat → Int32) (g : Nat → Nat → Int32) : Prop := (((g (t + 1) ((0 : Int32)).toNatClampNeg) = (5 : Int32) → (O_X4_report_20 t  z g)) ∧ (¬ ((g (t + 1) ((0 : Int32)).toNatClampNeg) = (5 : Int32)) → (O_X4_report_20 t  (va_up z (t - 2) (g (t + 1) ((0 : Int32)).toNatClampNeg)) g)))
set_option maxHeartbeats 4000000 in
set_option maxRecDepth 100000 in
theorem sp_X4_report (Γ : nr_M) (ρ : Nat → Nat) (d : Nat) (t : Nat) (ht : nr_ta t) (z : Nat → Int32) (g : Nat → Nat → Int32) (hok : O_X4_report t z g) : nr_Sv Γ ρ (d + 1) yX4_report cX4_report 1 none [.ref (ρ t)] z g (fun u => (T_X4_report t z g) = (0, u)) := by
  refine nr_body_v (lv := [(0, .ref (ρ t))]) (by decide +kernel) (Nat.le_of_ble_eq_true rfl) rfl (fun X hX => ?_)
  generalize hR : (T_X4_report t z g) = R0
  rw [T_X4_report] at hR
  rw [O_X4_report] at hok
  refine G_aload_n hX dX4_report_0 rfl rfl ?_
  refine G_getr hX dX4_report_1 (gt_RX4_9 ht) rfl ?_
  refine G_iconst (v := (0 : Int32)) hX dX4_report_4 (by decide) rfl ?_
  refine G_iald hX dX4_report_5 (nr_il_t1 ht) (by decide) (by unfold vp_in; decide) rfl ?_
  refine G_iconst (v := (5 : Int32)) hX dX4_report_6 (by decide) rfl ?_
  refine G_icmp_eq (tg := 20) hX dX4_report_7 (by decide) rfl (fun (h_7 : (g (t + 1) ((0 : Int32)).toNatClampNeg) = (5 : Int32)) => ?_) (fun (h_7 : ¬ ((g (t + 1) ((0 : Int32)).toNatClampNeg) = (5 : Int32))) => ?_)
  · rw [if_pos h_7] at hR
    replace hok := hok.1 h_7
    exact nr_sub (by exact ⟨rfl, trivial⟩) (sp_X4_report_20 Γ ρ d t ht X hX z g R0 hR hok)
  · rw [if_neg h_7] at hR
    replace hok := hok.2 h_7
    refine G_aload_n hX dX4_report_10 rfl rfl ?_
    refine G_aload_n hX dX4_report_11 rfl rfl ?_
    refine G_getr hX dX4_report_12 (gt_RX4_9 ht) rfl ?_
    refine G_iconst (v := (0 : Int32)) hX dX4_report_15 (by decide) rfl ?_
    refine G_iald hX dX4_report_16 (nr_il_t1 ht) (by decide) (by unfold vp_in; decide) rfl ?_
    refine G_put hX dX4_report_17 (pt_RX4_37 ht) rfl rfl rfl ?_
    exact nr_sub (by exact ⟨rfl, trivial⟩) (sp_X4_report_20 Γ ρ d t ht X hX (va_up z (t - 2) (g (t + 1) ((0 : Int32)).toNatClampNeg)) g R0 hR hok)
def R_X0_sleepNow (b : Nat) (a1 : Int32) (z : Nat → Int32) (g : Nat → Nat → Int32) : Int32 := (if (R_X0_cell b a1 (4 : Int32) z g) = 0 then (R_X0_cell b a1 (3 : Int32) z g) else (0 : Int32))
def O_X0_sleepNow (b : Nat) (a1 : Int32) (z : Nat → Int32) (g : Nat → Nat → Int32) : Prop := (O_X0_cell b a1 (4 : Int32) z g ∧ (((R_X0_cell b a1 (4 : Int32) z g) = 0 → (O_X0_cell b a1 (3 : Int32) z g ∧ True)) ∧ (¬ ((R_X0_cell b a1 (4 : Int32) z g) = 0) → True)))
set_option maxHeartbeats 4000000 in
set_option maxRecDepth 100000 in
theorem sp_X0_sleepNow (Γ : nr_M) (ρ : Nat → Nat) (d : Nat) (b : Nat) (a1 : Int32) (hb : nr_ho b) (z : Nat → Int32) (g : Nat → Nat → Int32) (hok : O_X0_sleepNow b a1 z g) : nr_Si Γ ρ (d + 1) yX0_sleepNow cX0_sleepNow 2 (some .int) [.ref (ρ b), .int a1] z g (fun x u => x = (R_X0_sleepNow b a1 z g) ∧ u = (z, g)) := by
  refine nr_body_i (lv := [(0, .ref (ρ b)), (1, .int a1)]) (by decide +kernel) (Nat.le_of_ble_eq_true rfl) rfl (fun X hX => ?_)
  generalize hR : (R_X0_sleepNow b a1 z g) = R0
  rw [R_X0_sleepNow] at hR
  rw [O_X0_sleepNow] at hok
  refine G_aload_n hX dX0_sleepNow_0 rfl rfl ?_
  refine G_iload_n hX dX0_sleepNow_1 rfl rfl ?_
  refine G_iconst (v := (4 : Int32)) hX dX0_sleepNow_2 (by decide) rfl ?_
  obtain ⟨ho_3, hok⟩ := hok
  refine G_fVi hX dX0_sleepNow_3 lv_RX0_19 (sp_X0_cell Γ ρ d b a1 (4 : Int32) hb z g ho_3) (by omega) (nr_is_ho hb) rfl rfl (Nat.le_of_ble_eq_true rfl) rfl ?_
  refine G_if_ne (tg := 18) hX dX0_sleepNow_6 (by decide) rfl (fun (h_6 : ¬ ((R_X0_cell b a1 (4 : Int32) z g) = 0)) => ?_) (fun (h_6 : (R_X0_cell b a1 (4 : Int32) z g) = 0) => ?_)
  · rw [if_neg h_6] at hR
    replace hok := hok.2 h_6
    refine G_iconst (v := (0 : Int32)) hX dX0_sleepNow_18 (by decide) rfl ?_
    exact G_iret hX rfl dX0_sleepNow_19 rfl ⟨hR, rfl⟩
  · rw [if_pos h_6] at hR
    replace hok := hok.1 h_6
    refine G_aload_n hX dX0_sleepNow_9 rfl rfl ?_
    refine G_iload_n hX dX0_sleepNow_10 rfl rfl ?_
    refine G_iconst (v := (3 : Int32)) hX dX0_sleepNow_11 (by decide) rfl ?_
    obtain ⟨ho_12, hok⟩ := hok
    refine G_fVi hX dX0_sleepNow_12 lv_RX0_19 (sp_X0_cell Γ ρ d b a1 (3 : Int32) hb z g ho_12) (by omega) (nr_is_ho hb) rfl rfl (Nat.le_of_ble_eq_true rfl) rfl ?_
    refine G_goto (tg := 19) hX dX0_sleepNow_15 (by decide) ?_
    exact G_iret hX rfl dX0_sleepNow_19 rfl ⟨hR, rfl⟩
def T_X0_takeKey (b : Nat) (a1 : Int32) (z : Nat → Int32) (g : Nat → Nat → Int32) : Int32 × nr_S := (if (R_X0_cell b a1 (2 : Int32) z g) = 0 then (0, z, g) else (nr_K (T_X0_giveKeys b ((R_X0_keyring b z g) ||| ((1 : Int32) <<< ((R_X0_cell b a1 (2 : Int32) z g) &&& 31))) z g) (fun r_20 z_20 g_20 => (nr_K (T_X0_setCell b a1 (2 : Int32) (0 : Int32) z_20 g_20) (fun r_27 z_27 g_27 => (0, z_27, g_27))))))
def O_X0_takeKey (b : Nat) (a1 : Int32) (z : Nat → Int32) (g : Nat → Nat → Int32) : Prop := (O_X0_cell b a1 (2 : Int32) z g ∧ (((R_X0_cell b a1 (2 : Int32) z g) = 0 → True) ∧ (¬ ((R_X0_cell b a1 (2 : Int32) z g) = 0) → (nr_KP (T_X0_giveKeys b ((R_X0_keyring b z g) ||| ((1 : Int32) <<< ((R_X0_cell b a1 (2 : Int32) z g) &&& 31))) z g) (fun r_20 z_20 g_20 => ((O_X0_setCell b a1 (2 : Int32) (0 : Int32) z_20 g_20 ∧ True)))))))
set_option maxHeartbeats 4000000 in
set_option maxRecDepth 100000 in
theorem sp_X0_takeKey (Γ : nr_M) (ρ : Nat → Nat) (d : Nat) (b : Nat) (a1 : Int32) (hb : nr_ho b) (z : Nat → Int32) (g : Nat → Nat → Int32) (hok : O_X0_takeKey b a1 z g) : nr_Sv Γ ρ (d + 1) yX0_takeKey cX0_takeKey 3 none [.ref (ρ b), .int a1] z g (fun u => (T_X0_takeKey b a1 z g) = (0, u)) := by
  refine nr_body_v (lv := [(0, .ref (ρ b)), (1, .int a1)]) (by decide +kernel) (Nat.le_of_ble_eq_true rfl) rfl (fun X hX => ?_)
  generalize hR : (T_X0_takeKey b a1 z g) = R0
  rw [T_X0_takeKey] at hR
  rw [O_X0_takeKey] at hok
  refine G_aload_n hX dX0_takeKey_0 rfl rfl ?_
  refine G_iload_n hX dX0_takeKey_1 rfl rfl ?_
  refine G_iconst (v := (2 : Int32)) hX dX0_takeKey_2 (by decide) rfl ?_
  obtain ⟨ho_3, hok⟩ := hok
  refine G_fVi hX dX0_takeKey_3 lv_RX0_19 (sp_X0_cell Γ ρ d b a1 (2 : Int32) hb z g ho_3) (by omega) (nr_is_ho hb) rfl rfl (Nat.le_of_ble_eq_true rfl) rfl ?_
  refine G_istore_n hX dX0_takeKey_6 (by decide) rfl rfl ?_
  refine G_iload_n hX dX0_takeKey_7 rfl rfl ?_
  refine G_if_eq (tg := 30) hX dX0_takeKey_8 (by decide) rfl (fun (h_8 : (R_X0_cell b a1 (2 : Int32) z g) = 0) => ?_) (fun (h_8 : ¬ ((R_X0_cell b a1 (2 : Int32) z g) = 0)) => ?_)
  · rw [if_pos h_8] at hR
    replace hok := hok.1 h_8
    exact G_vret hX dX0_takeKey_30 hR.symm
  · rw [if_neg h_8] at hR
    replace hok := hok.2 h_8
    refine G_aload_n hX dX0_takeKey_11 rfl rfl ?_
    refine G_aload_n hX dX0_takeKey_12 rfl rfl ?_
    refine G_fVi hX dX0_takeKey_13 lv_RX0_27 (sp_X0_keyring Γ ρ d b hb z g) (by omega) (nr_is_ho hb) rfl rfl (Nat.le_of_ble_eq_true rfl) rfl ?_
    refine G_iconst (v := (1 : Int32)) hX dX0_takeKey_16 (by decide) rfl ?_
    refine G_iload_n hX dX0_takeKey_17 rfl rfl ?_
    refine G_ishl hX dX0_takeKey_18 rfl ?_
    refine G_ior hX dX0_takeKey_19 rfl ?_
    refine G_cVv hX dX0_takeKey_20 lv_RX0_39 (sp_X0_giveKeys Γ ρ d b ((R_X0_keyring b z g) ||| ((1 : Int32) <<< ((R_X0_cell b a1 (2 : Int32) z g) &&& 31))) hb z g) (by omega) (nr_is_ho hb) rfl rfl (Nat.le_of_ble_eq_true rfl) rfl (fun u_20 e_20 => ?_)
    obtain ⟨z_20, g_20⟩ := u_20
    rw [e_20, nr_K_mk] at hR
    rw [e_20, nr_KP_mk] at hok
    refine G_aload_n hX dX0_takeKey_23 rfl rfl ?_
    refine G_iload_n hX dX0_takeKey_24 rfl rfl ?_
    refine G_iconst (v := (2 : Int32)) hX dX0_takeKey_25 (by decide) rfl ?_
    refine G_iconst (v := (0 : Int32)) hX dX0_takeKey_26 (by decide) rfl ?_
    obtain ⟨ho_27, hok⟩ := hok
    refine G_cVv hX dX0_takeKey_27 lv_RX0_15 (sp_X0_setCell Γ ρ d b a1 (2 : Int32) (0 : Int32) hb z_20 g_20 ho_27) (by omega) (nr_is_ho hb) rfl rfl (Nat.le_of_ble_eq_true rfl) rfl (fun u_27 e_27 => ?_)
    obtain ⟨z_27, g_27⟩ := u_27
    rw [e_27, nr_K_mk] at hR
    exact G_vret hX dX0_takeKey_30 hR.symm
def T_X0_turnLamp (b : Nat) (a1 : Int32) (z : Nat → Int32) (g : Nat → Nat → Int32) : Int32 × nr_S := (nr_K (T_X0_setCell b a1 (5 : Int32) ((1 : Int32) - (R_X0_cell b a1 (5 : Int32) z g)) z g) (fun r_11 z_11 g_11 => (0, z_11, g_11)))
def O_X0_turnLamp (b : Nat) (a1 : Int32) (z : Nat → Int32) (g : Nat → Nat → Int32) : Prop := (O_X0_cell b a1 (5 : Int32) z g ∧ ((O_X0_setCell b a1 (5 : Int32) ((1 : Int32) - (R_X0_cell b a1 (5 : Int32) z g)) z g ∧ True)))
set_option maxHeartbeats 4000000 in
set_option maxRecDepth 100000 in
theorem sp_X0_turnLamp (Γ : nr_M) (ρ : Nat → Nat) (d : Nat) (b : Nat) (a1 : Int32) (hb : nr_ho b) (z : Nat → Int32) (g : Nat → Nat → Int32) (hok : O_X0_turnLamp b a1 z g) : nr_Sv Γ ρ (d + 1) yX0_turnLamp cX0_turnLamp 2 none [.ref (ρ b), .int a1] z g (fun u => (T_X0_turnLamp b a1 z g) = (0, u)) := by
  refine nr_body_v (lv := [(0, .ref (ρ b)), (1, .int a1)]) (by decide +kernel) (Nat.le_of_ble_eq_true rfl) rfl (fun X hX => ?_)
  generalize hR : (T_X0_turnLamp b a1 z g) = R0
  rw [T_X0_turnLamp] at hR
  rw [O_X0_turnLamp] at hok
  refine G_aload_n hX dX0_turnLamp_0 rfl rfl ?_
  refine G_iload_n hX dX0_turnLamp_1 rfl rfl ?_
  refine G_iconst (v := (5 : Int32)) hX dX0_turnLamp_2 (by decide) rfl ?_
  refine G_iconst (v := (1 : Int32)) hX dX0_turnLamp_3 (by decide) rfl ?_
  refine G_aload_n hX dX0_turnLamp_4 rfl rfl ?_
  refine G_iload_n hX dX0_turnLamp_5 rfl rfl ?_
  refine G_iconst (v := (5 : Int32)) hX dX0_turnLamp_6 (by decide) rfl ?_
  obtain ⟨ho_7, hok⟩ := hok
  refine G_fVi hX dX0_turnLamp_7 lv_RX0_19 (sp_X0_cell Γ ρ d b a1 (5 : Int32) hb z g ho_7) (by omega) (nr_is_ho hb) rfl rfl (Nat.le_of_ble_eq_true rfl) rfl ?_
  refine G_isub hX dX0_turnLamp_10 rfl ?_
  obtain ⟨ho_11, hok⟩ := hok
  refine G_cVv hX dX0_turnLamp_11 lv_RX0_15 (sp_X0_setCell Γ ρ d b a1 (5 : Int32) ((1 : Int32) - (R_X0_cell b a1 (5 : Int32) z g)) hb z g ho_11) (by omega) (nr_is_ho hb) rfl rfl (Nat.le_of_ble_eq_true rfl) rfl (fun u_11 e_11 => ?_)
  obtain ⟨z_11, g_11⟩ := u_11
  rw [e_11, nr_K_mk] at hR
  exact G_vret hX dX0_turnLamp_14 hR.symm
def T_X0_wakes (b : Nat) (a1 : Int32) (a2 : Int32) (z : Nat → Int32) (g : Nat → Nat → Int32) : Int32 × nr_S := (if (R_X0_sleepNow b a1 z g) = 0 then ((0 : Int32), z, g) else (if (R_X0_sleepNow b a1 z g) ≤ a2 then (nr_K (T_X0_setCell b a1 (4 : Int32) (1 : Int32) z g) (fun r_21 z_21 g_21 => ((1 : Int32), z_21, g_21))) else ((0 : Int32), z, g)))
def O_X0_wakes (b : Nat) (a1 : Int32) (a2 : Int32) (z : Nat → Int32) (g : Nat → Nat → Int32) : Prop := (O_X0_sleepNow b a1 z g ∧ (((R_X0_sleepNow b a1 z g) = 0 → True) ∧ (¬ ((R_X0_sleepNow b a1 z g) = 0) → (((R_X0_sleepNow b a1 z g) ≤ a2 → ((O_X0_setCell b a1 (4 : Int32) (1 : Int32) z g ∧ True))) ∧ (¬ ((R_X0_sleepNow b a1 z g) ≤ a2) → True)))))
set_option maxHeartbeats 4000000 in
set_option maxRecDepth 100000 in
theorem sp_X0_wakes (Γ : nr_M) (ρ : Nat → Nat) (d : Nat) (b : Nat) (a1 : Int32) (a2 : Int32) (hb : nr_ho b) (z : Nat → Int32) (g : Nat → Nat → Int32) (hok : O_X0_wakes b a1 a2 z g) : nr_Si Γ ρ (d + 2) yX0_wakes cX0_wakes 4 (some .boolean) [.ref (ρ b), .int a1, .int a2] z g (fun x u => narrow .boolean (.int x) = .int x ∧ (T_X0_wakes b a1 a2 z g) = (x, u)) := by
  refine nr_body_i (lv := [(0, .ref (ρ b)), (1, .int a1), (2, .int a2)]) (by decide +kernel) (Nat.le_of_ble_eq_true rfl) rfl (fun X hX => ?_)
  generalize hR : (T_X0_wakes b a1 a2 z g) = R0
  rw [T_X0_wakes] at hR
  rw [O_X0_wakes] at hok
  refine G_aload_n hX dX0_wakes_0 rfl rfl ?_
  refine G_iload_n hX dX0_wakes_1 rfl rfl ?_
  obtain ⟨ho_2, hok⟩ := hok
  refine G_fVi hX dX0_wakes_2 lv_RX0_31 (sp_X0_sleepNow Γ ρ d b a1 hb z g ho_2) (by omega) (nr_is_ho hb) rfl rfl (Nat.le_of_ble_eq_true rfl) rfl ?_
  refine G_istore_n hX dX0_wakes_5 (by decide) rfl rfl ?_
  refine G_iload_n hX dX0_wakes_6 rfl rfl ?_
  refine G_if_eq (tg := 15) hX dX0_wakes_7 (by decide) rfl (fun (h_7 : (R_X0_sleepNow b a1 z g) = 0) => ?_) (fun (h_7 : ¬ ((R_X0_sleepNow b a1 z g) = 0)) => ?_)
  · rw [if_pos h_7] at hR
    replace hok := hok.1 h_7
    refine G_iconst (v := (0 : Int32)) hX dX0_wakes_15 (by decide) rfl ?_
    exact G_iret hX rfl dX0_wakes_16 rfl ⟨rfl, hR.symm⟩
  · rw [if_neg h_7] at hR
    replace hok := hok.2 h_7
    refine G_iload_n hX dX0_wakes_10 rfl rfl ?_
    refine G_iload_n hX dX0_wakes_11 rfl rfl ?_
    refine G_icmp_ge (tg := 17) hX dX0_wakes_12 (by decide) rfl (fun (h_12 : (R_X0_sleepNow b a1 z g) ≤ a2) => ?_) (fun (h_12 : ¬ ((R_X0_sleepNow b a1 z g) ≤ a2)) => ?_)
    · rw [if_pos h_12] at hR
      replace hok := hok.1 h_12
      refine G_aload_n hX dX0_wakes_17 rfl rfl ?_
      refine G_iload_n hX dX0_wakes_18 rfl rfl ?_
      refine G_iconst (v := (4 : Int32)) hX dX0_wakes_19 (by decide) rfl ?_
      refine G_iconst (v := (1 : Int32)) hX dX0_wakes_20 (by decide) rfl ?_
      obtain ⟨ho_21, hok⟩ := hok
      refine G_cVv hX dX0_wakes_21 lv_RX0_15 (sp_X0_setCell Γ ρ d b a1 (4 : Int32) (1 : Int32) hb z g ho_21) (by omega) (nr_is_ho hb) rfl rfl (Nat.le_of_ble_eq_true rfl) rfl (fun u_21 e_21 => ?_)
      obtain ⟨z_21, g_21⟩ := u_21
      rw [e_21, nr_K_mk] at hR
      refine G_iconst (v := (1 : Int32)) hX dX0_wakes_24 (by decide) rfl ?_
      exact G_iret hX rfl dX0_wakes_25 rfl ⟨rfl, hR.symm⟩
    · rw [if_neg h_12] at hR
      replace hok := hok.2 h_12
      refine G_iconst (v := (0 : Int32)) hX dX0_wakes_15 (by decide) rfl ?_
      exact G_iret hX rfl dX0_wakes_16 rfl ⟨rfl, hR.symm⟩
def R_X0_admits (b : Nat) (a1 : Int32) (z : Nat → Int32) (g : Nat → Nat → Int32) : Int32 := (if (R_X0_cell b a1 (1 : Int32) z g) = 0 then (1 : Int32) else (if ((R_X0_keyring b z g) &&& ((1 : Int32) <<< ((R_X0_cell b a1 (1 : Int32) z g) &&& 31))) = 0 then (0 : Int32) else (1 : Int32)))
def O_X0_admits (b : Nat) (a1 : Int32) (z : Nat → Int32) (g : Nat → Nat → Int32) : Prop := (O_X0_cell b a1 (1 : Int32) z g ∧ True)
set_option maxHeartbeats 4000000 in
set_option maxRecDepth 100000 in
theorem sp_X0_admits (Γ : nr_M) (ρ : Nat → Nat) (d : Nat) (b : Nat) (a1 : Int32) (hb : nr_ho b) (z : Nat → Int32) (g : Nat → Nat → Int32) (hok : O_X0_admits b a1 z g) : nr_Si Γ ρ (d + 1) yX0_admits cX0_admits 3 (some .boolean) [.ref (ρ b), .int a1] z g (fun x u => x = (R_X0_admits b a1 z g) ∧ u = (z, g)) := by
  refine nr_body_i (lv := [(0, .ref (ρ b)), (1, .int a1)]) (by decide +kernel) (Nat.le_of_ble_eq_true rfl) rfl (fun X hX => ?_)
  generalize hR : (R_X0_admits b a1 z g) = R0
  rw [R_X0_admits] at hR
  rw [O_X0_admits] at hok
  refine G_aload_n hX dX0_admits_0 rfl rfl ?_
  refine G_iload_n hX dX0_admits_1 rfl rfl ?_
  refine G_iconst (v := (1 : Int32)) hX dX0_admits_2 (by decide) rfl ?_
  obtain ⟨ho_3, hok⟩ := hok
  refine G_fVi hX dX0_admits_3 lv_RX0_19 (sp_X0_cell Γ ρ d b a1 (1 : Int32) hb z g ho_3) (by omega) (nr_is_ho hb) rfl rfl (Nat.le_of_ble_eq_true rfl) rfl ?_
  refine G_istore_n hX dX0_admits_6 (by decide) rfl rfl ?_
  refine G_iload_n hX dX0_admits_7 rfl rfl ?_
  refine G_if_eq (tg := 22) hX dX0_admits_8 (by decide) rfl (fun (h_8 : (R_X0_cell b a1 (1 : Int32) z g) = 0) => ?_) (fun (h_8 : ¬ ((R_X0_cell b a1 (1 : Int32) z g) = 0)) => ?_)
  · rw [if_pos h_8] at hR
    refine G_iconst (v := (1 : Int32)) hX dX0_admits_22 (by decide) rfl ?_
    refine G_goto (tg := 27) hX dX0_admits_23 (by decide) ?_
    exact G_iret hX rfl dX0_admits_27 rfl ⟨hR, rfl⟩
  · rw [if_neg h_8] at hR
    refine G_aload_n hX dX0_admits_11 rfl rfl ?_
    refine G_fVi hX dX0_admits_12 lv_RX0_27 (sp_X0_keyring Γ ρ d b hb z g) (by omega) (nr_is_ho hb) rfl rfl (Nat.le_of_ble_eq_true rfl) rfl ?_
    refine G_iconst (v := (1 : Int32)) hX dX0_admits_15 (by decide) rfl ?_
    refine G_iload_n hX dX0_admits_16 rfl rfl ?_
    refine G_ishl hX dX0_admits_17 rfl ?_
    refine G_iand hX dX0_admits_18 rfl ?_
    refine G_if_eq (tg := 26) hX dX0_admits_19 (by decide) rfl (fun (h_19 : ((R_X0_keyring b z g) &&& ((1 : Int32) <<< ((R_X0_cell b a1 (1 : Int32) z g) &&& 31))) = 0) => ?_) (fun (h_19 : ¬ (((R_X0_keyring b z g) &&& ((1 : Int32) <<< ((R_X0_cell b a1 (1 : Int32) z g) &&& 31))) = 0)) => ?_)
    · rw [if_pos h_19] at hR
      refine G_iconst (v := (0 : Int32)) hX dX0_admits_26 (by decide) rfl ?_
      exact G_iret hX rfl dX0_admits_27 rfl ⟨hR, rfl⟩
    · rw [if_neg h_19] at hR
      refine G_iconst (v := (1 : Int32)) hX dX0_admits_22 (by decide) rfl ?_
      refine G_goto (tg := 27) hX dX0_admits_23 (by decide) ?_
      exact G_iret hX rfl dX0_admits_27 rfl ⟨hR, rfl⟩
theorem nb_X0_admits (b : Nat) (a1 : Int32) (z : Nat → Int32) (g : Nat → Nat → Int32) : narrow .boolean (.int (R_X0_admits b a1 z g)) = .int (R_X0_admits b a1 z g) := by
  unfold R_X0_admits; repeat' split
  all_goals first | rfl | exact nb_X5_within _ _ _ | exact nb_X6_in _ _ _ | exact nb_X3_isRoomSign _ | exact nb_X3_holdsActs _
def T_X0_openDoor (b : Nat) (a1 : Int32) (z : Nat → Int32) (g : Nat → Nat → Int32) : Int32 × nr_S := (nr_K (T_X0_setCell b a1 (6 : Int32) (if (9999 : Int32) < ((R_X0_cell b a1 (6 : Int32) z g) + (1 : Int32)) then (9999 : Int32) else ((R_X0_cell b a1 (6 : Int32) z g) + (1 : Int32))) z g) (fun r_19 z_19 g_19 => (0, z_19, g_19)))
def O_X0_openDoor (b : Nat) (a1 : Int32) (z : Nat → Int32) (g : Nat → Nat → Int32) : Prop := (O_X0_cell b a1 (6 : Int32) z g ∧ ((O_X0_setCell b a1 (6 : Int32) (if (9999 : Int32) < ((R_X0_cell b a1 (6 : Int32) z g) + (1 : Int32)) then (9999 : Int32) else ((R_X0_cell b a1 (6 : Int32) z g) + (1 : Int32))) z g ∧ True)))
set_option maxHeartbeats 4000000 in
set_option maxRecDepth 100000 in
theorem sp_X0_openDoor (Γ : nr_M) (ρ : Nat → Nat) (d : Nat) (b : Nat) (a1 : Int32) (hb : nr_ho b) (z : Nat → Int32) (g : Nat → Nat → Int32) (hok : O_X0_openDoor b a1 z g) : nr_Sv Γ ρ (d + 1) yX0_openDoor cX0_openDoor 2 none [.ref (ρ b), .int a1] z g (fun u => (T_X0_openDoor b a1 z g) = (0, u)) := by
  refine nr_body_v (lv := [(0, .ref (ρ b)), (1, .int a1)]) (by decide +kernel) (Nat.le_of_ble_eq_true rfl) rfl (fun X hX => ?_)
  generalize hR : (T_X0_openDoor b a1 z g) = R0
  rw [T_X0_openDoor] at hR
  rw [O_X0_openDoor] at hok
  refine G_aload_n hX dX0_openDoor_0 rfl rfl ?_
  refine G_iload_n hX dX0_openDoor_1 rfl rfl ?_
  refine G_bipush (v := (6 : Int32)) hX dX0_openDoor_2 (by decide) rfl ?_
  refine G_aload_n hX dX0_openDoor_4 rfl rfl ?_
  refine G_iload_n hX dX0_openDoor_5 rfl rfl ?_
  refine G_bipush (v := (6 : Int32)) hX dX0_openDoor_6 (by decide) rfl ?_
  obtain ⟨ho_8, hok⟩ := hok
  refine G_fVi hX dX0_openDoor_8 lv_RX0_19 (sp_X0_cell Γ ρ d b a1 (6 : Int32) hb z g ho_8) (by omega) (nr_is_ho hb) rfl rfl (Nat.le_of_ble_eq_true rfl) rfl ?_
  refine G_iconst (v := (1 : Int32)) hX dX0_openDoor_11 (by decide) rfl ?_
  refine G_iadd hX dX0_openDoor_12 rfl ?_
  refine G_sipush (v := (9999 : Int32)) hX dX0_openDoor_13 (by decide) rfl ?_
  refine G_min hX dX0_openDoor_16 wm_RX0_34 (by omega) (Nat.le_of_ble_eq_true rfl) rfl ?_
  obtain ⟨ho_19, hok⟩ := hok
  refine G_cVv hX dX0_openDoor_19 lv_RX0_15 (sp_X0_setCell Γ ρ d b a1 (6 : Int32) (if (9999 : Int32) < ((R_X0_cell b a1 (6 : Int32) z g) + (1 : Int32)) then (9999 : Int32) else ((R_X0_cell b a1 (6 : Int32) z g) + (1 : Int32))) hb z g ho_19) (by omega) (nr_is_ho hb) rfl rfl (Nat.le_of_ble_eq_true rfl) rfl (fun u_19 e_19 => ?_)
  obtain ⟨z_19, g_19⟩ := u_19
  rw [e_19, nr_K_mk] at hR
  exact G_vret hX dX0_openDoor_22 hR.symm
def T_X4_write (t : Nat) (a1 : Int32) (z : Nat → Int32) (g : Nat → Nat → Int32) : Int32 × nr_S := (if (150 : Int32) ≤ (z (t - 3)) then (0, z, g) else (0, (va_up z (t - 3) ((z (t - 3)) + (1 : Int32))), (nr_st g (t + 2) (z (t - 3)) a1)))
def O_X4_write (t : Nat) (a1 : Int32) (z : Nat → Int32) (g : Nat → Nat → Int32) : Prop := (((150 : Int32) ≤ (z (t - 3)) → True) ∧ (¬ ((150 : Int32) ≤ (z (t - 3))) → (vp_in (z (t - 3)) 150 ∧ True)))
set_option maxHeartbeats 4000000 in
set_option maxRecDepth 100000 in
theorem sp_X4_write (Γ : nr_M) (ρ : Nat → Nat) (d : Nat) (t : Nat) (a1 : Int32) (ht : nr_ta t) (z : Nat → Int32) (g : Nat → Nat → Int32) (hok : O_X4_write t a1 z g) : nr_Sv Γ ρ (d + 0) yX4_write cX4_write 2 none [.ref (ρ t), .int a1] z g (fun u => (T_X4_write t a1 z g) = (0, u)) := by
  refine nr_body_v (lv := [(0, .ref (ρ t)), (1, .int a1)]) (by decide +kernel) (Nat.le_of_ble_eq_true rfl) rfl (fun X hX => ?_)
  generalize hR : (T_X4_write t a1 z g) = R0
  rw [T_X4_write] at hR
  rw [O_X4_write] at hok
  refine G_aload_n hX dX4_write_0 rfl rfl ?_
  refine G_geti hX dX4_write_1 (gt_RX4_27 ht) rfl ?_
  refine G_sipush (v := (150 : Int32)) hX dX4_write_4 (by decide) rfl ?_
  refine G_icmp_ge (tg := 30) hX dX4_write_7 (by decide) rfl (fun (h_7 : (150 : Int32) ≤ (z (t - 3))) => ?_) (fun (h_7 : ¬ ((150 : Int32) ≤ (z (t - 3)))) => ?_)
  · rw [if_pos h_7] at hR
    replace hok := hok.1 h_7
    exact G_vret hX dX4_write_30 hR.symm
  · rw [if_neg h_7] at hR
    replace hok := hok.2 h_7
    refine G_aload_n hX dX4_write_10 rfl rfl ?_
    refine G_getr hX dX4_write_11 (gt_RX4_15 ht) rfl ?_
    refine G_aload_n hX dX4_write_14 rfl rfl ?_
    refine G_geti hX dX4_write_15 (gt_RX4_27 ht) rfl ?_
    refine G_iload_n hX dX4_write_18 rfl rfl ?_
    obtain ⟨hi_19, hok⟩ := hok
    refine G_ist hX dX4_write_19 (nr_il_t2 ht) (by decide) hi_19 rfl ?_
    refine G_aload_n hX dX4_write_20 rfl rfl ?_
    refine G_dup hX dX4_write_21 rfl rfl ?_
    refine G_geti hX dX4_write_22 (gt_RX4_27 ht) rfl ?_
    refine G_iconst (v := (1 : Int32)) hX dX4_write_25 (by decide) rfl ?_
    refine G_iadd hX dX4_write_26 rfl ?_
    refine G_put hX dX4_write_27 (pt_RX4_27 ht) rfl rfl rfl ?_
    exact G_vret hX dX4_write_30 hR.symm
def T_X4_doorOpened (t : Nat) (a1 : Int32) (z : Nat → Int32) (g : Nat → Nat → Int32) : Int32 × nr_S := (nr_K (T_X4_write t ((10 : Int32) + a1) (va_up z (t - 1) ((z (t - 1)) + (1 : Int32))) (nr_st g (t + 1) (6 : Int32) (if (g (t + 1) ((6 : Int32)).toNatClampNeg) < ((va_up z (t - 1) ((z (t - 1)) + (1 : Int32))) (t - 1)) then ((va_up z (t - 1) ((z (t - 1)) + (1 : Int32))) (t - 1)) else (g (t + 1) ((6 : Int32)).toNatClampNeg)))) (fun r_36 z_36 g_36 => (0, z_36, g_36)))
def O_X4_doorOpened (t : Nat) (a1 : Int32) (z : Nat → Int32) (g : Nat → Nat → Int32) : Prop := ((O_X4_write t ((10 : Int32) + a1) (va_up z (t - 1) ((z (t - 1)) + (1 : Int32))) (nr_st g (t + 1) (6 : Int32) (if (g (t + 1) ((6 : Int32)).toNatClampNeg) < ((va_up z (t - 1) ((z (t - 1)) + (1 : Int32))) (t - 1)) then ((va_up z (t - 1) ((z (t - 1)) + (1 : Int32))) (t - 1)) else (g (t + 1) ((6 : Int32)).toNatClampNeg))) ∧ True))
set_option maxHeartbeats 4000000 in
set_option maxRecDepth 100000 in
theorem sp_X4_doorOpened (Γ : nr_M) (ρ : Nat → Nat) (d : Nat) (t : Nat) (a1 : Int32) (ht : nr_ta t) (z : Nat → Int32) (g : Nat → Nat → Int32) (hok : O_X4_doorOpened t a1 z g) : nr_Sv Γ ρ (d + 1) yX4_doorOpened cX4_doorOpened 2 none [.ref (ρ t), .int a1] z g (fun u => (T_X4_doorOpened t a1 z g) = (0, u)) := by
  refine nr_body_v (lv := [(0, .ref (ρ t)), (1, .int a1)]) (by decide +kernel) (Nat.le_of_ble_eq_true rfl) rfl (fun X hX => ?_)
  generalize hR : (T_X4_doorOpened t a1 z g) = R0
  rw [T_X4_doorOpened] at hR
  rw [O_X4_doorOpened] at hok
  refine G_aload_n hX dX4_doorOpened_0 rfl rfl ?_
  refine G_dup hX dX4_doorOpened_1 rfl rfl ?_
  refine G_geti hX dX4_doorOpened_2 (gt_RX4_31 ht) rfl ?_
  refine G_iconst (v := (1 : Int32)) hX dX4_doorOpened_5 (by decide) rfl ?_
  refine G_iadd hX dX4_doorOpened_6 rfl ?_
  refine G_put hX dX4_doorOpened_7 (pt_RX4_31 ht) rfl rfl rfl ?_
  refine G_aload_n hX dX4_doorOpened_10 rfl rfl ?_
  refine G_getr hX dX4_doorOpened_11 (gt_RX4_9 ht) rfl ?_
  refine G_bipush (v := (6 : Int32)) hX dX4_doorOpened_14 (by decide) rfl ?_
  refine G_aload_n hX dX4_doorOpened_16 rfl rfl ?_
  refine G_getr hX dX4_doorOpened_17 (gt_RX4_9 ht) rfl ?_
  refine G_bipush (v := (6 : Int32)) hX dX4_doorOpened_20 (by decide) rfl ?_
  refine G_iald hX dX4_doorOpened_22 (nr_il_t1 ht) (by decide) (by unfold vp_in; decide) rfl ?_
  refine G_aload_n hX dX4_doorOpened_23 rfl rfl ?_
  refine G_geti hX dX4_doorOpened_24 (gt_RX4_31 ht) rfl ?_
  refine G_max hX dX4_doorOpened_27 wm_RX4_48 (by omega) (Nat.le_of_ble_eq_true rfl) rfl ?_
  refine G_ist hX dX4_doorOpened_30 (nr_il_t1 ht) (by decide) (by unfold vp_in; decide) rfl ?_
  refine G_aload_n hX dX4_doorOpened_31 rfl rfl ?_
  refine G_bipush (v := (10 : Int32)) hX dX4_doorOpened_32 (by decide) rfl ?_
  refine G_iload_n hX dX4_doorOpened_34 rfl rfl ?_
  refine G_iadd hX dX4_doorOpened_35 rfl ?_
  obtain ⟨ho_36, hok⟩ := hok
  refine G_cVv hX dX4_doorOpened_36 lv_RX4_54 (sp_X4_write Γ ρ d t ((10 : Int32) + a1) ht (va_up z (t - 1) ((z (t - 1)) + (1 : Int32))) (nr_st g (t + 1) (6 : Int32) (if (g (t + 1) ((6 : Int32)).toNatClampNeg) < ((va_up z (t - 1) ((z (t - 1)) + (1 : Int32))) (t - 1)) then ((va_up z (t - 1) ((z (t - 1)) + (1 : Int32))) (t - 1)) else (g (t + 1) ((6 : Int32)).toNatClampNeg))) ho_36) (by omega) (nr_is_ta ht) rfl rfl (Nat.le_of_ble_eq_true rfl) rfl (fun u_36 e_36 => ?_)
  obtain ⟨z_36, g_36⟩ := u_36
  rw [e_36, nr_K_mk] at hR
  exact G_vret hX dX4_doorOpened_39 hR.symm
def T_X4_doorShut (t : Nat) (a1 : Int32) (z : Nat → Int32) (g : Nat → Nat → Int32) : Int32 × nr_S := (nr_K (T_X4_write t ((20 : Int32) + a1) (va_up z (t - 1) ((z (t - 1)) - (1 : Int32))) g) (fun r_15 z_15 g_15 => (0, z_15, g_15)))
def O_X4_doorShut (t : Nat) (a1 : Int32) (z : Nat → Int32) (g : Nat → Nat → Int32) : Prop := ((O_X4_write t ((20 : Int32) + a1) (va_up z (t - 1) ((z (t - 1)) - (1 : Int32))) g ∧ True))
set_option maxHeartbeats 4000000 in
set_option maxRecDepth 100000 in
theorem sp_X4_doorShut (Γ : nr_M) (ρ : Nat → Nat) (d : Nat) (t : Nat) (a1 : Int32) (ht : nr_ta t) (z : Nat → Int32) (g : Nat → Nat → Int32) (hok : O_X4_doorShut t a1 z g) : nr_Sv Γ ρ (d + 1) yX4_doorShut cX4_doorShut 2 none [.ref (ρ t), .int a1] z g (fun u => (T_X4_doorShut t a1 z g) = (0, u)) := by
  refine nr_body_v (lv := [(0, .ref (ρ t)), (1, .int a1)]) (by decide +kernel) (Nat.le_of_ble_eq_true rfl) rfl (fun X hX => ?_)
  generalize hR : (T_X4_doorShut t a1 z g) = R0
  rw [T_X4_doorShut] at hR
  rw [O_X4_doorShut] at hok
  refine G_aload_n hX dX4_doorShut_0 rfl rfl ?_
  refine G_dup hX dX4_doorShut_1 rfl rfl ?_
  refine G_geti hX dX4_doorShut_2 (gt_RX4_31 ht) rfl ?_
  refine G_iconst (v := (1 : Int32)) hX dX4_doorShut_5 (by decide) rfl ?_
  refine G_isub hX dX4_doorShut_6 rfl ?_
  refine G_put hX dX4_doorShut_7 (pt_RX4_31 ht) rfl rfl rfl ?_
  refine G_aload_n hX dX4_doorShut_10 rfl rfl ?_
  refine G_bipush (v := (20 : Int32)) hX dX4_doorShut_11 (by decide) rfl ?_
  refine G_iload_n hX dX4_doorShut_13 rfl rfl ?_
  refine G_iadd hX dX4_doorShut_14 rfl ?_
  obtain ⟨ho_15, hok⟩ := hok
  refine G_cVv hX dX4_doorShut_15 lv_RX4_54 (sp_X4_write Γ ρ d t ((20 : Int32) + a1) ht (va_up z (t - 1) ((z (t - 1)) - (1 : Int32))) g ho_15) (by omega) (nr_is_ta ht) rfl rfl (Nat.le_of_ble_eq_true rfl) rfl (fun u_15 e_15 => ?_)
  obtain ⟨z_15, g_15⟩ := u_15
  rw [e_15, nr_K_mk] at hR
  exact G_vret hX dX4_doorShut_18 hR.symm
def R_X4_doorsOpen (t : Nat) (z : Nat → Int32) (g : Nat → Nat → Int32) : Int32 := (z (t - 1))
set_option maxHeartbeats 4000000 in
set_option maxRecDepth 100000 in
theorem sp_X4_doorsOpen (Γ : nr_M) (ρ : Nat → Nat) (d : Nat) (t : Nat) (ht : nr_ta t) (z : Nat → Int32) (g : Nat → Nat → Int32) : nr_Si Γ ρ (d + 0) yX4_doorsOpen cX4_doorsOpen 1 (some .int) [.ref (ρ t)] z g (fun x u => x = (R_X4_doorsOpen t z g) ∧ u = (z, g)) := by
  refine nr_body_i (lv := [(0, .ref (ρ t))]) (by decide +kernel) (Nat.le_of_ble_eq_true rfl) rfl (fun X hX => ?_)
  generalize hR : (R_X4_doorsOpen t z g) = R0
  rw [R_X4_doorsOpen] at hR
  refine G_aload_n hX dX4_doorsOpen_0 rfl rfl ?_
  refine G_geti hX dX4_doorsOpen_1 (gt_RX4_31 ht) rfl ?_
  exact G_iret hX rfl dX4_doorsOpen_4 rfl ⟨hR, rfl⟩
def T_X4_tick (t : Nat) (z : Nat → Int32) (g : Nat → Nat → Int32) : Int32 × nr_S := (if (g (t + 1) ((4 : Int32)).toNatClampNeg) < (40 : Int32) then ((1 : Int32), z, (nr_st g (t + 1) (4 : Int32) ((g (t + 1) ((4 : Int32)).toNatClampNeg) + (1 : Int32)))) else ((0 : Int32), z, g))
set_option maxHeartbeats 4000000 in
set_option maxRecDepth 100000 in
theorem sp_X4_tick (Γ : nr_M) (ρ : Nat → Nat) (d : Nat) (t : Nat) (ht : nr_ta t) (z : Nat → Int32) (g : Nat → Nat → Int32) : nr_Si Γ ρ (d + 0) yX4_tick cX4_tick 1 (some .boolean) [.ref (ρ t)] z g (fun x u => narrow .boolean (.int x) = .int x ∧ (T_X4_tick t z g) = (x, u)) := by
  refine nr_body_i (lv := [(0, .ref (ρ t))]) (by decide +kernel) (Nat.le_of_ble_eq_true rfl) rfl (fun X hX => ?_)
  generalize hR : (T_X4_tick t z g) = R0
  rw [T_X4_tick] at hR
  refine G_aload_n hX dX4_tick_0 rfl rfl ?_
  refine G_getr hX dX4_tick_1 (gt_RX4_9 ht) rfl ?_
  refine G_iconst (v := (4 : Int32)) hX dX4_tick_4 (by decide) rfl ?_
  refine G_iald hX dX4_tick_5 (nr_il_t1 ht) (by decide) (by unfold vp_in; decide) rfl ?_
  refine G_bipush (v := (40 : Int32)) hX dX4_tick_6 (by decide) rfl ?_
  refine G_icmp_lt (tg := 13) hX dX4_tick_8 (by decide) rfl (fun (h_8 : (g (t + 1) ((4 : Int32)).toNatClampNeg) < (40 : Int32)) => ?_) (fun (h_8 : ¬ ((g (t + 1) ((4 : Int32)).toNatClampNeg) < (40 : Int32))) => ?_)
  · rw [if_pos h_8] at hR
    refine G_aload_n hX dX4_tick_13 rfl rfl ?_
    refine G_getr hX dX4_tick_14 (gt_RX4_9 ht) rfl ?_
    refine G_iconst (v := (4 : Int32)) hX dX4_tick_17 (by decide) rfl ?_
    refine G_dup2 hX dX4_tick_18 rfl rfl rfl ?_
    refine G_iald hX dX4_tick_19 (nr_il_t1 ht) (by decide) (by unfold vp_in; decide) rfl ?_
    refine G_iconst (v := (1 : Int32)) hX dX4_tick_20 (by decide) rfl ?_
    refine G_iadd hX dX4_tick_21 rfl ?_
    refine G_ist hX dX4_tick_22 (nr_il_t1 ht) (by decide) (by unfold vp_in; decide) rfl ?_
    refine G_iconst (v := (1 : Int32)) hX dX4_tick_23 (by decide) rfl ?_
    exact G_iret hX rfl dX4_tick_24 rfl ⟨rfl, hR.symm⟩
  · rw [if_neg h_8] at hR
    refine G_iconst (v := (0 : Int32)) hX dX4_tick_11 (by decide) rfl ?_
    exact G_iret hX rfl dX4_tick_12 rfl ⟨rfl, hR.symm⟩
def T_X4_close (t : Nat) (a1 : Int32) (z : Nat → Int32) (g : Nat → Nat → Int32) : Int32 × nr_S := (0, z, (nr_st g (t + 1) (5 : Int32) a1))
set_option maxHeartbeats 4000000 in
set_option maxRecDepth 100000 in
theorem sp_X4_close (Γ : nr_M) (ρ : Nat → Nat) (d : Nat) (t : Nat) (a1 : Int32) (ht : nr_ta t) (z : Nat → Int32) (g : Nat → Nat → Int32) : nr_Sv Γ ρ (d + 0) yX4_close cX4_close 2 none [.ref (ρ t), .int a1] z g (fun u => (T_X4_close t a1 z g) = (0, u)) := by
  refine nr_body_v (lv := [(0, .ref (ρ t)), (1, .int a1)]) (by decide +kernel) (Nat.le_of_ble_eq_true rfl) rfl (fun X hX => ?_)
  generalize hR : (T_X4_close t a1 z g) = R0
  rw [T_X4_close] at hR
  refine G_aload_n hX dX4_close_0 rfl rfl ?_
  refine G_getr hX dX4_close_1 (gt_RX4_9 ht) rfl ?_
  refine G_iconst (v := (5 : Int32)) hX dX4_close_4 (by decide) rfl ?_
  refine G_iload_n hX dX4_close_5 rfl rfl ?_
  refine G_ist hX dX4_close_6 (nr_il_t1 ht) (by decide) (by unfold vp_in; decide) rfl ?_
  exact G_vret hX dX4_close_7 hR.symm
def T_X5_put (k0 : Nat) (a1 : Int32) (a2 : Int32) (z : Nat → Int32) (g : Nat → Nat → Int32) : Int32 × nr_S := (if a1 < 0 then (0, z, g) else (if (Int32.ofNat (nr_rl k0)) ≤ a1 then (0, z, g) else (0, z, (nr_st g k0 a1 a2))))
def O_X5_put (k0 : Nat) (a1 : Int32) (a2 : Int32) (z : Nat → Int32) (g : Nat → Nat → Int32) : Prop := ((a1 < 0 → True) ∧ (¬ (a1 < 0) → (0 < nr_rl k0 ∧ (((Int32.ofNat (nr_rl k0)) ≤ a1 → True) ∧ (¬ ((Int32.ofNat (nr_rl k0)) ≤ a1) → (0 < (nr_il k0) ∧ (vp_in a1 (nr_il k0) ∧ True)))))))
set_option maxHeartbeats 4000000 in
set_option maxRecDepth 100000 in
theorem sp_X5_put (Γ : nr_M) (ρ : Nat → Nat) (d : Nat) (k0 : Nat) (a1 : Int32) (a2 : Int32) (z : Nat → Int32) (g : Nat → Nat → Int32) (hok : O_X5_put k0 a1 a2 z g) : nr_Sv Γ ρ (d + 0) yX5_put cX5_put 3 none [.ref (ρ k0), .int a1, .int a2] z g (fun u => (T_X5_put k0 a1 a2 z g) = (0, u)) := by
  refine nr_body_v (lv := [(0, .ref (ρ k0)), (1, .int a1), (2, .int a2)]) (by decide +kernel) (Nat.le_of_ble_eq_true rfl) rfl (fun X hX => ?_)
  generalize hR : (T_X5_put k0 a1 a2 z g) = R0
  rw [T_X5_put] at hR
  rw [O_X5_put] at hok
  refine G_iload_n hX dX5_put_0 rfl rfl ?_
  refine G_if_lt (tg := 14) hX dX5_put_1 (by decide) rfl (fun (h_1 : a1 < 0) => ?_) (fun (h_1 : ¬ (a1 < 0)) => ?_)
  · rw [if_pos h_1] at hR
    replace hok := hok.1 h_1
    exact G_vret hX dX5_put_14 hR.symm
  · rw [if_neg h_1] at hR
    replace hok := hok.2 h_1
    refine G_iload_n hX dX5_put_4 rfl rfl ?_
    refine G_aload_n hX dX5_put_5 rfl rfl ?_
    obtain ⟨hz_6, hok⟩ := hok
    refine G_rlen hX dX5_put_6 hz_6 rfl ?_
    refine G_icmp_ge (tg := 14) hX dX5_put_7 (by decide) rfl (fun (h_7 : (Int32.ofNat (nr_rl k0)) ≤ a1) => ?_) (fun (h_7 : ¬ ((Int32.ofNat (nr_rl k0)) ≤ a1)) => ?_)
    · rw [if_pos h_7] at hR
      replace hok := hok.1 h_7
      exact G_vret hX dX5_put_14 hR.symm
    · rw [if_neg h_7] at hR
      replace hok := hok.2 h_7
      refine G_aload_n hX dX5_put_10 rfl rfl ?_
      refine G_iload_n hX dX5_put_11 rfl rfl ?_
      refine G_iload_n hX dX5_put_12 rfl rfl ?_
      obtain ⟨hz_13, hok⟩ := hok
      obtain ⟨hi_13, hok⟩ := hok
      refine G_ist hX dX5_put_13 rfl hz_13 hi_13 rfl ?_
      exact G_vret hX dX5_put_14 hR.symm
def T_X0_become (b : Nat) (z : Nat → Int32) (g : Nat → Nat → Int32) : Int32 × nr_S := (0, z, (nr_cp g 2 (b + 1) (0 : Int32) (0 : Int32) (58 : Int32)))
set_option maxHeartbeats 4000000 in
set_option maxRecDepth 100000 in
theorem sp_X0_become (Γ : nr_M) (ρ : Nat → Nat) (d : Nat) (b : Nat) (hb : nr_ho b) (z : Nat → Int32) (g : Nat → Nat → Int32) : nr_Sv Γ ρ (d + 1) yX0_become cX0_become 2 none [.ref (ρ b), .ref (ρ 1)] z g (fun u => (T_X0_become b z g) = (0, u)) := by
  refine nr_body_v (lv := [(0, .ref (ρ b)), (1, .ref (ρ 1))]) (by decide +kernel) (Nat.le_of_ble_eq_true rfl) rfl (fun X hX => ?_)
  generalize hR : (T_X0_become b z g) = R0
  rw [T_X0_become] at hR
  refine G_aload_n hX dX0_become_0 rfl rfl ?_
  refine G_getr hX dX0_become_1 (gt_RX0_9 (Or.inl rfl)) rfl ?_
  refine G_iconst (v := (0 : Int32)) hX dX0_become_4 (by decide) rfl ?_
  refine G_aload_n hX dX0_become_5 rfl rfl ?_
  refine G_getr hX dX0_become_6 (gt_RX0_9 hb) rfl ?_
  refine G_iconst (v := (0 : Int32)) hX dX0_become_9 (by decide) rfl ?_
  refine G_bipush (v := (58 : Int32)) hX dX0_become_10 (by decide) rfl ?_
  refine G_cpy hX dX0_become_12 wm_RX0_43 (by omega) (Nat.le_of_ble_eq_true rfl) (rfl : nr_il 2 = 58) (by decide) (nr_il_ho hb) (by decide) (by decide) (by decide) (by decide) (by decide) (by decide) rfl ?_
  exact G_vret hX dX0_become_15 hR.symm
def R_X4_innermost (t : Nat) (z : Nat → Int32) (g : Nat → Nat → Int32) : Int32 := (z (t - 2))
set_option maxHeartbeats 4000000 in
set_option maxRecDepth 100000 in
theorem sp_X4_innermost (Γ : nr_M) (ρ : Nat → Nat) (d : Nat) (t : Nat) (ht : nr_ta t) (z : Nat → Int32) (g : Nat → Nat → Int32) : nr_Si Γ ρ (d + 0) yX4_innermost cX4_innermost 1 (some .int) [.ref (ρ t)] z g (fun x u => x = (R_X4_innermost t z g) ∧ u = (z, g)) := by
  refine nr_body_i (lv := [(0, .ref (ρ t))]) (by decide +kernel) (Nat.le_of_ble_eq_true rfl) rfl (fun X hX => ?_)
  generalize hR : (R_X4_innermost t z g) = R0
  rw [R_X4_innermost] at hR
  refine G_aload_n hX dX4_innermost_0 rfl rfl ?_
  refine G_geti hX dX4_innermost_1 (gt_RX4_37 ht) rfl ?_
  exact G_iret hX rfl dX4_innermost_4 rfl ⟨hR, rfl⟩
def R_X4_entry (t : Nat) (a1 : Int32) (z : Nat → Int32) (g : Nat → Nat → Int32) : Int32 := (R_X5_at (t + 2) a1 z g)
def O_X4_entry (t : Nat) (a1 : Int32) (z : Nat → Int32) (g : Nat → Nat → Int32) : Prop := (O_X5_at (t + 2) a1 z g ∧ True)
set_option maxHeartbeats 4000000 in
set_option maxRecDepth 100000 in
theorem sp_X4_entry (Γ : nr_M) (ρ : Nat → Nat) (d : Nat) (t : Nat) (a1 : Int32) (ht : nr_ta t) (z : Nat → Int32) (g : Nat → Nat → Int32) (hok : O_X4_entry t a1 z g) : nr_Si Γ ρ (d + 1) yX4_entry cX4_entry 2 (some .int) [.ref (ρ t), .int a1] z g (fun x u => x = (R_X4_entry t a1 z g) ∧ u = (z, g)) := by
  refine nr_body_i (lv := [(0, .ref (ρ t)), (1, .int a1)]) (by decide +kernel) (Nat.le_of_ble_eq_true rfl) rfl (fun X hX => ?_)
  generalize hR : (R_X4_entry t a1 z g) = R0
  rw [R_X4_entry] at hR
  rw [O_X4_entry] at hok
  refine G_aload_n hX dX4_entry_0 rfl rfl ?_
  refine G_getr hX dX4_entry_1 (gt_RX4_15 ht) rfl ?_
  refine G_iload_n hX dX4_entry_4 rfl rfl ?_
  obtain ⟨ho_5, hok⟩ := hok
  refine G_fSi hX dX4_entry_5 ls_RX4_44 (sp_X5_at Γ ρ d (t + 2) a1 z g ho_5) (by omega) rfl rfl (Nat.le_of_ble_eq_true rfl) rfl ?_
  exact G_iret hX rfl dX4_entry_8 rfl ⟨hR, rfl⟩
def R_X4_written (t : Nat) (z : Nat → Int32) (g : Nat → Nat → Int32) : Int32 := (z (t - 3))
set_option maxHeartbeats 4000000 in
set_option maxRecDepth 100000 in
theorem sp_X4_written (Γ : nr_M) (ρ : Nat → Nat) (d : Nat) (t : Nat) (ht : nr_ta t) (z : Nat → Int32) (g : Nat → Nat → Int32) : nr_Si Γ ρ (d + 0) yX4_written cX4_written 1 (some .int) [.ref (ρ t)] z g (fun x u => x = (R_X4_written t z g) ∧ u = (z, g)) := by
  refine nr_body_i (lv := [(0, .ref (ρ t))]) (by decide +kernel) (Nat.le_of_ble_eq_true rfl) rfl (fun X hX => ?_)
  generalize hR : (R_X4_written t z g) = R0
  rw [R_X4_written] at hR
  refine G_aload_n hX dX4_written_0 rfl rfl ?_
  refine G_geti hX dX4_written_1 (gt_RX4_27 ht) rfl ?_
  exact G_iret hX rfl dX4_written_4 rfl ⟨hR, rfl⟩
def R_X0_upToThree (a0 : Int32) : Int32 := (if a0 ≤ (3 : Int32) then a0 else (0 : Int32))
set_option maxHeartbeats 4000000 in
set_option maxRecDepth 100000 in
theorem sp_X0_upToThree (Γ : nr_M) (ρ : Nat → Nat) (d : Nat) (a0 : Int32) (z : Nat → Int32) (g : Nat → Nat → Int32) : nr_Si Γ ρ (d + 0) yX0_upToThree cX0_upToThree 1 (some .int) [.int a0] z g (fun x u => x = (R_X0_upToThree a0) ∧ u = (z, g)) := by
  refine nr_body_i (lv := [(0, .int a0)]) (by decide +kernel) (Nat.le_of_ble_eq_true rfl) rfl (fun X hX => ?_)
  generalize hR : (R_X0_upToThree a0) = R0
  rw [R_X0_upToThree] at hR
  refine G_iload_n hX dX0_upToThree_0 rfl rfl ?_
  refine G_iconst (v := (3 : Int32)) hX dX0_upToThree_1 (by decide) rfl ?_
  refine G_icmp_le (tg := 9) hX dX0_upToThree_2 (by decide) rfl (fun (h_2 : a0 ≤ (3 : Int32)) => ?_) (fun (h_2 : ¬ (a0 ≤ (3 : Int32))) => ?_)
  · rw [if_pos h_2] at hR
    refine G_iload_n hX dX0_upToThree_9 rfl rfl ?_
    exact G_iret hX rfl dX0_upToThree_10 rfl ⟨hR, rfl⟩
  · rw [if_neg h_2] at hR
    refine G_iconst (v := (0 : Int32)) hX dX0_upToThree_5 (by decide) rfl ?_
    refine G_goto (tg := 10) hX dX0_upToThree_6 (by decide) ?_
    exact G_iret hX rfl dX0_upToThree_10 rfl ⟨hR, rfl⟩
def T_X0_drawFrom_14 (b : Nat) : Nat → Int64 → Int32 → (Nat → Int32) → (Nat → Nat → Int32) → Int32 × nr_S
  | 0, _, _, z, g => (0, z, g)
  | n + 1, a2, a4, z, g => (if (8 : Int32) ≤ a4 then (0, z, g) else (nr_K (T_X0_setCell b a4 (0 : Int32) ((nr_lrem ((nr_lrem ((a2 * (1103515245 : Int64)) + (12345 : Int64)) (2147483648 : Int64)) / (65536 : Int64)) (5 : Int64))).toInt32 z g) (fun r_49 z_49 g_49 => (nr_K (T_X0_setCell b a4 (1 : Int32) (R_X0_upToThree ((nr_lrem ((nr_lrem ((a2 * (1103515245 : Int64)) + (12345 : Int64)) (2147483648 : Int64)) / (1024 : Int64)) (8 : Int64))).toInt32) z_49 g_49) (fun r_69 z_69 g_69 => (nr_K (T_X0_setCell b a4 (2 : Int32) (R_X0_upToThree ((nr_lrem ((nr_lrem ((a2 * (1103515245 : Int64)) + (12345 : Int64)) (2147483648 : Int64)) / (4096 : Int64)) (8 : Int64))).toInt32) z_69 g_69) (fun r_89 z_89 g_89 => (nr_K (T_X0_setCell b a4 (3 : Int32) ((nr_lrem ((nr_lrem ((a2 * (1103515245 : Int64)) + (12345 : Int64)) (2147483648 : Int64)) / (16384 : Int64)) (10 : Int64))).toInt32 z_89 g_89) (fun r_106 z_106 g_106 => (T_X0_drawFrom_14 b n (nr_lrem ((a2 * (1103515245 : Int64)) + (12345 : Int64)) (2147483648 : Int64)) (a4 + (1 : Int32)) z_106 g_106))))))))))
def O_X0_drawFrom_14 (b : Nat) : Nat → Int64 → Int32 → (Nat → Int32) → (Nat → Nat → Int32) → Prop
  | 0, _, _, _, _ => False
  | n + 1, a2, a4, z, g => (((8 : Int32) ≤ a4 → True) ∧ (¬ ((8 : Int32) ≤ a4) → ((O_X0_setCell b a4 (0 : Int32) ((nr_lrem ((nr_lrem ((a2 * (1103515245 : Int64)) + (12345 : Int64)) (2147483648 : Int64)) / (65536 : Int64)) (5 : Int64))).toInt32 z g ∧ nr_KP (T_X0_setCell b a4 (0 : Int32) ((nr_lrem ((nr_lrem ((a2 * (1103515245 : Int64)) + (12345 : Int64)) (2147483648 : Int64)) / (65536 : Int64)) (5 : Int64))).toInt32 z g) (fun r_49 z_49 g_49 => ((O_X0_setCell b a4 (1 : Int32) (R_X0_upToThree ((nr_lrem ((nr_lrem ((a2 * (1103515245 : Int64)) + (12345 : Int64)) (2147483648 : Int64)) / (1024 : Int64)) (8 : Int64))).toInt32) z_49 g_49 ∧ nr_KP (T_X0_setCell b a4 (1 : Int32) (R_X0_upToThree ((nr_lrem ((nr_lrem ((a2 * (1103515245 : Int64)) + (12345 : Int64)) (2147483648 : Int64)) / (1024 : Int64)) (8 : Int64))).toInt32) z_49 g_49) (fun r_69 z_69 g_69 => ((O_X0_setCell b a4 (2 : Int32) (R_X0_upToThree ((nr_lrem ((nr_lrem ((a2 * (1103515245 : Int64)) + (12345 : Int64)) (2147483648 : Int64)) / (4096 : Int64)) (8 : Int64))).toInt32) z_69 g_69 ∧ nr_KP (T_X0_setCell b a4 (2 : Int32) (R_X0_upToThree ((nr_lrem ((nr_lrem ((a2 * (1103515245 : Int64)) + (12345 : Int64)) (2147483648 : Int64)) / (4096 : Int64)) (8 : Int64))).toInt32) z_69 g_69) (fun r_89 z_89 g_89 => ((O_X0_setCell b a4 (3 : Int32) ((nr_lrem ((nr_lrem ((a2 * (1103515245 : Int64)) + (12345 : Int64)) (2147483648 : Int64)) / (16384 : Int64)) (10 : Int64))).toInt32 z_89 g_89 ∧ nr_KP (T_X0_setCell b a4 (3 : Int32) ((nr_lrem ((nr_lrem ((a2 * (1103515245 : Int64)) + (12345 : Int64)) (2147483648 : Int64)) / (16384 : Int64)) (10 : Int64))).toInt32 z_89 g_89) (fun r_106 z_106 g_106 => (O_X0_drawFrom_14 b n (nr_lrem ((a2 * (1103515245 : Int64)) + (12345 : Int64)) (2147483648 : Int64)) (a4 + (1 : Int32)) z_106 g_106)))))))))))))))
set_option maxHeartbeats 4000000 in
set_option maxRecDepth 100000 in
theorem sp_X0_drawFrom_14 (Γ : nr_M) (ρ : Nat → Nat) (d : Nat) (b : Nat) (hb : nr_ho b) (X : nr_CX) (hX : nr_Cx Γ ρ X yX0_drawFrom cX0_drawFrom 5 none (d + 1)) : ∀ (n : Nat) (a2 : Int64) (a4 : Int32) (z : Nat → Int32) (g : Nat → Nat → Int32) (R0 : Int32 × nr_S) (_ : T_X0_drawFrom_14 b n a2 a4 z g = R0) (_ : O_X0_drawFrom_14 b n a2 a4 z g), nr_G Γ ρ X 5 (nr_Qv Γ ρ X (fun u => R0 = (0, u))) 14 [(0, .ref (ρ b)), (2, .long a2), (4, .int a4)] [] z g := by
  intro n
  induction n with
  | zero => intro a2 a4 z g R0 hR hok; exact False.elim hok
  | succ n ih =>
    intro a2 a4 z g R0 hR hok
    rw [T_X0_drawFrom_14] at hR
    rw [O_X0_drawFrom_14] at hok
    refine G_iload hX dX0_drawFrom_14 rfl rfl ?_
    refine G_bipush (v := (8 : Int32)) hX dX0_drawFrom_16 (by decide) rfl ?_
    refine G_icmp_ge (tg := 115) hX dX0_drawFrom_18 (by decide) rfl (fun (h_18 : (8 : Int32) ≤ a4) => ?_) (fun (h_18 : ¬ ((8 : Int32) ≤ a4)) => ?_)
    · rw [if_pos h_18] at hR
      replace hok := hok.1 h_18
      exact G_vret hX dX0_drawFrom_115 hR.symm
    · rw [if_neg h_18] at hR
      replace hok := hok.2 h_18
      refine G_lload_n hX dX0_drawFrom_21 rfl rfl ?_
      refine G_ldc2 (v := (1103515245 : Int64)) hX dX0_drawFrom_22 wk_RX0_55 rfl ?_
      refine G_lmul hX dX0_drawFrom_25 rfl ?_
      refine G_ldc2 (v := (12345 : Int64)) hX dX0_drawFrom_26 wk_RX0_57 rfl ?_
      refine G_ladd hX dX0_drawFrom_29 rfl ?_
      refine G_ldc2 (v := (2147483648 : Int64)) hX dX0_drawFrom_30 wk_RX0_59 rfl ?_
      refine G_lrem hX dX0_drawFrom_33 (by decide) rfl ?_
      refine G_lstore_n hX dX0_drawFrom_34 (by decide) rfl rfl ?_
      refine G_aload_n hX dX0_drawFrom_35 rfl rfl ?_
      refine G_iload hX dX0_drawFrom_36 rfl rfl ?_
      refine G_iconst (v := (0 : Int32)) hX dX0_drawFrom_38 (by decide) rfl ?_
      refine G_lload_n hX dX0_drawFrom_39 rfl rfl ?_
      refine G_ldc2 (v := (65536 : Int64)) hX dX0_drawFrom_40 wk_RX0_61 rfl ?_
      refine G_ldiv hX dX0_drawFrom_43 (by decide) rfl ?_
      refine G_ldc2 (v := (5 : Int64)) hX dX0_drawFrom_44 wk_RX0_63 rfl ?_
      refine G_lrem hX dX0_drawFrom_47 (by decide) rfl ?_
      refine G_l2i hX dX0_drawFrom_48 rfl ?_
      obtain ⟨ho_49, hok⟩ := hok
      refine G_cVv hX dX0_drawFrom_49 lv_RX0_15 (sp_X0_setCell Γ ρ d b a4 (0 : Int32) ((nr_lrem ((nr_lrem ((a2 * (1103515245 : Int64)) + (12345 : Int64)) (2147483648 : Int64)) / (65536 : Int64)) (5 : Int64))).toInt32 hb z g ho_49) (by omega) (nr_is_ho hb) rfl rfl (Nat.le_of_ble_eq_true rfl) rfl (fun u_49 e_49 => ?_)
      obtain ⟨z_49, g_49⟩ := u_49
      rw [e_49, nr_K_mk] at hR
      rw [e_49, nr_KP_mk] at hok
      refine G_aload_n hX dX0_drawFrom_52 rfl rfl ?_
      refine G_iload hX dX0_drawFrom_53 rfl rfl ?_
      refine G_iconst (v := (1 : Int32)) hX dX0_drawFrom_55 (by decide) rfl ?_
      refine G_lload_n hX dX0_drawFrom_56 rfl rfl ?_
      refine G_ldc2 (v := (1024 : Int64)) hX dX0_drawFrom_57 wk_RX0_65 rfl ?_
      refine G_ldiv hX dX0_drawFrom_60 (by decide) rfl ?_
      refine G_ldc2 (v := (8 : Int64)) hX dX0_drawFrom_61 wk_RX0_67 rfl ?_
      refine G_lrem hX dX0_drawFrom_64 (by decide) rfl ?_
      refine G_l2i hX dX0_drawFrom_65 rfl ?_
      refine G_fSi hX dX0_drawFrom_66 ls_RX0_69 (sp_X0_upToThree Γ ρ d ((nr_lrem ((nr_lrem ((a2 * (1103515245 : Int64)) + (12345 : Int64)) (2147483648 : Int64)) / (1024 : Int64)) (8 : Int64))).toInt32 z_49 g_49) (by omega) rfl rfl (Nat.le_of_ble_eq_true rfl) rfl ?_
      obtain ⟨ho_69, hok⟩ := hok
      refine G_cVv hX dX0_drawFrom_69 lv_RX0_15 (sp_X0_setCell Γ ρ d b a4 (1 : Int32) (R_X0_upToThree ((nr_lrem ((nr_lrem ((a2 * (1103515245 : Int64)) + (12345 : Int64)) (2147483648 : Int64)) / (1024 : Int64)) (8 : Int64))).toInt32) hb z_49 g_49 ho_69) (by omega) (nr_is_ho hb) rfl rfl (Nat.le_of_ble_eq_true rfl) rfl (fun u_69 e_69 => ?_)
      obtain ⟨z_69, g_69⟩ := u_69
      rw [e_69, nr_K_mk] at hR
      rw [e_69, nr_KP_mk] at hok
      refine G_aload_n hX dX0_drawFrom_72 rfl rfl ?_
      refine G_iload hX dX0_drawFrom_73 rfl rfl ?_
      refine G_iconst (v := (2 : Int32)) hX dX0_drawFrom_75 (by decide) rfl ?_
      refine G_lload_n hX dX0_drawFrom_76 rfl rfl ?_
      refine G_ldc2 (v := (4096 : Int64)) hX dX0_drawFrom_77 wk_RX0_72 rfl ?_
      refine G_ldiv hX dX0_drawFrom_80 (by decide) rfl ?_
      refine G_ldc2 (v := (8 : Int64)) hX dX0_drawFrom_81 wk_RX0_67 rfl ?_
      refine G_lrem hX dX0_drawFrom_84 (by decide) rfl ?_
      refine G_l2i hX dX0_drawFrom_85 rfl ?_
      refine G_fSi hX dX0_drawFrom_86 ls_RX0_69 (sp_X0_upToThree Γ ρ d ((nr_lrem ((nr_lrem ((a2 * (1103515245 : Int64)) + (12345 : Int64)) (2147483648 : Int64)) / (4096 : Int64)) (8 : Int64))).toInt32 z_69 g_69) (by omega) rfl rfl (Nat.le_of_ble_eq_true rfl) rfl ?_
      obtain ⟨ho_89, hok⟩ := hok
      refine G_cVv hX dX0_drawFrom_89 lv_RX0_15 (sp_X0_setCell Γ ρ d b a4 (2 : Int32) (R_X0_upToThree ((nr_lrem ((nr_lrem ((a2 * (1103515245 : Int64)) + (12345 : Int64)) (2147483648 : Int64)) / (4096 : Int64)) (8 : Int64))).toInt32) hb z_69 g_69 ho_89) (by omega) (nr_is_ho hb) rfl rfl (Nat.le_of_ble_eq_true rfl) rfl (fun u_89 e_89 => ?_)
      obtain ⟨z_89, g_89⟩ := u_89
      rw [e_89, nr_K_mk] at hR
      rw [e_89, nr_KP_mk] at hok
      refine G_aload_n hX dX0_drawFrom_92 rfl rfl ?_
      refine G_iload hX dX0_drawFrom_93 rfl rfl ?_
      refine G_iconst (v := (3 : Int32)) hX dX0_drawFrom_95 (by decide) rfl ?_
      refine G_lload_n hX dX0_drawFrom_96 rfl rfl ?_
      refine G_ldc2 (v := (16384 : Int64)) hX dX0_drawFrom_97 wk_RX0_74 rfl ?_
      refine G_ldiv hX dX0_drawFrom_100 (by decide) rfl ?_
      refine G_ldc2 (v := (10 : Int64)) hX dX0_drawFrom_101 wk_RX0_76 rfl ?_
      refine G_lrem hX dX0_drawFrom_104 (by decide) rfl ?_
      refine G_l2i hX dX0_drawFrom_105 rfl ?_
      obtain ⟨ho_106, hok⟩ := hok
      refine G_cVv hX dX0_drawFrom_106 lv_RX0_15 (sp_X0_setCell Γ ρ d b a4 (3 : Int32) ((nr_lrem ((nr_lrem ((a2 * (1103515245 : Int64)) + (12345 : Int64)) (2147483648 : Int64)) / (16384 : Int64)) (10 : Int64))).toInt32 hb z_89 g_89 ho_106) (by omega) (nr_is_ho hb) rfl rfl (Nat.le_of_ble_eq_true rfl) rfl (fun u_106 e_106 => ?_)
      obtain ⟨z_106, g_106⟩ := u_106
      rw [e_106, nr_K_mk] at hR
      rw [e_106, nr_KP_mk] at hok
      refine G_iinc (v := (a4 + (1 : Int32))) hX dX0_drawFrom_109 rfl rfl (by decide) rfl rfl ?_
      refine G_goto (tg := 14) hX dX0_drawFrom_112 (by decide) ?_
      exact nr_sub (by exact ⟨rfl, rfl, rfl, trivial⟩) (ih (nr_lrem ((a2 * (1103515245 : Int64)) + (12345 : Int64)) (2147483648 : Int64)) (a4 + (1 : Int32)) z_106 g_106 R0 hR hok)
def T_X0_drawFrom (b : Nat) (a1 : Int32) (z : Nat → Int32) (g : Nat → Nat → Int32) : Int32 × nr_S := (nr_K (T_J7_fill_53178 (b + 1) (0 : Int32) z g) (fun r_5 z_5 g_5 => (T_X0_drawFrom_14 b 500 (a1).toInt64 (0 : Int32) z_5 g_5)))
def O_X0_drawFrom (b : Nat) (a1 : Int32) (z : Nat → Int32) (g : Nat → Nat → Int32) : Prop := ((O_J7_fill_53178 (b + 1) (0 : Int32) z g ∧ nr_KP (T_J7_fill_53178 (b + 1) (0 : Int32) z g) (fun r_5 z_5 g_5 => (O_X0_drawFrom_14 b 500 (a1).toInt64 (0 : Int32) z_5 g_5))))
set_option maxHeartbeats 4000000 in
set_option maxRecDepth 100000 in
theorem sp_X0_drawFrom (Γ : nr_M) (ρ : Nat → Nat) (d : Nat) (b : Nat) (a1 : Int32) (hb : nr_ho b) (z : Nat → Int32) (g : Nat → Nat → Int32) (hok : O_X0_drawFrom b a1 z g) : nr_Sv Γ ρ (d + 1) yX0_drawFrom cX0_drawFrom 5 none [.ref (ρ b), .int a1] z g (fun u => (T_X0_drawFrom b a1 z g) = (0, u)) := by
  refine nr_body_v (lv := [(0, .ref (ρ b)), (1, .int a1)]) (by decide +kernel) (Nat.le_of_ble_eq_true rfl) rfl (fun X hX => ?_)
  generalize hR : (T_X0_drawFrom b a1 z g) = R0
  rw [T_X0_drawFrom] at hR
  rw [O_X0_drawFrom] at hok
  refine G_aload_n hX dX0_drawFrom_0 rfl rfl ?_
  refine G_getr hX dX0_drawFrom_1 (gt_RX0_9 hb) rfl ?_
  refine G_iconst (v := (0 : Int32)) hX dX0_drawFrom_4 (by decide) rfl ?_
  obtain ⟨ho_5, hok⟩ := hok
  refine G_cSv hX dX0_drawFrom_5 ls_RX0_49 (sp_J7_fill_53178 Γ ρ d (b + 1) (0 : Int32) z g ho_5) (by omega) rfl rfl (Nat.le_of_ble_eq_true rfl) rfl (fun u_5 e_5 => ?_)
  obtain ⟨z_5, g_5⟩ := u_5
  rw [e_5, nr_K_mk] at hR
  rw [e_5, nr_KP_mk] at hok
  refine G_iload_n hX dX0_drawFrom_8 rfl rfl ?_
  refine G_i2l hX dX0_drawFrom_9 rfl ?_
  refine G_lstore_n hX dX0_drawFrom_10 (by decide) rfl rfl ?_
  refine G_iconst (v := (0 : Int32)) hX dX0_drawFrom_11 (by decide) rfl ?_
  refine G_istore hX dX0_drawFrom_12 (by decide) rfl rfl ?_
  exact nr_sub (by exact ⟨rfl, rfl, rfl, trivial⟩) (sp_X0_drawFrom_14 Γ ρ d b hb X hX 500 (a1).toInt64 (0 : Int32) z_5 g_5 R0 hR hok)
def T_X1_giveBack  (z : Nat → Int32) (g : Nat → Nat → Int32) : Int32 × nr_S := (if (z 3) ≤ 0 then (0, z, g) else (0, (va_up z 3 ((z 3) - (1 : Int32))), (nr_cp g 6 2 (((z 3) - (1 : Int32)) * (58 : Int32)) (0 : Int32) (58 : Int32))))
def O_X1_giveBack  (z : Nat → Int32) (g : Nat → Nat → Int32) : Prop := (((z 3) ≤ 0 → True) ∧ (¬ ((z 3) ≤ 0) → (¬ (((z 3) - (1 : Int32)) * (58 : Int32)) < 0 ∧ (((((z 3) - (1 : Int32)) * (58 : Int32))).toNatClampNeg + ((58 : Int32)).toNatClampNeg ≤ 464 ∧ True))))
set_option maxHeartbeats 4000000 in
set_option maxRecDepth 100000 in
theorem sp_X1_giveBack (Γ : nr_M) (ρ : Nat → Nat) (d : Nat) (z : Nat → Int32) (g : Nat → Nat → Int32) (hok : O_X1_giveBack z g) : nr_Sv Γ ρ (d + 1) yX1_giveBack cX1_giveBack 2 none [.ref (ρ 5), .ref (ρ 1)] z g (fun u => (T_X1_giveBack z g) = (0, u)) := by
  refine nr_body_v (lv := [(0, .ref (ρ 5)), (1, .ref (ρ 1))]) (by decide +kernel) (Nat.le_of_ble_eq_true rfl) rfl (fun X hX => ?_)
  generalize hR : (T_X1_giveBack z g) = R0
  rw [T_X1_giveBack] at hR
  rw [O_X1_giveBack] at hok
  refine G_aload_n hX dX1_giveBack_0 rfl rfl ?_
  refine G_geti hX dX1_giveBack_1 gt_RX1_15 rfl ?_
  refine G_if_le (tg := 38) hX dX1_giveBack_4 (by decide) rfl (fun (h_4 : (z 3) ≤ 0) => ?_) (fun (h_4 : ¬ ((z 3) ≤ 0)) => ?_)
  · rw [if_pos h_4] at hR
    replace hok := hok.1 h_4
    exact G_vret hX dX1_giveBack_38 hR.symm
  · rw [if_neg h_4] at hR
    replace hok := hok.2 h_4
    refine G_aload_n hX dX1_giveBack_7 rfl rfl ?_
    refine G_dup hX dX1_giveBack_8 rfl rfl ?_
    refine G_geti hX dX1_giveBack_9 gt_RX1_15 rfl ?_
    refine G_iconst (v := (1 : Int32)) hX dX1_giveBack_12 (by decide) rfl ?_
    refine G_isub hX dX1_giveBack_13 rfl ?_
    refine G_put hX dX1_giveBack_14 pt_RX1_15 rfl rfl rfl ?_
    refine G_aload_n hX dX1_giveBack_17 rfl rfl ?_
    refine G_getr hX dX1_giveBack_18 gt_RX1_9 rfl ?_
    refine G_aload_n hX dX1_giveBack_21 rfl rfl ?_
    refine G_geti hX dX1_giveBack_22 gt_RX1_15 rfl ?_
    refine G_bipush (v := (58 : Int32)) hX dX1_giveBack_25 (by decide) rfl ?_
    refine G_imul hX dX1_giveBack_27 rfl ?_
    refine G_aload_n hX dX1_giveBack_28 rfl rfl ?_
    refine G_getr hX dX1_giveBack_29 gt_RX1_25 rfl ?_
    refine G_iconst (v := (0 : Int32)) hX dX1_giveBack_32 (by decide) rfl ?_
    refine G_bipush (v := (58 : Int32)) hX dX1_giveBack_33 (by decide) rfl ?_
    obtain ⟨c1_35, hok⟩ := hok
    obtain ⟨c4_35, hok⟩ := hok
    refine G_cpy hX dX1_giveBack_35 wm_RX1_19 (by omega) (Nat.le_of_ble_eq_true rfl) (rfl : nr_il 6 = 464) (by decide) (rfl : nr_il 2 = 58) (by decide) c1_35 (by decide) (by decide) c4_35 (by decide) rfl ?_
    exact G_vret hX dX1_giveBack_38 hR.symm
def R_X1_held  (z : Nat → Int32) (g : Nat → Nat → Int32) : Int32 := (z 3)
set_option maxHeartbeats 4000000 in
set_option maxRecDepth 100000 in
theorem sp_X1_held (Γ : nr_M) (ρ : Nat → Nat) (d : Nat) (z : Nat → Int32) (g : Nat → Nat → Int32) : nr_Si Γ ρ (d + 0) yX1_held cX1_held 1 (some .int) [.ref (ρ 5)] z g (fun x u => x = (R_X1_held z g) ∧ u = (z, g)) := by
  refine nr_body_i (lv := [(0, .ref (ρ 5))]) (by decide +kernel) (Nat.le_of_ble_eq_true rfl) rfl (fun X hX => ?_)
  generalize hR : (R_X1_held z g) = R0
  rw [R_X1_held] at hR
  refine G_aload_n hX dX1_held_0 rfl rfl ?_
  refine G_geti hX dX1_held_1 gt_RX1_15 rfl ?_
  exact G_iret hX rfl dX1_held_4 rfl ⟨hR, rfl⟩
