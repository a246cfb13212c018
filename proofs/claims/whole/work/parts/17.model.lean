def T_X6_bad (a1 : Int32) (z : Nat → Int32) (g : Nat → Nat → Int32) : Int32 × nr_S := (a1, z, (nr_st g 23 (0 : Int32) ((g 23 ((0 : Int32)).toNatClampNeg) + (1 : Int32))))
set_option maxHeartbeats 4000000 in
set_option maxRecDepth 100000 in
theorem sp_X6_bad (Γ : nr_M) (ρ : Nat → Nat) (d : Nat) (a1 : Int32) (z : Nat → Int32) (g : Nat → Nat → Int32) : nr_Si Γ ρ (d + 0) yX6_bad cX6_bad 2 (some .int) [.ref (ρ 20), .int a1] z g (fun x u => (T_X6_bad a1 z g) = (x, u)) := by
  refine nr_body_i (lv := [(0, .ref (ρ 20)), (1, .int a1)]) (by decide +kernel) (Nat.le_of_ble_eq_true rfl) rfl (fun X hX => ?_)
  generalize hR : (T_X6_bad a1 z g) = R0
  rw [T_X6_bad] at hR
  refine G_aload_n hX dX6_bad_0 rfl rfl ?_
  refine G_getr hX dX6_bad_1 gt_RX6_16 rfl ?_
  refine G_iconst (v := (0 : Int32)) hX dX6_bad_4 (by decide) rfl ?_
  refine G_dup2 hX dX6_bad_5 rfl rfl rfl ?_
  refine G_iald hX dX6_bad_6 (rfl : nr_il 23 = 3) (by decide) (by unfold vp_in; decide) rfl ?_
  refine G_iconst (v := (1 : Int32)) hX dX6_bad_7 (by decide) rfl ?_
  refine G_iadd hX dX6_bad_8 rfl ?_
  refine G_ist hX dX6_bad_9 (rfl : nr_il 23 = 3) (by decide) (by unfold vp_in; decide) rfl ?_
  refine G_iload_n hX dX6_bad_10 rfl rfl ?_
  exact G_iret hX rfl dX6_bad_11 rfl hR.symm
def R_X6_isRoom (a0 : Int32) : Int32 := (R_X6_in (a0).toInt64 (0 : Int64) (7 : Int64))
set_option maxHeartbeats 4000000 in
set_option maxRecDepth 100000 in
theorem sp_X6_isRoom (Γ : nr_M) (ρ : Nat → Nat) (d : Nat) (a0 : Int32) (z : Nat → Int32) (g : Nat → Nat → Int32) : nr_Si Γ ρ (d + 1) yX6_isRoom cX6_isRoom 1 (some .boolean) [.int a0] z g (fun x u => x = (R_X6_isRoom a0) ∧ u = (z, g)) := by
  refine nr_body_i (lv := [(0, .int a0)]) (by decide +kernel) (Nat.le_of_ble_eq_true rfl) rfl (fun X hX => ?_)
  generalize hR : (R_X6_isRoom a0) = R0
  rw [R_X6_isRoom] at hR
  refine G_iload_n hX dX6_isRoom_0 rfl rfl ?_
  refine G_i2l hX dX6_isRoom_1 rfl ?_
  refine G_lconst (v := (0 : Int64)) hX dX6_isRoom_2 (by decide) rfl ?_
  refine G_ldc2 (v := (7 : Int64)) hX dX6_isRoom_3 wk_RX6_60 rfl ?_
  refine G_fSi hX dX6_isRoom_6 ls_RX6_62 (sp_X6_in Γ ρ d (a0).toInt64 (0 : Int64) (7 : Int64) z g) (by omega) rfl rfl (Nat.le_of_ble_eq_true rfl) rfl ?_
  exact G_iret hX rfl dX6_isRoom_9 (nb_X6_in (a0).toInt64 (0 : Int64) (7 : Int64)) ⟨hR, rfl⟩
theorem nb_X6_isRoom (a0 : Int32) : narrow .boolean (.int (R_X6_isRoom a0)) = .int (R_X6_isRoom a0) := by
  unfold R_X6_isRoom; exact nb_X6_in _ _ _
def T_X6_night_51  : Nat → Int32 → (Nat → Int32) → (Nat → Nat → Int32) → Int32 × nr_S
  | 0, _, z, g => (0, z, g)
  | n + 1, a1, z, g => (if (58 : Int32) ≤ a1 then (0, (va_up z 20 ((z 20) + (1 : Int32))), g) else (T_X6_night_51 n (a1 + (1 : Int32)) z (nr_st g 22 (((58 : Int32) * (z 20)) + a1) (g 21 (a1).toNatClampNeg))))
def O_X6_night_51  : Nat → Int32 → (Nat → Int32) → (Nat → Nat → Int32) → Prop
  | 0, _, _, _ => False
  | n + 1, a1, z, g => (((58 : Int32) ≤ a1 → True) ∧ (¬ ((58 : Int32) ≤ a1) → (vp_in a1 58 ∧ (vp_in (((58 : Int32) * (z 20)) + a1) 464 ∧ (O_X6_night_51 n (a1 + (1 : Int32)) z (nr_st g 22 (((58 : Int32) * (z 20)) + a1) (g 21 (a1).toNatClampNeg)))))))
set_option maxHeartbeats 4000000 in
set_option maxRecDepth 100000 in
theorem sp_X6_night_51 (Γ : nr_M) (ρ : Nat → Nat) (d : Nat) (X : nr_CX) (hX : nr_Cx Γ ρ X yX6_night cX6_night 2 none (d + 0)) : ∀ (n : Nat) (a1 : Int32) (z : Nat → Int32) (g : Nat → Nat → Int32) (R0 : Int32 × nr_S) (_ : T_X6_night_51 n a1 z g = R0) (_ : O_X6_night_51 n a1 z g), nr_G Γ ρ X 2 (nr_Qv Γ ρ X (fun u => R0 = (0, u))) 51 [(0, .ref (ρ 20)), (1, .int a1)] [] z g := by
  intro n
  induction n with
  | zero => intro a1 z g R0 hR hok; exact False.elim hok
  | succ n ih =>
    intro a1 z g R0 hR hok
    rw [T_X6_night_51] at hR
    rw [O_X6_night_51] at hok
    refine G_iload_n hX dX6_night_51 rfl rfl ?_
    refine G_bipush (v := (58 : Int32)) hX dX6_night_52 (by decide) rfl ?_
    refine G_icmp_ge (tg := 83) hX dX6_night_54 (by decide) rfl (fun (h_54 : (58 : Int32) ≤ a1) => ?_) (fun (h_54 : ¬ ((58 : Int32) ≤ a1)) => ?_)
    · rw [if_pos h_54] at hR
      replace hok := hok.1 h_54
      refine G_aload_n hX dX6_night_83 rfl rfl ?_
      refine G_dup hX dX6_night_84 rfl rfl ?_
      refine G_geti hX dX6_night_85 gt_RX6_66 rfl ?_
      refine G_iconst (v := (1 : Int32)) hX dX6_night_88 (by decide) rfl ?_
      refine G_iadd hX dX6_night_89 rfl ?_
      refine G_put hX dX6_night_90 pt_RX6_66 rfl rfl rfl ?_
      exact G_vret hX dX6_night_93 hR.symm
    · rw [if_neg h_54] at hR
      replace hok := hok.2 h_54
      refine G_aload_n hX dX6_night_57 rfl rfl ?_
      refine G_getr hX dX6_night_58 gt_RX6_13 rfl ?_
      refine G_bipush (v := (58 : Int32)) hX dX6_night_61 (by decide) rfl ?_
      refine G_aload_n hX dX6_night_63 rfl rfl ?_
      refine G_geti hX dX6_night_64 gt_RX6_66 rfl ?_
      refine G_imul hX dX6_night_67 rfl ?_
      refine G_iload_n hX dX6_night_68 rfl rfl ?_
      refine G_iadd hX dX6_night_69 rfl ?_
      refine G_aload_n hX dX6_night_70 rfl rfl ?_
      refine G_getr hX dX6_night_71 gt_RX6_7 rfl ?_
      refine G_iload_n hX dX6_night_74 rfl rfl ?_
      obtain ⟨hi_75, hok⟩ := hok
      refine G_iald hX dX6_night_75 (rfl : nr_il 21 = 58) (by decide) hi_75 rfl ?_
      obtain ⟨hi_76, hok⟩ := hok
      refine G_ist hX dX6_night_76 (rfl : nr_il 22 = 464) (by decide) hi_76 rfl ?_
      refine G_iinc (v := (a1 + (1 : Int32))) hX dX6_night_77 rfl rfl (by decide) rfl rfl ?_
      refine G_goto (tg := 51) hX dX6_night_80 (by decide) ?_
      exact nr_sub (by exact ⟨rfl, rfl, trivial⟩) (ih (a1 + (1 : Int32)) z (nr_st g 22 (((58 : Int32) * (z 20)) + a1) (g 21 (a1).toNatClampNeg)) R0 hR hok)
def T_X6_night_11  : Nat → Int32 → (Nat → Int32) → (Nat → Nat → Int32) → Int32 × nr_S
  | 0, _, z, g => (0, z, g)
  | n + 1, a1, z, g => (if (406 : Int32) ≤ a1 then (T_X6_night_51 500 (0 : Int32) (va_up z 20 ((z 20) - (1 : Int32))) g) else (T_X6_night_11 n (a1 + (1 : Int32)) z (nr_st g 22 a1 (g 22 ((a1 + (58 : Int32))).toNatClampNeg))))
def O_X6_night_11  : Nat → Int32 → (Nat → Int32) → (Nat → Nat → Int32) → Prop
  | 0, _, _, _ => False
  | n + 1, a1, z, g => (((406 : Int32) ≤ a1 → (O_X6_night_51 500 (0 : Int32) (va_up z 20 ((z 20) - (1 : Int32))) g)) ∧ (¬ ((406 : Int32) ≤ a1) → (vp_in (a1 + (58 : Int32)) 464 ∧ (vp_in a1 464 ∧ (O_X6_night_11 n (a1 + (1 : Int32)) z (nr_st g 22 a1 (g 22 ((a1 + (58 : Int32))).toNatClampNeg)))))))
set_option maxHeartbeats 4000000 in
set_option maxRecDepth 100000 in
theorem sp_X6_night_11 (Γ : nr_M) (ρ : Nat → Nat) (d : Nat) (X : nr_CX) (hX : nr_Cx Γ ρ X yX6_night cX6_night 2 none (d + 0)) : ∀ (n : Nat) (a1 : Int32) (z : Nat → Int32) (g : Nat → Nat → Int32) (R0 : Int32 × nr_S) (_ : T_X6_night_11 n a1 z g = R0) (_ : O_X6_night_11 n a1 z g), nr_G Γ ρ X 2 (nr_Qv Γ ρ X (fun u => R0 = (0, u))) 11 [(0, .ref (ρ 20)), (1, .int a1)] [] z g := by
  intro n
  induction n with
  | zero => intro a1 z g R0 hR hok; exact False.elim hok
  | succ n ih =>
    intro a1 z g R0 hR hok
    rw [T_X6_night_11] at hR
    rw [O_X6_night_11] at hok
    refine G_iload_n hX dX6_night_11 rfl rfl ?_
    refine G_sipush (v := (406 : Int32)) hX dX6_night_12 (by decide) rfl ?_
    refine G_icmp_ge (tg := 39) hX dX6_night_15 (by decide) rfl (fun (h_15 : (406 : Int32) ≤ a1) => ?_) (fun (h_15 : ¬ ((406 : Int32) ≤ a1)) => ?_)
    · rw [if_pos h_15] at hR
      replace hok := hok.1 h_15
      refine G_aload_n hX dX6_night_39 rfl rfl ?_
      refine G_dup hX dX6_night_40 rfl rfl ?_
      refine G_geti hX dX6_night_41 gt_RX6_66 rfl ?_
      refine G_iconst (v := (1 : Int32)) hX dX6_night_44 (by decide) rfl ?_
      refine G_isub hX dX6_night_45 rfl ?_
      refine G_put hX dX6_night_46 pt_RX6_66 rfl rfl rfl ?_
      refine G_iconst (v := (0 : Int32)) hX dX6_night_49 (by decide) rfl ?_
      refine G_istore_n hX dX6_night_50 (by decide) rfl rfl ?_
      exact nr_sub (by exact ⟨rfl, rfl, trivial⟩) (sp_X6_night_51 Γ ρ d X hX 500 (0 : Int32) (va_up z 20 ((z 20) - (1 : Int32))) g R0 hR hok)
    · rw [if_neg h_15] at hR
      replace hok := hok.2 h_15
      refine G_aload_n hX dX6_night_18 rfl rfl ?_
      refine G_getr hX dX6_night_19 gt_RX6_13 rfl ?_
      refine G_iload_n hX dX6_night_22 rfl rfl ?_
      refine G_aload_n hX dX6_night_23 rfl rfl ?_
      refine G_getr hX dX6_night_24 gt_RX6_13 rfl ?_
      refine G_iload_n hX dX6_night_27 rfl rfl ?_
      refine G_bipush (v := (58 : Int32)) hX dX6_night_28 (by decide) rfl ?_
      refine G_iadd hX dX6_night_30 rfl ?_
      obtain ⟨hi_31, hok⟩ := hok
      refine G_iald hX dX6_night_31 (rfl : nr_il 22 = 464) (by decide) hi_31 rfl ?_
      obtain ⟨hi_32, hok⟩ := hok
      refine G_ist hX dX6_night_32 (rfl : nr_il 22 = 464) (by decide) hi_32 rfl ?_
      refine G_iinc (v := (a1 + (1 : Int32))) hX dX6_night_33 rfl rfl (by decide) rfl rfl ?_
      refine G_goto (tg := 11) hX dX6_night_36 (by decide) ?_
      exact nr_sub (by exact ⟨rfl, rfl, trivial⟩) (ih (a1 + (1 : Int32)) z (nr_st g 22 a1 (g 22 ((a1 + (58 : Int32))).toNatClampNeg)) R0 hR hok)
def T_X6_night  (z : Nat → Int32) (g : Nat → Nat → Int32) : Int32 × nr_S := (if (z 20) = (8 : Int32) then (T_X6_night_11 500 (0 : Int32) z g) else (T_X6_night_51 500 (0 : Int32) z g))
def O_X6_night  (z : Nat → Int32) (g : Nat → Nat → Int32) : Prop := (((z 20) = (8 : Int32) → (O_X6_night_11 500 (0 : Int32) z g)) ∧ (¬ ((z 20) = (8 : Int32)) → (O_X6_night_51 500 (0 : Int32) z g)))
set_option maxHeartbeats 4000000 in
set_option maxRecDepth 100000 in
theorem sp_X6_night (Γ : nr_M) (ρ : Nat → Nat) (d : Nat) (z : Nat → Int32) (g : Nat → Nat → Int32) (hok : O_X6_night z g) : nr_Sv Γ ρ (d + 0) yX6_night cX6_night 2 none [.ref (ρ 20)] z g (fun u => (T_X6_night z g) = (0, u)) := by
  refine nr_body_v (lv := [(0, .ref (ρ 20))]) (by decide +kernel) (Nat.le_of_ble_eq_true rfl) rfl (fun X hX => ?_)
  generalize hR : (T_X6_night z g) = R0
  rw [T_X6_night] at hR
  rw [O_X6_night] at hok
  refine G_aload_n hX dX6_night_0 rfl rfl ?_
  refine G_geti hX dX6_night_1 gt_RX6_66 rfl ?_
  refine G_bipush (v := (8 : Int32)) hX dX6_night_4 (by decide) rfl ?_
  refine G_icmp_ne (tg := 49) hX dX6_night_6 (by decide) rfl (fun (h_6 : ¬ ((z 20) = (8 : Int32))) => ?_) (fun (h_6 : (z 20) = (8 : Int32)) => ?_)
  · rw [if_neg h_6] at hR
    replace hok := hok.2 h_6
    refine G_iconst (v := (0 : Int32)) hX dX6_night_49 (by decide) rfl ?_
    refine G_istore_n hX dX6_night_50 (by decide) rfl rfl ?_
    exact nr_sub (by exact ⟨rfl, rfl, trivial⟩) (sp_X6_night_51 Γ ρ d X hX 500 (0 : Int32) z g R0 hR hok)
  · rw [if_pos h_6] at hR
    replace hok := hok.1 h_6
    refine G_iconst (v := (0 : Int32)) hX dX6_night_9 (by decide) rfl ?_
    refine G_istore_n hX dX6_night_10 (by decide) rfl rfl ?_
    exact nr_sub (by exact ⟨rfl, rfl, trivial⟩) (sp_X6_night_11 Γ ρ d X hX 500 (0 : Int32) z g R0 hR hok)
def T_X6_sets_52   (z : Nat → Int32) (g : Nat → Nat → Int32) : Int32 × nr_S := (nr_K (T_X6_bad (-2 : Int32) z g) (fun r_55 z_55 g_55 => (r_55, z_55, g_55)))
def O_X6_sets_52   (z : Nat → Int32) (g : Nat → Nat → Int32) : Prop := True
set_option maxHeartbeats 4000000 in
set_option maxRecDepth 100000 in
theorem sp_X6_sets_52 (Γ : nr_M) (ρ : Nat → Nat) (d : Nat) (X : nr_CX) (hX : nr_Cx Γ ρ X yX6_sets cX6_sets 6 (some .int) (d + 2))  (z : Nat → Int32) (g : Nat → Nat → Int32) (R0 : Int32 × nr_S) (hR : T_X6_sets_52  z g = R0) (hok : O_X6_sets_52  z g) : nr_G Γ ρ X 6 (nr_Qi Γ ρ X (fun x u => R0 = (x, u))) 52 [(0, .ref (ρ 20))] [] z g := by
  rw [T_X6_sets_52] at hR
  rw [O_X6_sets_52] at hok
  refine G_aload_n hX dX6_sets_52 rfl rfl ?_
  refine G_bipush (v := (-2 : Int32)) hX dX6_sets_53 (by decide) rfl ?_
  refine G_cVi hX dX6_sets_55 lv_RX6_82 (sp_X6_bad Γ ρ d (-2 : Int32) z g) (by omega) nr_is_20 rfl rfl (Nat.le_of_ble_eq_true rfl) rfl (fun r_55 u_55 e_55 => ?_)
  obtain ⟨z_55, g_55⟩ := u_55
  rw [e_55, nr_K_mk] at hR
  exact G_iret hX rfl dX6_sets_58 rfl hR.symm
def T_X6_sets_19  (a1 : Int32) (a2 : Int32) (a3 : Int32) (s0 : Int32) (z : Nat → Int32) (g : Nat → Nat → Int32) : Int32 × nr_S := (if (R_X6_isRoom a1) = 0 then (T_X6_sets_52  z g) else (if (R_X6_in (a2).toInt64 (0 : Int64) (3 : Int64)) = 0 then (T_X6_sets_52  z g) else (if (R_X6_in (a3).toInt64 (0 : Int64) (s0).toInt64) = 0 then (T_X6_sets_52  z g) else (nr_K (T_X6_night z g) (fun r_60 z_60 g_60 => (nr_K (T_X6_put a1 a2 a3 z_60 g_60) (fun r_75 z_75 g_75 => (if a2 = (3 : Int32) then (nr_K (T_X6_put a1 (4 : Int32) (0 : Int32) z_75 g_75) (fun r_87 z_87 g_87 => ((R_X6_at a1 a2 z_60 g_60), z_87, g_87))) else ((R_X6_at a1 a2 z_60 g_60), z_75, g_75)))))))))
def O_X6_sets_19  (a1 : Int32) (a2 : Int32) (a3 : Int32) (s0 : Int32) (z : Nat → Int32) (g : Nat → Nat → Int32) : Prop := (((R_X6_isRoom a1) = 0 → (O_X6_sets_52  z g)) ∧ (¬ ((R_X6_isRoom a1) = 0) → (((R_X6_in (a2).toInt64 (0 : Int64) (3 : Int64)) = 0 → (O_X6_sets_52  z g)) ∧ (¬ ((R_X6_in (a2).toInt64 (0 : Int64) (3 : Int64)) = 0) → (((R_X6_in (a3).toInt64 (0 : Int64) (s0).toInt64) = 0 → (O_X6_sets_52  z g)) ∧ (¬ ((R_X6_in (a3).toInt64 (0 : Int64) (s0).toInt64) = 0) → ((O_X6_night z g ∧ nr_KP (T_X6_night z g) (fun r_60 z_60 g_60 => (O_X6_at a1 a2 z_60 g_60 ∧ ((O_X6_put a1 a2 a3 z_60 g_60 ∧ nr_KP (T_X6_put a1 a2 a3 z_60 g_60) (fun r_75 z_75 g_75 => ((a2 = (3 : Int32) → ((O_X6_put a1 (4 : Int32) (0 : Int32) z_75 g_75 ∧ True))) ∧ (¬ (a2 = (3 : Int32)) → True)))))))))))))))
set_option maxHeartbeats 4000000 in
set_option maxRecDepth 100000 in
theorem sp_X6_sets_19 (Γ : nr_M) (ρ : Nat → Nat) (d : Nat) (X : nr_CX) (hX : nr_Cx Γ ρ X yX6_sets cX6_sets 6 (some .int) (d + 2)) (a1 : Int32) (a2 : Int32) (a3 : Int32) (s0 : Int32) (z : Nat → Int32) (g : Nat → Nat → Int32) (R0 : Int32 × nr_S) (hR : T_X6_sets_19 a1 a2 a3 s0 z g = R0) (hok : O_X6_sets_19 a1 a2 a3 s0 z g) : nr_G Γ ρ X 6 (nr_Qi Γ ρ X (fun x u => R0 = (x, u))) 19 [(0, .ref (ρ 20)), (1, .int a1), (2, .int a2), (3, .int a3)] [.int s0] z g := by
  rw [T_X6_sets_19] at hR
  rw [O_X6_sets_19] at hok
  refine G_istore hX dX6_sets_19 (by decide) rfl rfl ?_
  refine G_iload_n hX dX6_sets_21 rfl rfl ?_
  refine G_fSi hX dX6_sets_22 ls_RX6_76 (sp_X6_isRoom Γ ρ d a1 z g) (by omega) rfl rfl (Nat.le_of_ble_eq_true rfl) rfl ?_
  refine G_if_eq (tg := 52) hX dX6_sets_25 (by decide) rfl (fun (h_25 : (R_X6_isRoom a1) = 0) => ?_) (fun (h_25 : ¬ ((R_X6_isRoom a1) = 0)) => ?_)
  · rw [if_pos h_25] at hR
    replace hok := hok.1 h_25
    exact nr_sub (by exact ⟨rfl, trivial⟩) (sp_X6_sets_52 Γ ρ d X hX z g R0 hR hok)
  · rw [if_neg h_25] at hR
    replace hok := hok.2 h_25
    refine G_iload_n hX dX6_sets_28 rfl rfl ?_
    refine G_i2l hX dX6_sets_29 rfl ?_
    refine G_lconst (v := (0 : Int64)) hX dX6_sets_30 (by decide) rfl ?_
    refine G_ldc2 (v := (3 : Int64)) hX dX6_sets_31 wk_RX6_80 rfl ?_
    refine G_fSi hX dX6_sets_34 ls_RX6_62 (sp_X6_in Γ ρ d (a2).toInt64 (0 : Int64) (3 : Int64) z g) (by omega) rfl rfl (Nat.le_of_ble_eq_true rfl) rfl ?_
    refine G_if_eq (tg := 52) hX dX6_sets_37 (by decide) rfl (fun (h_37 : (R_X6_in (a2).toInt64 (0 : Int64) (3 : Int64)) = 0) => ?_) (fun (h_37 : ¬ ((R_X6_in (a2).toInt64 (0 : Int64) (3 : Int64)) = 0)) => ?_)
    · rw [if_pos h_37] at hR
      replace hok := hok.1 h_37
      exact nr_sub (by exact ⟨rfl, trivial⟩) (sp_X6_sets_52 Γ ρ d X hX z g R0 hR hok)
    · rw [if_neg h_37] at hR
      replace hok := hok.2 h_37
      refine G_iload_n hX dX6_sets_40 rfl rfl ?_
      refine G_i2l hX dX6_sets_41 rfl ?_
      refine G_lconst (v := (0 : Int64)) hX dX6_sets_42 (by decide) rfl ?_
      refine G_iload hX dX6_sets_43 rfl rfl ?_
      refine G_i2l hX dX6_sets_45 rfl ?_
      refine G_fSi hX dX6_sets_46 ls_RX6_62 (sp_X6_in Γ ρ d (a3).toInt64 (0 : Int64) (s0).toInt64 z g) (by omega) rfl rfl (Nat.le_of_ble_eq_true rfl) rfl ?_
      refine G_if_ne (tg := 59) hX dX6_sets_49 (by decide) rfl (fun (h_49 : ¬ ((R_X6_in (a3).toInt64 (0 : Int64) (s0).toInt64) = 0)) => ?_) (fun (h_49 : (R_X6_in (a3).toInt64 (0 : Int64) (s0).toInt64) = 0) => ?_)
      · rw [if_neg h_49] at hR
        replace hok := hok.2 h_49
        refine G_aload_n hX dX6_sets_59 rfl rfl ?_
        obtain ⟨ho_60, hok⟩ := hok
        refine G_cVv hX dX6_sets_60 lv_RX6_86 (sp_X6_night Γ ρ d z g ho_60) (by omega) nr_is_20 rfl rfl (Nat.le_of_ble_eq_true rfl) rfl (fun u_60 e_60 => ?_)
        obtain ⟨z_60, g_60⟩ := u_60
        rw [e_60, nr_K_mk] at hR
        rw [e_60, nr_KP_mk] at hok
        refine G_aload_n hX dX6_sets_63 rfl rfl ?_
        refine G_iload_n hX dX6_sets_64 rfl rfl ?_
        refine G_iload_n hX dX6_sets_65 rfl rfl ?_
        obtain ⟨ho_66, hok⟩ := hok
        refine G_fVi hX dX6_sets_66 lv_RX6_69 (sp_X6_at Γ ρ d a1 a2 z_60 g_60 ho_66) (by omega) nr_is_20 rfl rfl (Nat.le_of_ble_eq_true rfl) rfl ?_
        refine G_istore hX dX6_sets_69 (by decide) rfl rfl ?_
        refine G_aload_n hX dX6_sets_71 rfl rfl ?_
        refine G_iload_n hX dX6_sets_72 rfl rfl ?_
        refine G_iload_n hX dX6_sets_73 rfl rfl ?_
        refine G_iload_n hX dX6_sets_74 rfl rfl ?_
        obtain ⟨ho_75, hok⟩ := hok
        refine G_cVv hX dX6_sets_75 lv_RX6_89 (sp_X6_put Γ ρ d a1 a2 a3 z_60 g_60 ho_75) (by omega) nr_is_20 rfl rfl (Nat.le_of_ble_eq_true rfl) rfl (fun u_75 e_75 => ?_)
        obtain ⟨z_75, g_75⟩ := u_75
        rw [e_75, nr_K_mk] at hR
        rw [e_75, nr_KP_mk] at hok
        refine G_iload_n hX dX6_sets_78 rfl rfl ?_
        refine G_iconst (v := (3 : Int32)) hX dX6_sets_79 (by decide) rfl ?_
        refine G_icmp_ne (tg := 90) hX dX6_sets_80 (by decide) rfl (fun (h_80 : ¬ (a2 = (3 : Int32))) => ?_) (fun (h_80 : a2 = (3 : Int32)) => ?_)
        · rw [if_neg h_80] at hR
          replace hok := hok.2 h_80
          refine G_iload hX dX6_sets_90 rfl rfl ?_
          exact G_iret hX rfl dX6_sets_92 rfl hR.symm
        · rw [if_pos h_80] at hR
          replace hok := hok.1 h_80
          refine G_aload_n hX dX6_sets_83 rfl rfl ?_
          refine G_iload_n hX dX6_sets_84 rfl rfl ?_
          refine G_iconst (v := (4 : Int32)) hX dX6_sets_85 (by decide) rfl ?_
          refine G_iconst (v := (0 : Int32)) hX dX6_sets_86 (by decide) rfl ?_
          obtain ⟨ho_87, hok⟩ := hok
          refine G_cVv hX dX6_sets_87 lv_RX6_89 (sp_X6_put Γ ρ d a1 (4 : Int32) (0 : Int32) z_75 g_75 ho_87) (by omega) nr_is_20 rfl rfl (Nat.le_of_ble_eq_true rfl) rfl (fun u_87 e_87 => ?_)
          obtain ⟨z_87, g_87⟩ := u_87
          rw [e_87, nr_K_mk] at hR
          refine G_iload hX dX6_sets_90 rfl rfl ?_
          exact G_iret hX rfl dX6_sets_92 rfl hR.symm
      · rw [if_pos h_49] at hR
        replace hok := hok.1 h_49
        exact nr_sub (by exact ⟨rfl, trivial⟩) (sp_X6_sets_52 Γ ρ d X hX z g R0 hR hok)
def T_X6_sets (a1 : Int32) (a2 : Int32) (a3 : Int32) (z : Nat → Int32) (g : Nat → Nat → Int32) : Int32 × nr_S := (if a2 = 0 then (T_X6_sets_19 a1 a2 a3 (4 : Int32) z g) else (if a2 = (3 : Int32) then (T_X6_sets_19 a1 a2 a3 (9 : Int32) z g) else (T_X6_sets_19 a1 a2 a3 (3 : Int32) z g)))
def O_X6_sets (a1 : Int32) (a2 : Int32) (a3 : Int32) (z : Nat → Int32) (g : Nat → Nat → Int32) : Prop := ((a2 = 0 → (O_X6_sets_19 a1 a2 a3 (4 : Int32) z g)) ∧ (¬ (a2 = 0) → ((a2 = (3 : Int32) → (O_X6_sets_19 a1 a2 a3 (9 : Int32) z g)) ∧ (¬ (a2 = (3 : Int32)) → (O_X6_sets_19 a1 a2 a3 (3 : Int32) z g)))))
set_option maxHeartbeats 4000000 in
set_option maxRecDepth 100000 in
theorem sp_X6_sets (Γ : nr_M) (ρ : Nat → Nat) (d : Nat) (a1 : Int32) (a2 : Int32) (a3 : Int32) (z : Nat → Int32) (g : Nat → Nat → Int32) (hok : O_X6_sets a1 a2 a3 z g) : nr_Si Γ ρ (d + 2) yX6_sets cX6_sets 6 (some .int) [.ref (ρ 20), .int a1, .int a2, .int a3] z g (fun x u => (T_X6_sets a1 a2 a3 z g) = (x, u)) := by
  refine nr_body_i (lv := [(0, .ref (ρ 20)), (1, .int a1), (2, .int a2), (3, .int a3)]) (by decide +kernel) (Nat.le_of_ble_eq_true rfl) rfl (fun X hX => ?_)
  generalize hR : (T_X6_sets a1 a2 a3 z g) = R0
  rw [T_X6_sets] at hR
  rw [O_X6_sets] at hok
  refine G_iload_n hX dX6_sets_0 rfl rfl ?_
  refine G_if_ne (tg := 8) hX dX6_sets_1 (by decide) rfl (fun (h_1 : ¬ (a2 = 0)) => ?_) (fun (h_1 : a2 = 0) => ?_)
  · rw [if_neg h_1] at hR
    replace hok := hok.2 h_1
    refine G_iload_n hX dX6_sets_8 rfl rfl ?_
    refine G_iconst (v := (3 : Int32)) hX dX6_sets_9 (by decide) rfl ?_
    refine G_icmp_ne (tg := 18) hX dX6_sets_10 (by decide) rfl (fun (h_10 : ¬ (a2 = (3 : Int32))) => ?_) (fun (h_10 : a2 = (3 : Int32)) => ?_)
    · rw [if_neg h_10] at hR
      replace hok := hok.2 h_10
      refine G_iconst (v := (3 : Int32)) hX dX6_sets_18 (by decide) rfl ?_
      exact nr_sub (by exact ⟨rfl, rfl, rfl, rfl, trivial⟩) (sp_X6_sets_19 Γ ρ d X hX a1 a2 a3 (3 : Int32) z g R0 hR hok)
    · rw [if_pos h_10] at hR
      replace hok := hok.1 h_10
      refine G_bipush (v := (9 : Int32)) hX dX6_sets_13 (by decide) rfl ?_
      refine G_goto (tg := 19) hX dX6_sets_15 (by decide) ?_
      exact nr_sub (by exact ⟨rfl, rfl, rfl, rfl, trivial⟩) (sp_X6_sets_19 Γ ρ d X hX a1 a2 a3 (9 : Int32) z g R0 hR hok)
  · rw [if_pos h_1] at hR
    replace hok := hok.1 h_1
    refine G_iconst (v := (4 : Int32)) hX dX6_sets_4 (by decide) rfl ?_
    refine G_goto (tg := 19) hX dX6_sets_5 (by decide) ?_
    exact nr_sub (by exact ⟨rfl, rfl, rfl, rfl, trivial⟩) (sp_X6_sets_19 Γ ρ d X hX a1 a2 a3 (4 : Int32) z g R0 hR hok)
def R_X6_toldOf (a1 : Int32) (a2 : Int32) (z : Nat → Int32) (g : Nat → Nat → Int32) : Int32 := (if a2 = (4 : Int32) then (if (R_X6_at a1 (3 : Int32) z g) ≤ 0 then (0 : Int32) else (R_X6_at a1 (4 : Int32) z g)) else (if a2 = (7 : Int32) then (R_X6_loud a1 z g) else (R_X6_at a1 a2 z g)))
def O_X6_toldOf (a1 : Int32) (a2 : Int32) (z : Nat → Int32) (g : Nat → Nat → Int32) : Prop := ((a2 = (4 : Int32) → (O_X6_at a1 (3 : Int32) z g ∧ (((R_X6_at a1 (3 : Int32) z g) ≤ 0 → True) ∧ (¬ ((R_X6_at a1 (3 : Int32) z g) ≤ 0) → (O_X6_at a1 (4 : Int32) z g ∧ True))))) ∧ (¬ (a2 = (4 : Int32)) → ((a2 = (7 : Int32) → (O_X6_loud a1 z g ∧ True)) ∧ (¬ (a2 = (7 : Int32)) → (O_X6_at a1 a2 z g ∧ True)))))
set_option maxHeartbeats 4000000 in
set_option maxRecDepth 100000 in
theorem sp_X6_toldOf (Γ : nr_M) (ρ : Nat → Nat) (d : Nat) (a1 : Int32) (a2 : Int32) (z : Nat → Int32) (g : Nat → Nat → Int32) (hok : O_X6_toldOf a1 a2 z g) : nr_Si Γ ρ (d + 2) yX6_toldOf cX6_toldOf 3 (some .int) [.ref (ρ 20), .int a1, .int a2] z g (fun x u => x = (R_X6_toldOf a1 a2 z g) ∧ u = (z, g)) := by
  refine nr_body_i (lv := [(0, .ref (ρ 20)), (1, .int a1), (2, .int a2)]) (by decide +kernel) (Nat.le_of_ble_eq_true rfl) rfl (fun X hX => ?_)
  generalize hR : (R_X6_toldOf a1 a2 z g) = R0
  rw [R_X6_toldOf] at hR
  rw [O_X6_toldOf] at hok
  refine G_iload_n hX dX6_toldOf_0 rfl rfl ?_
  by_cases h_1_4 : a2 = (4 : Int32)
  · rw [if_pos h_1_4] at hR
    replace hok := hok.1 h_1_4
    refine G_lookup (off := 27) (tg := 28) hX dX6_toldOf_1 (by decide) (by rw [h_1_4]; decide) (by decide) ?_
    refine G_aload_n hX dX6_toldOf_28 rfl rfl ?_
    refine G_iload_n hX dX6_toldOf_29 rfl rfl ?_
    refine G_iconst (v := (3 : Int32)) hX dX6_toldOf_30 (by decide) rfl ?_
    obtain ⟨ho_31, hok⟩ := hok
    refine G_fVi hX dX6_toldOf_31 lv_RX6_69 (sp_X6_at Γ ρ d a1 (3 : Int32) z g ho_31) (by omega) nr_is_20 rfl rfl (Nat.le_of_ble_eq_true rfl) rfl ?_
    refine G_if_le (tg := 46) hX dX6_toldOf_34 (by decide) rfl (fun (h_34 : (R_X6_at a1 (3 : Int32) z g) ≤ 0) => ?_) (fun (h_34 : ¬ ((R_X6_at a1 (3 : Int32) z g) ≤ 0)) => ?_)
    · rw [if_pos h_34] at hR
      replace hok := hok.1 h_34
      refine G_iconst (v := (0 : Int32)) hX dX6_toldOf_46 (by decide) rfl ?_
      exact G_iret hX rfl dX6_toldOf_47 rfl ⟨hR, rfl⟩
    · rw [if_neg h_34] at hR
      replace hok := hok.2 h_34
      refine G_aload_n hX dX6_toldOf_37 rfl rfl ?_
      refine G_iload_n hX dX6_toldOf_38 rfl rfl ?_
      refine G_iconst (v := (4 : Int32)) hX dX6_toldOf_39 (by decide) rfl ?_
      obtain ⟨ho_40, hok⟩ := hok
      refine G_fVi hX dX6_toldOf_40 lv_RX6_69 (sp_X6_at Γ ρ d a1 (4 : Int32) z g ho_40) (by omega) nr_is_20 rfl rfl (Nat.le_of_ble_eq_true rfl) rfl ?_
      refine G_goto (tg := 47) hX dX6_toldOf_43 (by decide) ?_
      exact G_iret hX rfl dX6_toldOf_47 rfl ⟨hR, rfl⟩
  · rw [if_neg h_1_4] at hR
    replace hok := hok.2 h_1_4
    by_cases h_1_7 : a2 = (7 : Int32)
    · rw [if_pos h_1_7] at hR
      replace hok := hok.1 h_1_7
      refine G_lookup (off := 47) (tg := 48) hX dX6_toldOf_1 (by decide) (by rw [h_1_7]; decide) (by decide) ?_
      refine G_aload_n hX dX6_toldOf_48 rfl rfl ?_
      refine G_iload_n hX dX6_toldOf_49 rfl rfl ?_
      obtain ⟨ho_50, hok⟩ := hok
      refine G_fVi hX dX6_toldOf_50 lv_RX6_93 (sp_X6_loud Γ ρ d a1 z g ho_50) (by omega) nr_is_20 rfl rfl (Nat.le_of_ble_eq_true rfl) rfl ?_
      exact G_iret hX rfl dX6_toldOf_53 rfl ⟨hR, rfl⟩
    · rw [if_neg h_1_7] at hR
      replace hok := hok.2 h_1_7
      refine G_lookup (off := 53) (tg := 54) hX dX6_toldOf_1 (by decide) (by show Op.lookupswitch.offset [(4, 27), (7, 47)] (53) (a2).toInt = 53; rw [lv_osw (a := 4) h_1_4 (by decide), lv_osw (a := 7) h_1_7 (by decide)]; rfl) (by decide) ?_
      refine G_aload_n hX dX6_toldOf_54 rfl rfl ?_
      refine G_iload_n hX dX6_toldOf_55 rfl rfl ?_
      refine G_iload_n hX dX6_toldOf_56 rfl rfl ?_
      obtain ⟨ho_57, hok⟩ := hok
      refine G_fVi hX dX6_toldOf_57 lv_RX6_69 (sp_X6_at Γ ρ d a1 a2 z g ho_57) (by omega) nr_is_20 rfl rfl (Nat.le_of_ble_eq_true rfl) rfl ?_
      exact G_iret hX rfl dX6_toldOf_60 rfl ⟨hR, rfl⟩
def T_X6_of_28   (z : Nat → Int32) (g : Nat → Nat → Int32) : Int32 × nr_S := (nr_K (T_X6_bad (-2 : Int32) z g) (fun r_31 z_31 g_31 => (r_31, z_31, g_31)))
def O_X6_of_28   (z : Nat → Int32) (g : Nat → Nat → Int32) : Prop := True
set_option maxHeartbeats 4000000 in
set_option maxRecDepth 100000 in
theorem sp_X6_of_28 (Γ : nr_M) (ρ : Nat → Nat) (d : Nat) (X : nr_CX) (hX : nr_Cx Γ ρ X yX6_of cX6_of 3 (some .int) (d + 3))  (z : Nat → Int32) (g : Nat → Nat → Int32) (R0 : Int32 × nr_S) (hR : T_X6_of_28  z g = R0) (hok : O_X6_of_28  z g) : nr_G Γ ρ X 3 (nr_Qi Γ ρ X (fun x u => R0 = (x, u))) 28 [(0, .ref (ρ 20))] [] z g := by
  rw [T_X6_of_28] at hR
  rw [O_X6_of_28] at hok
  refine G_aload_n hX dX6_of_28 rfl rfl ?_
  refine G_bipush (v := (-2 : Int32)) hX dX6_of_29 (by decide) rfl ?_
  refine G_cVi hX dX6_of_31 lv_RX6_82 (sp_X6_bad Γ ρ d (-2 : Int32) z g) (by omega) nr_is_20 rfl rfl (Nat.le_of_ble_eq_true rfl) rfl (fun r_31 u_31 e_31 => ?_)
  obtain ⟨z_31, g_31⟩ := u_31
  rw [e_31, nr_K_mk] at hR
  exact G_iret hX rfl dX6_of_34 rfl hR.symm
def T_X6_of (a1 : Int32) (a2 : Int32) (z : Nat → Int32) (g : Nat → Nat → Int32) : Int32 × nr_S := (if (R_X6_isRoom a1) = 0 then (T_X6_of_28  z g) else (if (R_X6_in (a2).toInt64 (0 : Int64) (7 : Int64)) = 0 then (T_X6_of_28  z g) else ((R_X6_toldOf a1 a2 z g), z, g)))
def O_X6_of (a1 : Int32) (a2 : Int32) (z : Nat → Int32) (g : Nat → Nat → Int32) : Prop := (((R_X6_isRoom a1) = 0 → (O_X6_of_28  z g)) ∧ (¬ ((R_X6_isRoom a1) = 0) → (((R_X6_in (a2).toInt64 (0 : Int64) (7 : Int64)) = 0 → (O_X6_of_28  z g)) ∧ (¬ ((R_X6_in (a2).toInt64 (0 : Int64) (7 : Int64)) = 0) → (O_X6_toldOf a1 a2 z g ∧ True)))))
set_option maxHeartbeats 4000000 in
set_option maxRecDepth 100000 in
theorem sp_X6_of (Γ : nr_M) (ρ : Nat → Nat) (d : Nat) (a1 : Int32) (a2 : Int32) (z : Nat → Int32) (g : Nat → Nat → Int32) (hok : O_X6_of a1 a2 z g) : nr_Si Γ ρ (d + 3) yX6_of cX6_of 3 (some .int) [.ref (ρ 20), .int a1, .int a2] z g (fun x u => (T_X6_of a1 a2 z g) = (x, u)) := by
  refine nr_body_i (lv := [(0, .ref (ρ 20)), (1, .int a1), (2, .int a2)]) (by decide +kernel) (Nat.le_of_ble_eq_true rfl) rfl (fun X hX => ?_)
  generalize hR : (T_X6_of a1 a2 z g) = R0
  rw [T_X6_of] at hR
  rw [O_X6_of] at hok
  refine G_iload_n hX dX6_of_0 rfl rfl ?_
  refine G_fSi hX dX6_of_1 ls_RX6_76 (sp_X6_isRoom Γ ρ d a1 z g) (by omega) rfl rfl (Nat.le_of_ble_eq_true rfl) rfl ?_
  refine G_if_eq (tg := 28) hX dX6_of_4 (by decide) rfl (fun (h_4 : (R_X6_isRoom a1) = 0) => ?_) (fun (h_4 : ¬ ((R_X6_isRoom a1) = 0)) => ?_)
  · rw [if_pos h_4] at hR
    replace hok := hok.1 h_4
    exact nr_sub (by exact ⟨rfl, trivial⟩) (sp_X6_of_28 Γ ρ d X hX z g R0 hR hok)
  · rw [if_neg h_4] at hR
    replace hok := hok.2 h_4
    refine G_iload_n hX dX6_of_7 rfl rfl ?_
    refine G_i2l hX dX6_of_8 rfl ?_
    refine G_lconst (v := (0 : Int64)) hX dX6_of_9 (by decide) rfl ?_
    refine G_ldc2 (v := (7 : Int64)) hX dX6_of_10 wk_RX6_60 rfl ?_
    refine G_fSi hX dX6_of_13 ls_RX6_62 (sp_X6_in Γ ρ d (a2).toInt64 (0 : Int64) (7 : Int64) z g) (by omega) rfl rfl (Nat.le_of_ble_eq_true rfl) rfl ?_
    refine G_if_eq (tg := 28) hX dX6_of_16 (by decide) rfl (fun (h_16 : (R_X6_in (a2).toInt64 (0 : Int64) (7 : Int64)) = 0) => ?_) (fun (h_16 : ¬ ((R_X6_in (a2).toInt64 (0 : Int64) (7 : Int64)) = 0)) => ?_)
    · rw [if_pos h_16] at hR
      replace hok := hok.1 h_16
      exact nr_sub (by exact ⟨rfl, trivial⟩) (sp_X6_of_28 Γ ρ d X hX z g R0 hR hok)
    · rw [if_neg h_16] at hR
      replace hok := hok.2 h_16
      refine G_aload_n hX dX6_of_19 rfl rfl ?_
      refine G_iload_n hX dX6_of_20 rfl rfl ?_
      refine G_iload_n hX dX6_of_21 rfl rfl ?_
      obtain ⟨ho_22, hok⟩ := hok
      refine G_fVi hX dX6_of_22 lv_RX6_96 (sp_X6_toldOf Γ ρ d a1 a2 z g ho_22) (by omega) nr_is_20 rfl rfl (Nat.le_of_ble_eq_true rfl) rfl ?_
      refine G_goto (tg := 34) hX dX6_of_25 (by decide) ?_
      exact G_iret hX rfl dX6_of_34 rfl hR.symm
def T_X6_keys_19   (z : Nat → Int32) (g : Nat → Nat → Int32) : Int32 × nr_S := (nr_K (T_X6_bad (-2 : Int32) z g) (fun r_22 z_22 g_22 => (r_22, z_22, g_22)))
def O_X6_keys_19   (z : Nat → Int32) (g : Nat → Nat → Int32) : Prop := True
set_option maxHeartbeats 4000000 in
set_option maxRecDepth 100000 in
theorem sp_X6_keys_19 (Γ : nr_M) (ρ : Nat → Nat) (d : Nat) (X : nr_CX) (hX : nr_Cx Γ ρ X yX6_keys cX6_keys 3 (some .int) (d + 1))  (z : Nat → Int32) (g : Nat → Nat → Int32) (R0 : Int32 × nr_S) (hR : T_X6_keys_19  z g = R0) (hok : O_X6_keys_19  z g) : nr_G Γ ρ X 3 (nr_Qi Γ ρ X (fun x u => R0 = (x, u))) 19 [(0, .ref (ρ 20))] [] z g := by
  rw [T_X6_keys_19] at hR
  rw [O_X6_keys_19] at hok
  refine G_aload_n hX dX6_keys_19 rfl rfl ?_
  refine G_bipush (v := (-2 : Int32)) hX dX6_keys_20 (by decide) rfl ?_
  refine G_cVi hX dX6_keys_22 lv_RX6_82 (sp_X6_bad Γ ρ d (-2 : Int32) z g) (by omega) nr_is_20 rfl rfl (Nat.le_of_ble_eq_true rfl) rfl (fun r_22 u_22 e_22 => ?_)
  obtain ⟨z_22, g_22⟩ := u_22
  rw [e_22, nr_K_mk] at hR
  exact G_iret hX rfl dX6_keys_25 rfl hR.symm
def T_X6_keys (a1 : Int32) (z : Nat → Int32) (g : Nat → Nat → Int32) : Int32 × nr_S := (if (R_X6_in (a1).toInt64 (0 : Int64) (14 : Int64)) = 0 then (T_X6_keys_19  z g) else (if (nr_rem a1 (2 : Int32)) = (1 : Int32) then (T_X6_keys_19  z g) else (nr_K (T_X6_night z g) (fun r_27 z_27 g_27 => ((g_27 21 ((56 : Int32)).toNatClampNeg), z_27, (nr_st g_27 21 (56 : Int32) a1))))))
def O_X6_keys (a1 : Int32) (z : Nat → Int32) (g : Nat → Nat → Int32) : Prop := (((R_X6_in (a1).toInt64 (0 : Int64) (14 : Int64)) = 0 → (O_X6_keys_19  z g)) ∧ (¬ ((R_X6_in (a1).toInt64 (0 : Int64) (14 : Int64)) = 0) → (((nr_rem a1 (2 : Int32)) = (1 : Int32) → (O_X6_keys_19  z g)) ∧ (¬ ((nr_rem a1 (2 : Int32)) = (1 : Int32)) → ((O_X6_night z g ∧ True))))))
set_option maxHeartbeats 4000000 in
set_option maxRecDepth 100000 in
theorem sp_X6_keys (Γ : nr_M) (ρ : Nat → Nat) (d : Nat) (a1 : Int32) (z : Nat → Int32) (g : Nat → Nat → Int32) (hok : O_X6_keys a1 z g) : nr_Si Γ ρ (d + 1) yX6_keys cX6_keys 3 (some .int) [.ref (ρ 20), .int a1] z g (fun x u => (T_X6_keys a1 z g) = (x, u)) := by
  refine nr_body_i (lv := [(0, .ref (ρ 20)), (1, .int a1)]) (by decide +kernel) (Nat.le_of_ble_eq_true rfl) rfl (fun X hX => ?_)
  generalize hR : (T_X6_keys a1 z g) = R0
  rw [T_X6_keys] at hR
  rw [O_X6_keys] at hok
  refine G_iload_n hX dX6_keys_0 rfl rfl ?_
  refine G_i2l hX dX6_keys_1 rfl ?_
  refine G_lconst (v := (0 : Int64)) hX dX6_keys_2 (by decide) rfl ?_
  refine G_ldc2 (v := (14 : Int64)) hX dX6_keys_3 wk_RX6_99 rfl ?_
  refine G_fSi hX dX6_keys_6 ls_RX6_62 (sp_X6_in Γ ρ d (a1).toInt64 (0 : Int64) (14 : Int64) z g) (by omega) rfl rfl (Nat.le_of_ble_eq_true rfl) rfl ?_
  refine G_if_eq (tg := 19) hX dX6_keys_9 (by decide) rfl (fun (h_9 : (R_X6_in (a1).toInt64 (0 : Int64) (14 : Int64)) = 0) => ?_) (fun (h_9 : ¬ ((R_X6_in (a1).toInt64 (0 : Int64) (14 : Int64)) = 0)) => ?_)
  · rw [if_pos h_9] at hR
    replace hok := hok.1 h_9
    exact nr_sub (by exact ⟨rfl, trivial⟩) (sp_X6_keys_19 Γ ρ d X hX z g R0 hR hok)
  · rw [if_neg h_9] at hR
    replace hok := hok.2 h_9
    refine G_iload_n hX dX6_keys_12 rfl rfl ?_
    refine G_iconst (v := (2 : Int32)) hX dX6_keys_13 (by decide) rfl ?_
    refine G_irem hX dX6_keys_14 (by decide) rfl ?_
    refine G_iconst (v := (1 : Int32)) hX dX6_keys_15 (by decide) rfl ?_
    refine G_icmp_ne (tg := 26) hX dX6_keys_16 (by decide) rfl (fun (h_16 : ¬ ((nr_rem a1 (2 : Int32)) = (1 : Int32))) => ?_) (fun (h_16 : (nr_rem a1 (2 : Int32)) = (1 : Int32)) => ?_)
    · rw [if_neg h_16] at hR
      replace hok := hok.2 h_16
      refine G_aload_n hX dX6_keys_26 rfl rfl ?_
      obtain ⟨ho_27, hok⟩ := hok
      refine G_cVv hX dX6_keys_27 lv_RX6_86 (sp_X6_night Γ ρ d z g ho_27) (by omega) nr_is_20 rfl rfl (Nat.le_of_ble_eq_true rfl) rfl (fun u_27 e_27 => ?_)
      obtain ⟨z_27, g_27⟩ := u_27
      rw [e_27, nr_K_mk] at hR
      refine G_aload_n hX dX6_keys_30 rfl rfl ?_
      refine G_getr hX dX6_keys_31 gt_RX6_7 rfl ?_
      refine G_bipush (v := (56 : Int32)) hX dX6_keys_34 (by decide) rfl ?_
      refine G_iald hX dX6_keys_36 (rfl : nr_il 21 = 58) (by decide) (by unfold vp_in; decide) rfl ?_
      refine G_istore_n hX dX6_keys_37 (by decide) rfl rfl ?_
      refine G_aload_n hX dX6_keys_38 rfl rfl ?_
      refine G_getr hX dX6_keys_39 gt_RX6_7 rfl ?_
      refine G_bipush (v := (56 : Int32)) hX dX6_keys_42 (by decide) rfl ?_
      refine G_iload_n hX dX6_keys_44 rfl rfl ?_
      refine G_ist hX dX6_keys_45 (rfl : nr_il 21 = 58) (by decide) (by unfold vp_in; decide) rfl ?_
      refine G_iload_n hX dX6_keys_46 rfl rfl ?_
      exact G_iret hX rfl dX6_keys_47 rfl hR.symm
    · rw [if_pos h_16] at hR
      replace hok := hok.1 h_16
      exact nr_sub (by exact ⟨rfl, trivial⟩) (sp_X6_keys_19 Γ ρ d X hX z g R0 hR hok)
def R_X6_awake_4  : Nat → Int32 → Int32 → (Nat → Int32) → (Nat → Nat → Int32) → Int32
  | 0, _, _, z, g => 0
  | n + 1, a1, a2, z, g => (if (8 : Int32) ≤ a2 then a1 else (R_X6_awake_4 n (a1 + (R_X6_toldOf a2 (4 : Int32) z g)) (a2 + (1 : Int32)) z g))
def O_X6_awake_4  : Nat → Int32 → Int32 → (Nat → Int32) → (Nat → Nat → Int32) → Prop
  | 0, _, _, _, _ => False
  | n + 1, a1, a2, z, g => (((8 : Int32) ≤ a2 → True) ∧ (¬ ((8 : Int32) ≤ a2) → (O_X6_toldOf a2 (4 : Int32) z g ∧ (O_X6_awake_4 n (a1 + (R_X6_toldOf a2 (4 : Int32) z g)) (a2 + (1 : Int32)) z g))))
set_option maxHeartbeats 4000000 in
set_option maxRecDepth 100000 in
theorem sp_X6_awake_4 (Γ : nr_M) (ρ : Nat → Nat) (d : Nat) (X : nr_CX) (hX : nr_Cx Γ ρ X yX6_awake cX6_awake 3 (some .int) (d + 3)) : ∀ (n : Nat) (a1 : Int32) (a2 : Int32) (z : Nat → Int32) (g : Nat → Nat → Int32) (R0 : Int32) (_ : R_X6_awake_4 n a1 a2 z g = R0) (_ : O_X6_awake_4 n a1 a2 z g), nr_G Γ ρ X 3 (nr_Qi Γ ρ X (fun x u => x = R0 ∧ u = (z, g))) 4 [(0, .ref (ρ 20)), (1, .int a1), (2, .int a2)] [] z g := by
  intro n
  induction n with
  | zero => intro a1 a2 z g R0 hR hok; exact False.elim hok
  | succ n ih =>
    intro a1 a2 z g R0 hR hok
    rw [R_X6_awake_4] at hR
    rw [O_X6_awake_4] at hok
    refine G_iload_n hX dX6_awake_4 rfl rfl ?_
    refine G_bipush (v := (8 : Int32)) hX dX6_awake_5 (by decide) rfl ?_
    refine G_icmp_ge (tg := 25) hX dX6_awake_7 (by decide) rfl (fun (h_7 : (8 : Int32) ≤ a2) => ?_) (fun (h_7 : ¬ ((8 : Int32) ≤ a2)) => ?_)
    · rw [if_pos h_7] at hR
      replace hok := hok.1 h_7
      refine G_iload_n hX dX6_awake_25 rfl rfl ?_
      exact G_iret hX rfl dX6_awake_26 rfl ⟨hR, rfl⟩
    · rw [if_neg h_7] at hR
      replace hok := hok.2 h_7
      refine G_iload_n hX dX6_awake_10 rfl rfl ?_
      refine G_aload_n hX dX6_awake_11 rfl rfl ?_
      refine G_iload_n hX dX6_awake_12 rfl rfl ?_
      refine G_iconst (v := (4 : Int32)) hX dX6_awake_13 (by decide) rfl ?_
      obtain ⟨ho_14, hok⟩ := hok
      refine G_fVi hX dX6_awake_14 lv_RX6_96 (sp_X6_toldOf Γ ρ d a2 (4 : Int32) z g ho_14) (by omega) nr_is_20 rfl rfl (Nat.le_of_ble_eq_true rfl) rfl ?_
      refine G_iadd hX dX6_awake_17 rfl ?_
      refine G_istore_n hX dX6_awake_18 (by decide) rfl rfl ?_
      refine G_iinc (v := (a2 + (1 : Int32))) hX dX6_awake_19 rfl rfl (by decide) rfl rfl ?_
      refine G_goto (tg := 4) hX dX6_awake_22 (by decide) ?_
      exact nr_sub (by exact ⟨rfl, rfl, rfl, trivial⟩) (ih (a1 + (R_X6_toldOf a2 (4 : Int32) z g)) (a2 + (1 : Int32)) z g R0 hR hok)
def R_X6_awake  (z : Nat → Int32) (g : Nat → Nat → Int32) : Int32 := (R_X6_awake_4 500 (0 : Int32) (0 : Int32) z g)
def O_X6_awake  (z : Nat → Int32) (g : Nat → Nat → Int32) : Prop := (O_X6_awake_4 500 (0 : Int32) (0 : Int32) z g)
set_option maxHeartbeats 4000000 in
set_option maxRecDepth 100000 in
theorem sp_X6_awake (Γ : nr_M) (ρ : Nat → Nat) (d : Nat) (z : Nat → Int32) (g : Nat → Nat → Int32) (hok : O_X6_awake z g) : nr_Si Γ ρ (d + 3) yX6_awake cX6_awake 3 (some .int) [.ref (ρ 20)] z g (fun x u => x = (R_X6_awake z g) ∧ u = (z, g)) := by
  refine nr_body_i (lv := [(0, .ref (ρ 20))]) (by decide +kernel) (Nat.le_of_ble_eq_true rfl) rfl (fun X hX => ?_)
  generalize hR : (R_X6_awake z g) = R0
  rw [R_X6_awake] at hR
  rw [O_X6_awake] at hok
  refine G_iconst (v := (0 : Int32)) hX dX6_awake_0 (by decide) rfl ?_
  refine G_istore_n hX dX6_awake_1 (by decide) rfl rfl ?_
  refine G_iconst (v := (0 : Int32)) hX dX6_awake_2 (by decide) rfl ?_
  refine G_istore_n hX dX6_awake_3 (by decide) rfl rfl ?_
  exact nr_sub (by exact ⟨rfl, rfl, rfl, trivial⟩) (sp_X6_awake_4 Γ ρ d X hX 500 (0 : Int32) (0 : Int32) z g R0 hR hok)
def T_X6_dusk_11  : Nat → Int32 → Int32 → (Nat → Int32) → (Nat → Nat → Int32) → Int32 × nr_S
  | 0, _, _, z, g => (0, z, g)
  | n + 1, a1, a2, z, g => (if (8 : Int32) ≤ a2 then (a1, z, g) else (nr_K (T_X6_put a2 (4 : Int32) (0 : Int32) z g) (fun r_21 z_21 g_21 => (nr_K (T_X6_put a2 (5 : Int32) (0 : Int32) z_21 g_21) (fun r_28 z_28 g_28 => (T_X6_dusk_11 n a1 (a2 + (1 : Int32)) z_28 g_28))))))
def O_X6_dusk_11  : Nat → Int32 → Int32 → (Nat → Int32) → (Nat → Nat → Int32) → Prop
  | 0, _, _, _, _ => False
  | n + 1, a1, a2, z, g => (((8 : Int32) ≤ a2 → True) ∧ (¬ ((8 : Int32) ≤ a2) → ((O_X6_put a2 (4 : Int32) (0 : Int32) z g ∧ nr_KP (T_X6_put a2 (4 : Int32) (0 : Int32) z g) (fun r_21 z_21 g_21 => ((O_X6_put a2 (5 : Int32) (0 : Int32) z_21 g_21 ∧ nr_KP (T_X6_put a2 (5 : Int32) (0 : Int32) z_21 g_21) (fun r_28 z_28 g_28 => (O_X6_dusk_11 n a1 (a2 + (1 : Int32)) z_28 g_28)))))))))
set_option maxHeartbeats 4000000 in
set_option maxRecDepth 100000 in
theorem sp_X6_dusk_11 (Γ : nr_M) (ρ : Nat → Nat) (d : Nat) (X : nr_CX) (hX : nr_Cx Γ ρ X yX6_dusk cX6_dusk 3 (some .int) (d + 4)) : ∀ (n : Nat) (a1 : Int32) (a2 : Int32) (z : Nat → Int32) (g : Nat → Nat → Int32) (R0 : Int32 × nr_S) (_ : T_X6_dusk_11 n a1 a2 z g = R0) (_ : O_X6_dusk_11 n a1 a2 z g), nr_G Γ ρ X 3 (nr_Qi Γ ρ X (fun x u => R0 = (x, u))) 11 [(0, .ref (ρ 20)), (1, .int a1), (2, .int a2)] [] z g := by
  intro n
  induction n with
  | zero => intro a1 a2 z g R0 hR hok; exact False.elim hok
  | succ n ih =>
    intro a1 a2 z g R0 hR hok
    rw [T_X6_dusk_11] at hR
    rw [O_X6_dusk_11] at hok
    refine G_iload_n hX dX6_dusk_11 rfl rfl ?_
    refine G_bipush (v := (8 : Int32)) hX dX6_dusk_12 (by decide) rfl ?_
    refine G_icmp_ge (tg := 37) hX dX6_dusk_14 (by decide) rfl (fun (h_14 : (8 : Int32) ≤ a2) => ?_) (fun (h_14 : ¬ ((8 : Int32) ≤ a2)) => ?_)
    · rw [if_pos h_14] at hR
      replace hok := hok.1 h_14
      refine G_iload_n hX dX6_dusk_37 rfl rfl ?_
      exact G_iret hX rfl dX6_dusk_38 rfl hR.symm
    · rw [if_neg h_14] at hR
      replace hok := hok.2 h_14
      refine G_aload_n hX dX6_dusk_17 rfl rfl ?_
      refine G_iload_n hX dX6_dusk_18 rfl rfl ?_
      refine G_iconst (v := (4 : Int32)) hX dX6_dusk_19 (by decide) rfl ?_
      refine G_iconst (v := (0 : Int32)) hX dX6_dusk_20 (by decide) rfl ?_
      obtain ⟨ho_21, hok⟩ := hok
      refine G_cVv hX dX6_dusk_21 lv_RX6_89 (sp_X6_put Γ ρ d a2 (4 : Int32) (0 : Int32) z g ho_21) (by omega) nr_is_20 rfl rfl (Nat.le_of_ble_eq_true rfl) rfl (fun u_21 e_21 => ?_)
      obtain ⟨z_21, g_21⟩ := u_21
      rw [e_21, nr_K_mk] at hR
      rw [e_21, nr_KP_mk] at hok
      refine G_aload_n hX dX6_dusk_24 rfl rfl ?_
      refine G_iload_n hX dX6_dusk_25 rfl rfl ?_
      refine G_iconst (v := (5 : Int32)) hX dX6_dusk_26 (by decide) rfl ?_
      refine G_iconst (v := (0 : Int32)) hX dX6_dusk_27 (by decide) rfl ?_
      obtain ⟨ho_28, hok⟩ := hok
      refine G_cVv hX dX6_dusk_28 lv_RX6_89 (sp_X6_put Γ ρ d a2 (5 : Int32) (0 : Int32) z_21 g_21 ho_28) (by omega) nr_is_20 rfl rfl (Nat.le_of_ble_eq_true rfl) rfl (fun u_28 e_28 => ?_)
      obtain ⟨z_28, g_28⟩ := u_28
      rw [e_28, nr_K_mk] at hR
      rw [e_28, nr_KP_mk] at hok
      refine G_iinc (v := (a2 + (1 : Int32))) hX dX6_dusk_31 rfl rfl (by decide) rfl rfl ?_
      refine G_goto (tg := 11) hX dX6_dusk_34 (by decide) ?_
      exact nr_sub (by exact ⟨rfl, rfl, rfl, trivial⟩) (ih a1 (a2 + (1 : Int32)) z_28 g_28 R0 hR hok)
def T_X6_dusk  (z : Nat → Int32) (g : Nat → Nat → Int32) : Int32 × nr_S := (nr_K (T_X6_night z g) (fun r_6 z_6 g_6 => (T_X6_dusk_11 500 (R_X6_awake z g) (0 : Int32) z_6 g_6)))
def O_X6_dusk  (z : Nat → Int32) (g : Nat → Nat → Int32) : Prop := (O_X6_awake z g ∧ ((O_X6_night z g ∧ nr_KP (T_X6_night z g) (fun r_6 z_6 g_6 => (O_X6_dusk_11 500 (R_X6_awake z g) (0 : Int32) z_6 g_6)))))
set_option maxHeartbeats 4000000 in
set_option maxRecDepth 100000 in
theorem sp_X6_dusk (Γ : nr_M) (ρ : Nat → Nat) (d : Nat) (z : Nat → Int32) (g : Nat → Nat → Int32) (hok : O_X6_dusk z g) : nr_Si Γ ρ (d + 4) yX6_dusk cX6_dusk 3 (some .int) [.ref (ρ 20)] z g (fun x u => (T_X6_dusk z g) = (x, u)) := by
  refine nr_body_i (lv := [(0, .ref (ρ 20))]) (by decide +kernel) (Nat.le_of_ble_eq_true rfl) rfl (fun X hX => ?_)
  generalize hR : (T_X6_dusk z g) = R0
  rw [T_X6_dusk] at hR
  rw [O_X6_dusk] at hok
  refine G_aload_n hX dX6_dusk_0 rfl rfl ?_
  obtain ⟨ho_1, hok⟩ := hok
  refine G_fVi hX dX6_dusk_1 lv_RX6_101 (sp_X6_awake Γ ρ d z g ho_1) (by omega) nr_is_20 rfl rfl (Nat.le_of_ble_eq_true rfl) rfl ?_
  refine G_istore_n hX dX6_dusk_4 (by decide) rfl rfl ?_
  refine G_aload_n hX dX6_dusk_5 rfl rfl ?_
  obtain ⟨ho_6, hok⟩ := hok
  refine G_cVv hX dX6_dusk_6 lv_RX6_86 (sp_X6_night Γ ρ d z g ho_6) (by omega) nr_is_20 rfl rfl (Nat.le_of_ble_eq_true rfl) rfl (fun u_6 e_6 => ?_)
  obtain ⟨z_6, g_6⟩ := u_6
  rw [e_6, nr_K_mk] at hR
  rw [e_6, nr_KP_mk] at hok
  refine G_iconst (v := (0 : Int32)) hX dX6_dusk_9 (by decide) rfl ?_
  refine G_istore_n hX dX6_dusk_10 (by decide) rfl rfl ?_
  exact nr_sub (by exact ⟨rfl, rfl, rfl, trivial⟩) (sp_X6_dusk_11 Γ ρ d X hX 500 (R_X6_awake z g) (0 : Int32) z_6 g_6 R0 hR hok)
def T_X6_full  (z : Nat → Int32) (g : Nat → Nat → Int32) : Int32 × nr_S := ((-4 : Int32), z, (nr_st g 23 (2 : Int32) ((g 23 ((2 : Int32)).toNatClampNeg) + (1 : Int32))))
set_option maxHeartbeats 4000000 in
set_option maxRecDepth 100000 in
theorem sp_X6_full (Γ : nr_M) (ρ : Nat → Nat) (d : Nat) (z : Nat → Int32) (g : Nat → Nat → Int32) : nr_Si Γ ρ (d + 0) yX6_full cX6_full 1 (some .int) [.ref (ρ 20)] z g (fun x u => (T_X6_full z g) = (x, u)) := by
  refine nr_body_i (lv := [(0, .ref (ρ 20))]) (by decide +kernel) (Nat.le_of_ble_eq_true rfl) rfl (fun X hX => ?_)
  generalize hR : (T_X6_full z g) = R0
  rw [T_X6_full] at hR
  refine G_aload_n hX dX6_full_0 rfl rfl ?_
  refine G_getr hX dX6_full_1 gt_RX6_16 rfl ?_
  refine G_iconst (v := (2 : Int32)) hX dX6_full_4 (by decide) rfl ?_
  refine G_dup2 hX dX6_full_5 rfl rfl rfl ?_
  refine G_iald hX dX6_full_6 (rfl : nr_il 23 = 3) (by decide) (by unfold vp_in; decide) rfl ?_
  refine G_iconst (v := (1 : Int32)) hX dX6_full_7 (by decide) rfl ?_
  refine G_iadd hX dX6_full_8 rfl ?_
  refine G_ist hX dX6_full_9 (rfl : nr_il 23 = 3) (by decide) (by unfold vp_in; decide) rfl ?_
  refine G_bipush (v := (-4 : Int32)) hX dX6_full_10 (by decide) rfl ?_
  exact G_iret hX rfl dX6_full_12 rfl hR.symm
def T_X6_type (a1 : Int32) (z : Nat → Int32) (g : Nat → Nat → Int32) : Int32 × nr_S := (if (R_X6_in (a1).toInt64 (0 : Int64) (127 : Int64)) = 0 then (nr_K (T_X6_bad (-2 : Int32) z g) (fun r_15 z_15 g_15 => (r_15, z_15, g_15))) else (if (z 21) = (100 : Int32) then (nr_K (T_X6_full z g) (fun r_29 z_29 g_29 => (r_29, z_29, g_29))) else (((z 21) + (1 : Int32)), (va_up z 21 ((z 21) + (1 : Int32))), (nr_st g 24 (z 21) a1))))
def O_X6_type (a1 : Int32) (z : Nat → Int32) (g : Nat → Nat → Int32) : Prop := (((R_X6_in (a1).toInt64 (0 : Int64) (127 : Int64)) = 0 → True) ∧ (¬ ((R_X6_in (a1).toInt64 (0 : Int64) (127 : Int64)) = 0) → (((z 21) = (100 : Int32) → True) ∧ (¬ ((z 21) = (100 : Int32)) → (vp_in (z 21) 100 ∧ True)))))
set_option maxHeartbeats 4000000 in
set_option maxRecDepth 100000 in
theorem sp_X6_type (Γ : nr_M) (ρ : Nat → Nat) (d : Nat) (a1 : Int32) (z : Nat → Int32) (g : Nat → Nat → Int32) (hok : O_X6_type a1 z g) : nr_Si Γ ρ (d + 1) yX6_type cX6_type 2 (some .int) [.ref (ρ 20), .int a1] z g (fun x u => (T_X6_type a1 z g) = (x, u)) := by
  refine nr_body_i (lv := [(0, .ref (ρ 20)), (1, .int a1)]) (by decide +kernel) (Nat.le_of_ble_eq_true rfl) rfl (fun X hX => ?_)
  generalize hR : (T_X6_type a1 z g) = R0
  rw [T_X6_type] at hR
  rw [O_X6_type] at hok
  refine G_iload_n hX dX6_type_0 rfl rfl ?_
  refine G_i2l hX dX6_type_1 rfl ?_
  refine G_lconst (v := (0 : Int64)) hX dX6_type_2 (by decide) rfl ?_
  refine G_ldc2 (v := (127 : Int64)) hX dX6_type_3 wk_RX6_105 rfl ?_
  refine G_fSi hX dX6_type_6 ls_RX6_62 (sp_X6_in Γ ρ d (a1).toInt64 (0 : Int64) (127 : Int64) z g) (by omega) rfl rfl (Nat.le_of_ble_eq_true rfl) rfl ?_
  refine G_if_ne (tg := 19) hX dX6_type_9 (by decide) rfl (fun (h_9 : ¬ ((R_X6_in (a1).toInt64 (0 : Int64) (127 : Int64)) = 0)) => ?_) (fun (h_9 : (R_X6_in (a1).toInt64 (0 : Int64) (127 : Int64)) = 0) => ?_)
  · rw [if_neg h_9] at hR
    replace hok := hok.2 h_9
    refine G_aload_n hX dX6_type_19 rfl rfl ?_
    refine G_geti hX dX6_type_20 gt_RX6_107 rfl ?_
    refine G_bipush (v := (100 : Int32)) hX dX6_type_23 (by decide) rfl ?_
    refine G_icmp_ne (tg := 33) hX dX6_type_25 (by decide) rfl (fun (h_25 : ¬ ((z 21) = (100 : Int32))) => ?_) (fun (h_25 : (z 21) = (100 : Int32)) => ?_)
    · rw [if_neg h_25] at hR
      replace hok := hok.2 h_25
      refine G_aload_n hX dX6_type_33 rfl rfl ?_
      refine G_getr hX dX6_type_34 gt_RX6_19 rfl ?_
      refine G_aload_n hX dX6_type_37 rfl rfl ?_
      refine G_geti hX dX6_type_38 gt_RX6_107 rfl ?_
      refine G_iload_n hX dX6_type_41 rfl rfl ?_
      obtain ⟨hi_42, hok⟩ := hok
      refine G_ist hX dX6_type_42 (rfl : nr_il 24 = 100) (by decide) hi_42 rfl ?_
      refine G_aload_n hX dX6_type_43 rfl rfl ?_
      refine G_dup hX dX6_type_44 rfl rfl ?_
      refine G_geti hX dX6_type_45 gt_RX6_107 rfl ?_
      refine G_iconst (v := (1 : Int32)) hX dX6_type_48 (by decide) rfl ?_
      refine G_iadd hX dX6_type_49 rfl ?_
      refine G_put hX dX6_type_50 pt_RX6_107 rfl rfl rfl ?_
      refine G_aload_n hX dX6_type_53 rfl rfl ?_
      refine G_geti hX dX6_type_54 gt_RX6_107 rfl ?_
      exact G_iret hX rfl dX6_type_57 rfl hR.symm
    · rw [if_pos h_25] at hR
      replace hok := hok.1 h_25
      refine G_aload_n hX dX6_type_28 rfl rfl ?_
      refine G_cVi hX dX6_type_29 lv_RX6_110 (sp_X6_full Γ ρ d z g) (by omega) nr_is_20 rfl rfl (Nat.le_of_ble_eq_true rfl) rfl (fun r_29 u_29 e_29 => ?_)
      obtain ⟨z_29, g_29⟩ := u_29
      rw [e_29, nr_K_mk] at hR
      exact G_iret hX rfl dX6_type_32 rfl hR.symm
  · rw [if_pos h_9] at hR
    replace hok := hok.1 h_9
    refine G_aload_n hX dX6_type_12 rfl rfl ?_
    refine G_bipush (v := (-2 : Int32)) hX dX6_type_13 (by decide) rfl ?_
    refine G_cVi hX dX6_type_15 lv_RX6_82 (sp_X6_bad Γ ρ d (-2 : Int32) z g) (by omega) nr_is_20 rfl rfl (Nat.le_of_ble_eq_true rfl) rfl (fun r_15 u_15 e_15 => ?_)
    obtain ⟨z_15, g_15⟩ := u_15
    rw [e_15, nr_K_mk] at hR
    exact G_iret hX rfl dX6_type_18 rfl hR.symm
def T_X6_clear  (z : Nat → Int32) (g : Nat → Nat → Int32) : Int32 × nr_S := ((z 21), (va_up z 21 (0 : Int32)), g)
set_option maxHeartbeats 4000000 in
set_option maxRecDepth 100000 in
theorem sp_X6_clear (Γ : nr_M) (ρ : Nat → Nat) (d : Nat) (z : Nat → Int32) (g : Nat → Nat → Int32) : nr_Si Γ ρ (d + 0) yX6_clear cX6_clear 2 (some .int) [.ref (ρ 20)] z g (fun x u => (T_X6_clear z g) = (x, u)) := by
  refine nr_body_i (lv := [(0, .ref (ρ 20))]) (by decide +kernel) (Nat.le_of_ble_eq_true rfl) rfl (fun X hX => ?_)
  generalize hR : (T_X6_clear z g) = R0
  rw [T_X6_clear] at hR
  refine G_aload_n hX dX6_clear_0 rfl rfl ?_
  refine G_geti hX dX6_clear_1 gt_RX6_107 rfl ?_
  refine G_istore_n hX dX6_clear_4 (by decide) rfl rfl ?_
  refine G_aload_n hX dX6_clear_5 rfl rfl ?_
  refine G_iconst (v := (0 : Int32)) hX dX6_clear_6 (by decide) rfl ?_
  refine G_put hX dX6_clear_7 pt_RX6_107 rfl rfl rfl ?_
  refine G_iload_n hX dX6_clear_10 rfl rfl ?_
  exact G_iret hX rfl dX6_clear_11 rfl hR.symm
def T_X6_keepsWas_132  : Nat → Int32 → (Nat → Int32) → (Nat → Nat → Int32) → Int32 × nr_S
  | 0, _, z, g => (0, z, g)
  | n + 1, a2, z, g => (if (z 26) ≤ a2 then (0, (va_up z 39 (z 26)), g) else (T_X6_keepsWas_132 n (a2 + (1 : Int32)) z (nr_st g 34 a2 (g 28 (a2).toNatClampNeg))))
def O_X6_keepsWas_132  : Nat → Int32 → (Nat → Int32) → (Nat → Nat → Int32) → Prop
  | 0, _, _, _ => False
  | n + 1, a2, z, g => (((z 26) ≤ a2 → True) ∧ (¬ ((z 26) ≤ a2) → (vp_in a2 150 ∧ (vp_in a2 150 ∧ (O_X6_keepsWas_132 n (a2 + (1 : Int32)) z (nr_st g 34 a2 (g 28 (a2).toNatClampNeg)))))))
set_option maxHeartbeats 4000000 in
set_option maxRecDepth 100000 in
theorem sp_X6_keepsWas_132 (Γ : nr_M) (ρ : Nat → Nat) (d : Nat) (X : nr_CX) (hX : nr_Cx Γ ρ X yX6_keepsWas cX6_keepsWas 3 none (d + 0)) : ∀ (n : Nat) (a2 : Int32) (z : Nat → Int32) (g : Nat → Nat → Int32) (R0 : Int32 × nr_S) (_ : T_X6_keepsWas_132 n a2 z g = R0) (_ : O_X6_keepsWas_132 n a2 z g), nr_G Γ ρ X 3 (nr_Qv Γ ρ X (fun u => R0 = (0, u))) 132 [(0, .ref (ρ 20)), (2, .int a2)] [] z g := by
  intro n
  induction n with
  | zero => intro a2 z g R0 hR hok; exact False.elim hok
  | succ n ih =>
    intro a2 z g R0 hR hok
    rw [T_X6_keepsWas_132] at hR
    rw [O_X6_keepsWas_132] at hok
    refine G_iload_n hX dX6_keepsWas_132 rfl rfl ?_
    refine G_aload_n hX dX6_keepsWas_133 rfl rfl ?_
    refine G_geti hX dX6_keepsWas_134 gt_RX6_142 rfl ?_
    refine G_icmp_ge (tg := 158) hX dX6_keepsWas_137 (by decide) rfl (fun (h_137 : (z 26) ≤ a2) => ?_) (fun (h_137 : ¬ ((z 26) ≤ a2)) => ?_)
    · rw [if_pos h_137] at hR
      replace hok := hok.1 h_137
      refine G_aload_n hX dX6_keepsWas_158 rfl rfl ?_
      refine G_aload_n hX dX6_keepsWas_159 rfl rfl ?_
      refine G_geti hX dX6_keepsWas_160 gt_RX6_142 rfl ?_
      refine G_put hX dX6_keepsWas_163 pt_RX6_229 rfl rfl rfl ?_
      exact G_vret hX dX6_keepsWas_166 hR.symm
    · rw [if_neg h_137] at hR
      replace hok := hok.2 h_137
      refine G_aload_n hX dX6_keepsWas_140 rfl rfl ?_
      refine G_getr hX dX6_keepsWas_141 gt_RX6_54 rfl ?_
      refine G_iload_n hX dX6_keepsWas_144 rfl rfl ?_
      refine G_aload_n hX dX6_keepsWas_145 rfl rfl ?_
      refine G_getr hX dX6_keepsWas_146 gt_RX6_31 rfl ?_
      refine G_iload_n hX dX6_keepsWas_149 rfl rfl ?_
      obtain ⟨hi_150, hok⟩ := hok
      refine G_iald hX dX6_keepsWas_150 (rfl : nr_il 28 = 150) (by decide) hi_150 rfl ?_
      obtain ⟨hi_151, hok⟩ := hok
      refine G_ist hX dX6_keepsWas_151 (rfl : nr_il 34 = 150) (by decide) hi_151 rfl ?_
      refine G_iinc (v := (a2 + (1 : Int32))) hX dX6_keepsWas_152 rfl rfl (by decide) rfl rfl ?_
      refine G_goto (tg := 132) hX dX6_keepsWas_155 (by decide) ?_
      exact nr_sub (by exact ⟨rfl, rfl, trivial⟩) (ih (a2 + (1 : Int32)) z (nr_st g 34 a2 (g 28 (a2).toNatClampNeg)) R0 hR hok)
def T_X6_keepsWas_127  (s1 : Int32) (z : Nat → Int32) (g : Nat → Nat → Int32) : Int32 × nr_S := (T_X6_keepsWas_132 500 (0 : Int32) (va_up z 38 s1) g)
def O_X6_keepsWas_127  (s1 : Int32) (z : Nat → Int32) (g : Nat → Nat → Int32) : Prop := (O_X6_keepsWas_132 500 (0 : Int32) (va_up z 38 s1) g)
set_option maxHeartbeats 4000000 in
set_option maxRecDepth 100000 in
theorem sp_X6_keepsWas_127 (Γ : nr_M) (ρ : Nat → Nat) (d : Nat) (X : nr_CX) (hX : nr_Cx Γ ρ X yX6_keepsWas cX6_keepsWas 3 none (d + 0)) (s1 : Int32) (z : Nat → Int32) (g : Nat → Nat → Int32) (R0 : Int32 × nr_S) (hR : T_X6_keepsWas_127 s1 z g = R0) (hok : O_X6_keepsWas_127 s1 z g) : nr_G Γ ρ X 3 (nr_Qv Γ ρ X (fun u => R0 = (0, u))) 127 [(0, .ref (ρ 20))] [.int s1, .ref (ρ 20)] z g := by
  rw [T_X6_keepsWas_127] at hR
  rw [O_X6_keepsWas_127] at hok
  refine G_put hX dX6_keepsWas_127 pt_RX6_50 rfl rfl rfl ?_
  refine G_iconst (v := (0 : Int32)) hX dX6_keepsWas_130 (by decide) rfl ?_
  refine G_istore_n hX dX6_keepsWas_131 (by decide) rfl rfl ?_
  exact nr_sub (by exact ⟨rfl, rfl, trivial⟩) (sp_X6_keepsWas_132 Γ ρ d X hX 500 (0 : Int32) (va_up z 38 s1) g R0 hR hok)
def T_X6_keepsWas_67  (a1 : Int32) (s1 : Int32) (s2 : Int32) (z : Nat → Int32) (g : Nat → Nat → Int32) : Int32 × nr_S := (if a1 = (5 : Int32) then (T_X6_keepsWas_127 (z 34) z (nr_st (nr_st (nr_st (nr_st (nr_st g 33 s1 s2) 33 (4 : Int32) (z 27)) 33 (5 : Int32) ((nr_st (nr_st g 33 s1 s2) 33 (4 : Int32) (z 27)) 21 ((57 : Int32)).toNatClampNeg)) 33 (6 : Int32) (z 28)) 33 (7 : Int32) (z 29))) else (T_X6_keepsWas_127 (-1 : Int32) z (nr_st (nr_st (nr_st (nr_st (nr_st g 33 s1 s2) 33 (4 : Int32) (z 27)) 33 (5 : Int32) ((nr_st (nr_st g 33 s1 s2) 33 (4 : Int32) (z 27)) 21 ((57 : Int32)).toNatClampNeg)) 33 (6 : Int32) (z 28)) 33 (7 : Int32) (z 29))))
def O_X6_keepsWas_67  (a1 : Int32) (s1 : Int32) (s2 : Int32) (z : Nat → Int32) (g : Nat → Nat → Int32) : Prop := (vp_in s1 8 ∧ ((a1 = (5 : Int32) → (O_X6_keepsWas_127 (z 34) z (nr_st (nr_st (nr_st (nr_st (nr_st g 33 s1 s2) 33 (4 : Int32) (z 27)) 33 (5 : Int32) ((nr_st (nr_st g 33 s1 s2) 33 (4 : Int32) (z 27)) 21 ((57 : Int32)).toNatClampNeg)) 33 (6 : Int32) (z 28)) 33 (7 : Int32) (z 29)))) ∧ (¬ (a1 = (5 : Int32)) → (O_X6_keepsWas_127 (-1 : Int32) z (nr_st (nr_st (nr_st (nr_st (nr_st g 33 s1 s2) 33 (4 : Int32) (z 27)) 33 (5 : Int32) ((nr_st (nr_st g 33 s1 s2) 33 (4 : Int32) (z 27)) 21 ((57 : Int32)).toNatClampNeg)) 33 (6 : Int32) (z 28)) 33 (7 : Int32) (z 29))))))
set_option maxHeartbeats 4000000 in
set_option maxRecDepth 100000 in
theorem sp_X6_keepsWas_67 (Γ : nr_M) (ρ : Nat → Nat) (d : Nat) (X : nr_CX) (hX : nr_Cx Γ ρ X yX6_keepsWas cX6_keepsWas 3 none (d + 0)) (a1 : Int32) (s1 : Int32) (s2 : Int32) (z : Nat → Int32) (g : Nat → Nat → Int32) (R0 : Int32 × nr_S) (hR : T_X6_keepsWas_67 a1 s1 s2 z g = R0) (hok : O_X6_keepsWas_67 a1 s1 s2 z g) : nr_G Γ ρ X 3 (nr_Qv Γ ρ X (fun u => R0 = (0, u))) 67 [(0, .ref (ρ 20)), (1, .int a1)] [.int s2, .int s1, .ref (ρ 33)] z g := by
  rw [T_X6_keepsWas_67] at hR
  rw [O_X6_keepsWas_67] at hok
  obtain ⟨hi_67, hok⟩ := hok
  refine G_ist hX dX6_keepsWas_67 (rfl : nr_il 33 = 8) (by decide) hi_67 rfl ?_
  refine G_aload_n hX dX6_keepsWas_68 rfl rfl ?_
  refine G_getr hX dX6_keepsWas_69 gt_RX6_47 rfl ?_
  refine G_iconst (v := (4 : Int32)) hX dX6_keepsWas_72 (by decide) rfl ?_
  refine G_aload_n hX dX6_keepsWas_73 rfl rfl ?_
  refine G_geti hX dX6_keepsWas_74 gt_RX6_192 rfl ?_
  refine G_ist hX dX6_keepsWas_77 (rfl : nr_il 33 = 8) (by decide) (by unfold vp_in; decide) rfl ?_
  refine G_aload_n hX dX6_keepsWas_78 rfl rfl ?_
  refine G_getr hX dX6_keepsWas_79 gt_RX6_47 rfl ?_
  refine G_iconst (v := (5 : Int32)) hX dX6_keepsWas_82 (by decide) rfl ?_
  refine G_aload_n hX dX6_keepsWas_83 rfl rfl ?_
  refine G_getr hX dX6_keepsWas_84 gt_RX6_7 rfl ?_
  refine G_bipush (v := (57 : Int32)) hX dX6_keepsWas_87 (by decide) rfl ?_
  refine G_iald hX dX6_keepsWas_89 (rfl : nr_il 21 = 58) (by decide) (by unfold vp_in; decide) rfl ?_
  refine G_ist hX dX6_keepsWas_90 (rfl : nr_il 33 = 8) (by decide) (by unfold vp_in; decide) rfl ?_
  refine G_aload_n hX dX6_keepsWas_91 rfl rfl ?_
  refine G_getr hX dX6_keepsWas_92 gt_RX6_47 rfl ?_
  refine G_bipush (v := (6 : Int32)) hX dX6_keepsWas_95 (by decide) rfl ?_
  refine G_aload_n hX dX6_keepsWas_97 rfl rfl ?_
  refine G_geti hX dX6_keepsWas_98 gt_RX6_186 rfl ?_
  refine G_ist hX dX6_keepsWas_101 (rfl : nr_il 33 = 8) (by decide) (by unfold vp_in; decide) rfl ?_
  refine G_aload_n hX dX6_keepsWas_102 rfl rfl ?_
  refine G_getr hX dX6_keepsWas_103 gt_RX6_47 rfl ?_
  refine G_bipush (v := (7 : Int32)) hX dX6_keepsWas_106 (by decide) rfl ?_
  refine G_aload_n hX dX6_keepsWas_108 rfl rfl ?_
  refine G_geti hX dX6_keepsWas_109 gt_RX6_163 rfl ?_
  refine G_ist hX dX6_keepsWas_112 (rfl : nr_il 33 = 8) (by decide) (by unfold vp_in; decide) rfl ?_
  refine G_aload_n hX dX6_keepsWas_113 rfl rfl ?_
  refine G_iload_n hX dX6_keepsWas_114 rfl rfl ?_
  refine G_iconst (v := (5 : Int32)) hX dX6_keepsWas_115 (by decide) rfl ?_
  refine G_icmp_ne (tg := 126) hX dX6_keepsWas_116 (by decide) rfl (fun (h_116 : ¬ (a1 = (5 : Int32))) => ?_) (fun (h_116 : a1 = (5 : Int32)) => ?_)
  · rw [if_neg h_116] at hR
    replace hok := hok.2 h_116
    refine G_iconst (v := (-1 : Int32)) hX dX6_keepsWas_126 (by decide) rfl ?_
    exact nr_sub (by exact ⟨rfl, trivial⟩) (sp_X6_keepsWas_127 Γ ρ d X hX (-1 : Int32) z (nr_st (nr_st (nr_st (nr_st (nr_st g 33 s1 s2) 33 (4 : Int32) (z 27)) 33 (5 : Int32) ((nr_st (nr_st g 33 s1 s2) 33 (4 : Int32) (z 27)) 21 ((57 : Int32)).toNatClampNeg)) 33 (6 : Int32) (z 28)) 33 (7 : Int32) (z 29)) R0 hR hok)
  · rw [if_pos h_116] at hR
    replace hok := hok.1 h_116
    refine G_aload_n hX dX6_keepsWas_119 rfl rfl ?_
    refine G_geti hX dX6_keepsWas_120 gt_RX6_160 rfl ?_
    refine G_goto (tg := 127) hX dX6_keepsWas_123 (by decide) ?_
    exact nr_sub (by exact ⟨rfl, trivial⟩) (sp_X6_keepsWas_127 Γ ρ d X hX (z 34) z (nr_st (nr_st (nr_st (nr_st (nr_st g 33 s1 s2) 33 (4 : Int32) (z 27)) 33 (5 : Int32) ((nr_st (nr_st g 33 s1 s2) 33 (4 : Int32) (z 27)) 21 ((57 : Int32)).toNatClampNeg)) 33 (6 : Int32) (z 28)) 33 (7 : Int32) (z 29)) R0 hR hok)
def T_X6_keepsWas_48  (a1 : Int32) (s1 : Int32) (s2 : Int32) (z : Nat → Int32) (g : Nat → Nat → Int32) : Int32 × nr_S := (if a1 = (5 : Int32) then (T_X6_keepsWas_67 a1 (3 : Int32) (z 33) z (nr_st g 33 s1 s2)) else (T_X6_keepsWas_67 a1 (3 : Int32) (0 : Int32) z (nr_st g 33 s1 s2)))
def O_X6_keepsWas_48  (a1 : Int32) (s1 : Int32) (s2 : Int32) (z : Nat → Int32) (g : Nat → Nat → Int32) : Prop := (vp_in s1 8 ∧ ((a1 = (5 : Int32) → (O_X6_keepsWas_67 a1 (3 : Int32) (z 33) z (nr_st g 33 s1 s2))) ∧ (¬ (a1 = (5 : Int32)) → (O_X6_keepsWas_67 a1 (3 : Int32) (0 : Int32) z (nr_st g 33 s1 s2)))))
set_option maxHeartbeats 4000000 in
set_option maxRecDepth 100000 in
theorem sp_X6_keepsWas_48 (Γ : nr_M) (ρ : Nat → Nat) (d : Nat) (X : nr_CX) (hX : nr_Cx Γ ρ X yX6_keepsWas cX6_keepsWas 3 none (d + 0)) (a1 : Int32) (s1 : Int32) (s2 : Int32) (z : Nat → Int32) (g : Nat → Nat → Int32) (R0 : Int32 × nr_S) (hR : T_X6_keepsWas_48 a1 s1 s2 z g = R0) (hok : O_X6_keepsWas_48 a1 s1 s2 z g) : nr_G Γ ρ X 3 (nr_Qv Γ ρ X (fun u => R0 = (0, u))) 48 [(0, .ref (ρ 20)), (1, .int a1)] [.int s2, .int s1, .ref (ρ 33)] z g := by
  rw [T_X6_keepsWas_48] at hR
  rw [O_X6_keepsWas_48] at hok
  obtain ⟨hi_48, hok⟩ := hok
  refine G_ist hX dX6_keepsWas_48 (rfl : nr_il 33 = 8) (by decide) hi_48 rfl ?_
  refine G_aload_n hX dX6_keepsWas_49 rfl rfl ?_
  refine G_getr hX dX6_keepsWas_50 gt_RX6_47 rfl ?_
  refine G_iconst (v := (3 : Int32)) hX dX6_keepsWas_53 (by decide) rfl ?_
  refine G_iload_n hX dX6_keepsWas_54 rfl rfl ?_
  refine G_iconst (v := (5 : Int32)) hX dX6_keepsWas_55 (by decide) rfl ?_
  refine G_icmp_ne (tg := 66) hX dX6_keepsWas_56 (by decide) rfl (fun (h_56 : ¬ (a1 = (5 : Int32))) => ?_) (fun (h_56 : a1 = (5 : Int32)) => ?_)
  · rw [if_neg h_56] at hR
    replace hok := hok.2 h_56
    refine G_iconst (v := (0 : Int32)) hX dX6_keepsWas_66 (by decide) rfl ?_
    exact nr_sub (by exact ⟨rfl, rfl, trivial⟩) (sp_X6_keepsWas_67 Γ ρ d X hX a1 (3 : Int32) (0 : Int32) z (nr_st g 33 s1 s2) R0 hR hok)
  · rw [if_pos h_56] at hR
    replace hok := hok.1 h_56
    refine G_aload_n hX dX6_keepsWas_59 rfl rfl ?_
    refine G_geti hX dX6_keepsWas_60 gt_RX6_157 rfl ?_
    refine G_goto (tg := 67) hX dX6_keepsWas_63 (by decide) ?_
    exact nr_sub (by exact ⟨rfl, rfl, trivial⟩) (sp_X6_keepsWas_67 Γ ρ d X hX a1 (3 : Int32) (z 33) z (nr_st g 33 s1 s2) R0 hR hok)
def T_X6_keepsWas_29  (a1 : Int32) (s1 : Int32) (s2 : Int32) (z : Nat → Int32) (g : Nat → Nat → Int32) : Int32 × nr_S := (if a1 = (4 : Int32) then (T_X6_keepsWas_48 a1 (2 : Int32) (z 32) z (nr_st g 33 s1 s2)) else (T_X6_keepsWas_48 a1 (2 : Int32) (-1 : Int32) z (nr_st g 33 s1 s2)))
def O_X6_keepsWas_29  (a1 : Int32) (s1 : Int32) (s2 : Int32) (z : Nat → Int32) (g : Nat → Nat → Int32) : Prop := (vp_in s1 8 ∧ ((a1 = (4 : Int32) → (O_X6_keepsWas_48 a1 (2 : Int32) (z 32) z (nr_st g 33 s1 s2))) ∧ (¬ (a1 = (4 : Int32)) → (O_X6_keepsWas_48 a1 (2 : Int32) (-1 : Int32) z (nr_st g 33 s1 s2)))))
set_option maxHeartbeats 4000000 in
set_option maxRecDepth 100000 in
theorem sp_X6_keepsWas_29 (Γ : nr_M) (ρ : Nat → Nat) (d : Nat) (X : nr_CX) (hX : nr_Cx Γ ρ X yX6_keepsWas cX6_keepsWas 3 none (d + 0)) (a1 : Int32) (s1 : Int32) (s2 : Int32) (z : Nat → Int32) (g : Nat → Nat → Int32) (R0 : Int32 × nr_S) (hR : T_X6_keepsWas_29 a1 s1 s2 z g = R0) (hok : O_X6_keepsWas_29 a1 s1 s2 z g) : nr_G Γ ρ X 3 (nr_Qv Γ ρ X (fun u => R0 = (0, u))) 29 [(0, .ref (ρ 20)), (1, .int a1)] [.int s2, .int s1, .ref (ρ 33)] z g := by
  rw [T_X6_keepsWas_29] at hR
  rw [O_X6_keepsWas_29] at hok
  obtain ⟨hi_29, hok⟩ := hok
  refine G_ist hX dX6_keepsWas_29 (rfl : nr_il 33 = 8) (by decide) hi_29 rfl ?_
  refine G_aload_n hX dX6_keepsWas_30 rfl rfl ?_
  refine G_getr hX dX6_keepsWas_31 gt_RX6_47 rfl ?_
  refine G_iconst (v := (2 : Int32)) hX dX6_keepsWas_34 (by decide) rfl ?_
  refine G_iload_n hX dX6_keepsWas_35 rfl rfl ?_
  refine G_iconst (v := (4 : Int32)) hX dX6_keepsWas_36 (by decide) rfl ?_
  refine G_icmp_ne (tg := 47) hX dX6_keepsWas_37 (by decide) rfl (fun (h_37 : ¬ (a1 = (4 : Int32))) => ?_) (fun (h_37 : a1 = (4 : Int32)) => ?_)
  · rw [if_neg h_37] at hR
    replace hok := hok.2 h_37
    refine G_iconst (v := (-1 : Int32)) hX dX6_keepsWas_47 (by decide) rfl ?_
    exact nr_sub (by exact ⟨rfl, rfl, trivial⟩) (sp_X6_keepsWas_48 Γ ρ d X hX a1 (2 : Int32) (-1 : Int32) z (nr_st g 33 s1 s2) R0 hR hok)
  · rw [if_pos h_37] at hR
    replace hok := hok.1 h_37
    refine G_aload_n hX dX6_keepsWas_40 rfl rfl ?_
    refine G_geti hX dX6_keepsWas_41 gt_RX6_154 rfl ?_
    refine G_goto (tg := 48) hX dX6_keepsWas_44 (by decide) ?_
    exact nr_sub (by exact ⟨rfl, rfl, trivial⟩) (sp_X6_keepsWas_48 Γ ρ d X hX a1 (2 : Int32) (z 32) z (nr_st g 33 s1 s2) R0 hR hok)
def T_X6_keepsWas (a1 : Int32) (z : Nat → Int32) (g : Nat → Nat → Int32) : Int32 × nr_S := (if a1 = 0 then (T_X6_keepsWas_29 a1 (1 : Int32) (-1 : Int32) (va_up z 40 (1 : Int32)) (nr_st g 33 (0 : Int32) a1)) else (T_X6_keepsWas_29 a1 (1 : Int32) (z 31) (va_up z 40 (1 : Int32)) (nr_st g 33 (0 : Int32) a1)))
def O_X6_keepsWas (a1 : Int32) (z : Nat → Int32) (g : Nat → Nat → Int32) : Prop := ((a1 = 0 → (O_X6_keepsWas_29 a1 (1 : Int32) (-1 : Int32) (va_up z 40 (1 : Int32)) (nr_st g 33 (0 : Int32) a1))) ∧ (¬ (a1 = 0) → (O_X6_keepsWas_29 a1 (1 : Int32) (z 31) (va_up z 40 (1 : Int32)) (nr_st g 33 (0 : Int32) a1))))
set_option maxHeartbeats 4000000 in
set_option maxRecDepth 100000 in
theorem sp_X6_keepsWas (Γ : nr_M) (ρ : Nat → Nat) (d : Nat) (a1 : Int32) (z : Nat → Int32) (g : Nat → Nat → Int32) (hok : O_X6_keepsWas a1 z g) : nr_Sv Γ ρ (d + 0) yX6_keepsWas cX6_keepsWas 3 none [.ref (ρ 20), .int a1] z g (fun u => (T_X6_keepsWas a1 z g) = (0, u)) := by
  refine nr_body_v (lv := [(0, .ref (ρ 20)), (1, .int a1)]) (by decide +kernel) (Nat.le_of_ble_eq_true rfl) rfl (fun X hX => ?_)
  generalize hR : (T_X6_keepsWas a1 z g) = R0
  rw [T_X6_keepsWas] at hR
  rw [O_X6_keepsWas] at hok
  refine G_aload_n hX dX6_keepsWas_0 rfl rfl ?_
  refine G_iconst (v := (1 : Int32)) hX dX6_keepsWas_1 (by decide) rfl ?_
  refine G_put hX dX6_keepsWas_2 pt_RX6_225 rfl rfl rfl ?_
  refine G_aload_n hX dX6_keepsWas_5 rfl rfl ?_
  refine G_getr hX dX6_keepsWas_6 gt_RX6_47 rfl ?_
  refine G_iconst (v := (0 : Int32)) hX dX6_keepsWas_9 (by decide) rfl ?_
  refine G_iload_n hX dX6_keepsWas_10 rfl rfl ?_
  refine G_ist hX dX6_keepsWas_11 (rfl : nr_il 33 = 8) (by decide) (by unfold vp_in; decide) rfl ?_
  refine G_aload_n hX dX6_keepsWas_12 rfl rfl ?_
  refine G_getr hX dX6_keepsWas_13 gt_RX6_47 rfl ?_
  refine G_iconst (v := (1 : Int32)) hX dX6_keepsWas_16 (by decide) rfl ?_
  refine G_iload_n hX dX6_keepsWas_17 rfl rfl ?_
  refine G_if_ne (tg := 25) hX dX6_keepsWas_18 (by decide) rfl (fun (h_18 : ¬ (a1 = 0)) => ?_) (fun (h_18 : a1 = 0) => ?_)
  · rw [if_neg h_18] at hR
    replace hok := hok.2 h_18
    refine G_aload_n hX dX6_keepsWas_25 rfl rfl ?_
    refine G_geti hX dX6_keepsWas_26 gt_RX6_151 rfl ?_
    exact nr_sub (by exact ⟨rfl, rfl, trivial⟩) (sp_X6_keepsWas_29 Γ ρ d X hX a1 (1 : Int32) (z 31) (va_up z 40 (1 : Int32)) (nr_st g 33 (0 : Int32) a1) R0 hR hok)
  · rw [if_pos h_18] at hR
    replace hok := hok.1 h_18
    refine G_iconst (v := (-1 : Int32)) hX dX6_keepsWas_21 (by decide) rfl ?_
    refine G_goto (tg := 29) hX dX6_keepsWas_22 (by decide) ?_
    exact nr_sub (by exact ⟨rfl, rfl, trivial⟩) (sp_X6_keepsWas_29 Γ ρ d X hX a1 (1 : Int32) (-1 : Int32) (va_up z 40 (1 : Int32)) (nr_st g 33 (0 : Int32) a1) R0 hR hok)
def T_X6_goes (N : Nat) (z : Nat → Int32) (g : Nat → Nat → Int32) : Int32 × nr_S := (nr_K (T_X6_reads N z g) (fun r_1 z_1 g_1 => (if r_1 = (-1 : Int32) then (nr_K (T_X6_night z_1 g_1) (fun r_16 z_16 g_16 => (nr_K (T_X6_round N z_16 g_16) (fun r_20 z_20 g_20 => (nr_K (T_X6_keepsWas r_20 z_20 g_20) (fun r_26 z_26 g_26 => (r_20, z_26, g_26))))))) else (((-10 : Int32) - r_1), z_1, g_1))))
def O_X6_goes (N : Nat) (z : Nat → Int32) (g : Nat → Nat → Int32) : Prop := ((O_X6_reads N z g ∧ nr_KP (T_X6_reads N z g) (fun r_1 z_1 g_1 => ((r_1 = (-1 : Int32) → ((O_X6_night z_1 g_1 ∧ nr_KP (T_X6_night z_1 g_1) (fun r_16 z_16 g_16 => ((O_X6_round N z_16 g_16 ∧ nr_KP (T_X6_round N z_16 g_16) (fun r_20 z_20 g_20 => ((O_X6_keepsWas r_20 z_20 g_20 ∧ True))))))))) ∧ (¬ (r_1 = (-1 : Int32)) → True)))))
set_option maxHeartbeats 4000000 in
set_option maxRecDepth 100000 in
theorem sp_X6_goes (Γ : nr_M) (ρ : Nat → Nat) (d : Nat) (N : Nat) (z : Nat → Int32) (g : Nat → Nat → Int32) (hok : O_X6_goes N z g) : nr_Si Γ ρ (d + 6) yX6_goes cX6_goes 3 (some .int) [.ref (ρ 20)] z g (fun x u => (T_X6_goes N z g) = (x, u)) := by
  refine nr_body_i (lv := [(0, .ref (ρ 20))]) (by decide +kernel) (Nat.le_of_ble_eq_true rfl) rfl (fun X hX => ?_)
  generalize hR : (T_X6_goes N z g) = R0
  rw [T_X6_goes] at hR
  rw [O_X6_goes] at hok
  refine G_aload_n hX dX6_goes_0 rfl rfl ?_
  obtain ⟨ho_1, hok⟩ := hok
  refine G_cVi hX dX6_goes_1 lv_RX6_232 (sp_X6_reads Γ ρ d N z g ho_1) (by omega) nr_is_20 rfl rfl (Nat.le_of_ble_eq_true rfl) rfl (fun r_1 u_1 e_1 => ?_)
  obtain ⟨z_1, g_1⟩ := u_1
  rw [e_1, nr_K_mk] at hR
  rw [e_1, nr_KP_mk] at hok
  refine G_istore_n hX dX6_goes_4 (by decide) rfl rfl ?_
  refine G_iload_n hX dX6_goes_5 rfl rfl ?_
  refine G_iconst (v := (-1 : Int32)) hX dX6_goes_6 (by decide) rfl ?_
  refine G_icmp_eq (tg := 15) hX dX6_goes_7 (by decide) rfl (fun (h_7 : r_1 = (-1 : Int32)) => ?_) (fun (h_7 : ¬ (r_1 = (-1 : Int32))) => ?_)
  · rw [if_pos h_7] at hR
    replace hok := hok.1 h_7
    refine G_aload_n hX dX6_goes_15 rfl rfl ?_
    obtain ⟨ho_16, hok⟩ := hok
    refine G_cVv hX dX6_goes_16 lv_RX6_86 (sp_X6_night Γ ρ d z_1 g_1 ho_16) (by omega) nr_is_20 rfl rfl (Nat.le_of_ble_eq_true rfl) rfl (fun u_16 e_16 => ?_)
    obtain ⟨z_16, g_16⟩ := u_16
    rw [e_16, nr_K_mk] at hR
    rw [e_16, nr_KP_mk] at hok
    refine G_aload_n hX dX6_goes_19 rfl rfl ?_
    obtain ⟨ho_20, hok⟩ := hok
    refine G_cVi hX dX6_goes_20 lv_RX6_235 (sp_X6_round Γ ρ d N z_16 g_16 ho_20) (by omega) nr_is_20 rfl rfl (Nat.le_of_ble_eq_true rfl) rfl (fun r_20 u_20 e_20 => ?_)
    obtain ⟨z_20, g_20⟩ := u_20
    rw [e_20, nr_K_mk] at hR
    rw [e_20, nr_KP_mk] at hok
    refine G_istore_n hX dX6_goes_23 (by decide) rfl rfl ?_
    refine G_aload_n hX dX6_goes_24 rfl rfl ?_
    refine G_iload_n hX dX6_goes_25 rfl rfl ?_
    obtain ⟨ho_26, hok⟩ := hok
    refine G_cVv hX dX6_goes_26 lv_RX6_238 (sp_X6_keepsWas Γ ρ d r_20 z_20 g_20 ho_26) (by omega) nr_is_20 rfl rfl (Nat.le_of_ble_eq_true rfl) rfl (fun u_26 e_26 => ?_)
    obtain ⟨z_26, g_26⟩ := u_26
    rw [e_26, nr_K_mk] at hR
    refine G_iload_n hX dX6_goes_29 rfl rfl ?_
    exact G_iret hX rfl dX6_goes_30 rfl hR.symm
  · rw [if_neg h_7] at hR
    replace hok := hok.2 h_7
    refine G_bipush (v := (-10 : Int32)) hX dX6_goes_10 (by decide) rfl ?_
    refine G_iload_n hX dX6_goes_12 rfl rfl ?_
    refine G_isub hX dX6_goes_13 rfl ?_
    exact G_iret hX rfl dX6_goes_14 rfl hR.symm
def T_X6_bring_2  : Nat → Int32 → (Nat → Int32) → (Nat → Nat → Int32) → Int32 × nr_S
  | 0, _, z, g => (0, z, g)
  | n + 1, a1, z, g => (if (58 : Int32) ≤ a1 then (0, z, g) else (T_X6_bring_2 n (a1 + (1 : Int32)) z (nr_st g 21 a1 (g 35 (a1).toNatClampNeg))))
def O_X6_bring_2  : Nat → Int32 → (Nat → Int32) → (Nat → Nat → Int32) → Prop
  | 0, _, _, _ => False
  | n + 1, a1, z, g => (((58 : Int32) ≤ a1 → True) ∧ (¬ ((58 : Int32) ≤ a1) → (vp_in a1 58 ∧ (vp_in a1 58 ∧ (O_X6_bring_2 n (a1 + (1 : Int32)) z (nr_st g 21 a1 (g 35 (a1).toNatClampNeg)))))))
set_option maxHeartbeats 4000000 in
set_option maxRecDepth 100000 in
theorem sp_X6_bring_2 (Γ : nr_M) (ρ : Nat → Nat) (d : Nat) (X : nr_CX) (hX : nr_Cx Γ ρ X yX6_bring cX6_bring 2 none (d + 0)) : ∀ (n : Nat) (a1 : Int32) (z : Nat → Int32) (g : Nat → Nat → Int32) (R0 : Int32 × nr_S) (_ : T_X6_bring_2 n a1 z g = R0) (_ : O_X6_bring_2 n a1 z g), nr_G Γ ρ X 2 (nr_Qv Γ ρ X (fun u => R0 = (0, u))) 2 [(0, .ref (ρ 20)), (1, .int a1)] [] z g := by
  intro n
  induction n with
  | zero => intro a1 z g R0 hR hok; exact False.elim hok
  | succ n ih =>
    intro a1 z g R0 hR hok
    rw [T_X6_bring_2] at hR
    rw [O_X6_bring_2] at hok
    refine G_iload_n hX dX6_bring_2 rfl rfl ?_
    refine G_bipush (v := (58 : Int32)) hX dX6_bring_3 (by decide) rfl ?_
    refine G_icmp_ge (tg := 26) hX dX6_bring_5 (by decide) rfl (fun (h_5 : (58 : Int32) ≤ a1) => ?_) (fun (h_5 : ¬ ((58 : Int32) ≤ a1)) => ?_)
    · rw [if_pos h_5] at hR
      replace hok := hok.1 h_5
      exact G_vret hX dX6_bring_26 hR.symm
    · rw [if_neg h_5] at hR
      replace hok := hok.2 h_5
      refine G_aload_n hX dX6_bring_8 rfl rfl ?_
      refine G_getr hX dX6_bring_9 gt_RX6_7 rfl ?_
      refine G_iload_n hX dX6_bring_12 rfl rfl ?_
      refine G_aload_n hX dX6_bring_13 rfl rfl ?_
      refine G_getr hX dX6_bring_14 gt_RX6_57 rfl ?_
      refine G_iload_n hX dX6_bring_17 rfl rfl ?_
      obtain ⟨hi_18, hok⟩ := hok
      refine G_iald hX dX6_bring_18 (rfl : nr_il 35 = 58) (by decide) hi_18 rfl ?_
      obtain ⟨hi_19, hok⟩ := hok
      refine G_ist hX dX6_bring_19 (rfl : nr_il 21 = 58) (by decide) hi_19 rfl ?_
      refine G_iinc (v := (a1 + (1 : Int32))) hX dX6_bring_20 rfl rfl (by decide) rfl rfl ?_
      refine G_goto (tg := 2) hX dX6_bring_23 (by decide) ?_
      exact nr_sub (by exact ⟨rfl, rfl, trivial⟩) (ih (a1 + (1 : Int32)) z (nr_st g 21 a1 (g 35 (a1).toNatClampNeg)) R0 hR hok)
def T_X6_bring  (z : Nat → Int32) (g : Nat → Nat → Int32) : Int32 × nr_S := (T_X6_bring_2 500 (0 : Int32) z g)
def O_X6_bring  (z : Nat → Int32) (g : Nat → Nat → Int32) : Prop := (O_X6_bring_2 500 (0 : Int32) z g)
set_option maxHeartbeats 4000000 in
set_option maxRecDepth 100000 in
theorem sp_X6_bring (Γ : nr_M) (ρ : Nat → Nat) (d : Nat) (z : Nat → Int32) (g : Nat → Nat → Int32) (hok : O_X6_bring z g) : nr_Sv Γ ρ (d + 0) yX6_bring cX6_bring 2 none [.ref (ρ 20)] z g (fun u => (T_X6_bring z g) = (0, u)) := by
  refine nr_body_v (lv := [(0, .ref (ρ 20))]) (by decide +kernel) (Nat.le_of_ble_eq_true rfl) rfl (fun X hX => ?_)
  generalize hR : (T_X6_bring z g) = R0
  rw [T_X6_bring] at hR
  rw [O_X6_bring] at hok
  refine G_iconst (v := (0 : Int32)) hX dX6_bring_0 (by decide) rfl ?_
  refine G_istore_n hX dX6_bring_1 (by decide) rfl rfl ?_
  exact nr_sub (by exact ⟨rfl, rfl, trivial⟩) (sp_X6_bring_2 Γ ρ d X hX 500 (0 : Int32) z g R0 hR hok)
def T_X6_keep_2  : Nat → Int32 → (Nat → Int32) → (Nat → Nat → Int32) → Int32 × nr_S
  | 0, _, z, g => (0, z, g)
  | n + 1, a1, z, g => (if (58 : Int32) ≤ a1 then (0, z, g) else (T_X6_keep_2 n (a1 + (1 : Int32)) z (nr_st g 35 a1 (g 21 (a1).toNatClampNeg))))
def O_X6_keep_2  : Nat → Int32 → (Nat → Int32) → (Nat → Nat → Int32) → Prop
  | 0, _, _, _ => False
  | n + 1, a1, z, g => (((58 : Int32) ≤ a1 → True) ∧ (¬ ((58 : Int32) ≤ a1) → (vp_in a1 58 ∧ (vp_in a1 58 ∧ (O_X6_keep_2 n (a1 + (1 : Int32)) z (nr_st g 35 a1 (g 21 (a1).toNatClampNeg)))))))
set_option maxHeartbeats 4000000 in
set_option maxRecDepth 100000 in
theorem sp_X6_keep_2 (Γ : nr_M) (ρ : Nat → Nat) (d : Nat) (X : nr_CX) (hX : nr_Cx Γ ρ X yX6_keep cX6_keep 2 none (d + 0)) : ∀ (n : Nat) (a1 : Int32) (z : Nat → Int32) (g : Nat → Nat → Int32) (R0 : Int32 × nr_S) (_ : T_X6_keep_2 n a1 z g = R0) (_ : O_X6_keep_2 n a1 z g), nr_G Γ ρ X 2 (nr_Qv Γ ρ X (fun u => R0 = (0, u))) 2 [(0, .ref (ρ 20)), (1, .int a1)] [] z g := by
  intro n
  induction n with
  | zero => intro a1 z g R0 hR hok; exact False.elim hok
  | succ n ih =>
    intro a1 z g R0 hR hok
    rw [T_X6_keep_2] at hR
    rw [O_X6_keep_2] at hok
    refine G_iload_n hX dX6_keep_2 rfl rfl ?_
    refine G_bipush (v := (58 : Int32)) hX dX6_keep_3 (by decide) rfl ?_
    refine G_icmp_ge (tg := 26) hX dX6_keep_5 (by decide) rfl (fun (h_5 : (58 : Int32) ≤ a1) => ?_) (fun (h_5 : ¬ ((58 : Int32) ≤ a1)) => ?_)
    · rw [if_pos h_5] at hR
      replace hok := hok.1 h_5
      exact G_vret hX dX6_keep_26 hR.symm
    · rw [if_neg h_5] at hR
      replace hok := hok.2 h_5
      refine G_aload_n hX dX6_keep_8 rfl rfl ?_
      refine G_getr hX dX6_keep_9 gt_RX6_57 rfl ?_
      refine G_iload_n hX dX6_keep_12 rfl rfl ?_
      refine G_aload_n hX dX6_keep_13 rfl rfl ?_
      refine G_getr hX dX6_keep_14 gt_RX6_7 rfl ?_
      refine G_iload_n hX dX6_keep_17 rfl rfl ?_
      obtain ⟨hi_18, hok⟩ := hok
      refine G_iald hX dX6_keep_18 (rfl : nr_il 21 = 58) (by decide) hi_18 rfl ?_
      obtain ⟨hi_19, hok⟩ := hok
      refine G_ist hX dX6_keep_19 (rfl : nr_il 35 = 58) (by decide) hi_19 rfl ?_
      refine G_iinc (v := (a1 + (1 : Int32))) hX dX6_keep_20 rfl rfl (by decide) rfl rfl ?_
      refine G_goto (tg := 2) hX dX6_keep_23 (by decide) ?_
      exact nr_sub (by exact ⟨rfl, rfl, trivial⟩) (ih (a1 + (1 : Int32)) z (nr_st g 35 a1 (g 21 (a1).toNatClampNeg)) R0 hR hok)
def T_X6_keep  (z : Nat → Int32) (g : Nat → Nat → Int32) : Int32 × nr_S := (T_X6_keep_2 500 (0 : Int32) z g)
def O_X6_keep  (z : Nat → Int32) (g : Nat → Nat → Int32) : Prop := (O_X6_keep_2 500 (0 : Int32) z g)
set_option maxHeartbeats 4000000 in
set_option maxRecDepth 100000 in
theorem sp_X6_keep (Γ : nr_M) (ρ : Nat → Nat) (d : Nat) (z : Nat → Int32) (g : Nat → Nat → Int32) (hok : O_X6_keep z g) : nr_Sv Γ ρ (d + 0) yX6_keep cX6_keep 2 none [.ref (ρ 20)] z g (fun u => (T_X6_keep z g) = (0, u)) := by
  refine nr_body_v (lv := [(0, .ref (ρ 20))]) (by decide +kernel) (Nat.le_of_ble_eq_true rfl) rfl (fun X hX => ?_)
  generalize hR : (T_X6_keep z g) = R0
  rw [T_X6_keep] at hR
  rw [O_X6_keep] at hok
  refine G_iconst (v := (0 : Int32)) hX dX6_keep_0 (by decide) rfl ?_
  refine G_istore_n hX dX6_keep_1 (by decide) rfl rfl ?_
  exact nr_sub (by exact ⟨rfl, rfl, trivial⟩) (sp_X6_keep_2 Γ ρ d X hX 500 (0 : Int32) z g R0 hR hok)
def T_X6_tries (N : Nat) (z : Nat → Int32) (g : Nat → Nat → Int32) : Int32 × nr_S := (nr_K (T_X6_reads N z g) (fun r_1 z_1 g_1 => (if r_1 = (-1 : Int32) then (nr_K (T_X6_keep z_1 g_1) (fun r_16 z_16 g_16 => (nr_K (T_X6_round N z_16 g_16) (fun r_20 z_20 g_20 => (nr_K (T_X6_keepsWas r_20 z_20 g_20) (fun r_26 z_26 g_26 => (nr_K (T_X6_bring z_26 g_26) (fun r_30 z_30 g_30 => (r_20, z_30, g_30))))))))) else (((-10 : Int32) - r_1), z_1, g_1))))
def O_X6_tries (N : Nat) (z : Nat → Int32) (g : Nat → Nat → Int32) : Prop := ((O_X6_reads N z g ∧ nr_KP (T_X6_reads N z g) (fun r_1 z_1 g_1 => ((r_1 = (-1 : Int32) → ((O_X6_keep z_1 g_1 ∧ nr_KP (T_X6_keep z_1 g_1) (fun r_16 z_16 g_16 => ((O_X6_round N z_16 g_16 ∧ nr_KP (T_X6_round N z_16 g_16) (fun r_20 z_20 g_20 => ((O_X6_keepsWas r_20 z_20 g_20 ∧ nr_KP (T_X6_keepsWas r_20 z_20 g_20) (fun r_26 z_26 g_26 => ((O_X6_bring z_26 g_26 ∧ True)))))))))))) ∧ (¬ (r_1 = (-1 : Int32)) → True)))))
set_option maxHeartbeats 4000000 in
set_option maxRecDepth 100000 in
theorem sp_X6_tries (Γ : nr_M) (ρ : Nat → Nat) (d : Nat) (N : Nat) (z : Nat → Int32) (g : Nat → Nat → Int32) (hok : O_X6_tries N z g) : nr_Si Γ ρ (d + 6) yX6_tries cX6_tries 3 (some .int) [.ref (ρ 20)] z g (fun x u => (T_X6_tries N z g) = (x, u)) := by
  refine nr_body_i (lv := [(0, .ref (ρ 20))]) (by decide +kernel) (Nat.le_of_ble_eq_true rfl) rfl (fun X hX => ?_)
  generalize hR : (T_X6_tries N z g) = R0
  rw [T_X6_tries] at hR
  rw [O_X6_tries] at hok
  refine G_aload_n hX dX6_tries_0 rfl rfl ?_
  obtain ⟨ho_1, hok⟩ := hok
  refine G_cVi hX dX6_tries_1 lv_RX6_232 (sp_X6_reads Γ ρ d N z g ho_1) (by omega) nr_is_20 rfl rfl (Nat.le_of_ble_eq_true rfl) rfl (fun r_1 u_1 e_1 => ?_)
  obtain ⟨z_1, g_1⟩ := u_1
  rw [e_1, nr_K_mk] at hR
  rw [e_1, nr_KP_mk] at hok
  refine G_istore_n hX dX6_tries_4 (by decide) rfl rfl ?_
  refine G_iload_n hX dX6_tries_5 rfl rfl ?_
  refine G_iconst (v := (-1 : Int32)) hX dX6_tries_6 (by decide) rfl ?_
  refine G_icmp_eq (tg := 15) hX dX6_tries_7 (by decide) rfl (fun (h_7 : r_1 = (-1 : Int32)) => ?_) (fun (h_7 : ¬ (r_1 = (-1 : Int32))) => ?_)
  · rw [if_pos h_7] at hR
    replace hok := hok.1 h_7
    refine G_aload_n hX dX6_tries_15 rfl rfl ?_
    obtain ⟨ho_16, hok⟩ := hok
    refine G_cVv hX dX6_tries_16 lv_RX6_241 (sp_X6_keep Γ ρ d z_1 g_1 ho_16) (by omega) nr_is_20 rfl rfl (Nat.le_of_ble_eq_true rfl) rfl (fun u_16 e_16 => ?_)
    obtain ⟨z_16, g_16⟩ := u_16
    rw [e_16, nr_K_mk] at hR
    rw [e_16, nr_KP_mk] at hok
    refine G_aload_n hX dX6_tries_19 rfl rfl ?_
    obtain ⟨ho_20, hok⟩ := hok
    refine G_cVi hX dX6_tries_20 lv_RX6_235 (sp_X6_round Γ ρ d N z_16 g_16 ho_20) (by omega) nr_is_20 rfl rfl (Nat.le_of_ble_eq_true rfl) rfl (fun r_20 u_20 e_20 => ?_)
    obtain ⟨z_20, g_20⟩ := u_20
    rw [e_20, nr_K_mk] at hR
    rw [e_20, nr_KP_mk] at hok
    refine G_istore_n hX dX6_tries_23 (by decide) rfl rfl ?_
    refine G_aload_n hX dX6_tries_24 rfl rfl ?_
    refine G_iload_n hX dX6_tries_25 rfl rfl ?_
    obtain ⟨ho_26, hok⟩ := hok
    refine G_cVv hX dX6_tries_26 lv_RX6_238 (sp_X6_keepsWas Γ ρ d r_20 z_20 g_20 ho_26) (by omega) nr_is_20 rfl rfl (Nat.le_of_ble_eq_true rfl) rfl (fun u_26 e_26 => ?_)
    obtain ⟨z_26, g_26⟩ := u_26
    rw [e_26, nr_K_mk] at hR
    rw [e_26, nr_KP_mk] at hok
    refine G_aload_n hX dX6_tries_29 rfl rfl ?_
    obtain ⟨ho_30, hok⟩ := hok
    refine G_cVv hX dX6_tries_30 lv_RX6_244 (sp_X6_bring Γ ρ d z_26 g_26 ho_30) (by omega) nr_is_20 rfl rfl (Nat.le_of_ble_eq_true rfl) rfl (fun u_30 e_30 => ?_)
    obtain ⟨z_30, g_30⟩ := u_30
    rw [e_30, nr_K_mk] at hR
    refine G_iload_n hX dX6_tries_33 rfl rfl ?_
    exact G_iret hX rfl dX6_tries_34 rfl hR.symm
  · rw [if_neg h_7] at hR
    replace hok := hok.2 h_7
    refine G_bipush (v := (-10 : Int32)) hX dX6_tries_10 (by decide) rfl ?_
    refine G_iload_n hX dX6_tries_12 rfl rfl ?_
    refine G_isub hX dX6_tries_13 rfl ?_
    exact G_iret hX rfl dX6_tries_14 rfl hR.symm
def T_X6_often_80 (N : Nat) (kT_46 : Int32 → Int32 → Int32 → Int32 → (Nat → Int32) → (Nat → Nat → Int32) → Int32 × nr_S) (a1 : Int32) (a4 : Int32) (a5 : Int32) (s0 : Int32) (s1 : Int32) (z : Nat → Int32) (g : Nat → Nat → Int32) : Int32 × nr_S := (kT_46 a1 (s0 + s1) a4 (a5 + (1 : Int32)) z g)
def O_X6_often_80 (N : Nat) (kT_46 : Int32 → Int32 → Int32 → Int32 → (Nat → Int32) → (Nat → Nat → Int32) → Int32 × nr_S) (kO_46 : Int32 → Int32 → Int32 → Int32 → (Nat → Int32) → (Nat → Nat → Int32) → Prop) (a1 : Int32) (a4 : Int32) (a5 : Int32) (s0 : Int32) (s1 : Int32) (z : Nat → Int32) (g : Nat → Nat → Int32) : Prop := (kO_46 a1 (s0 + s1) a4 (a5 + (1 : Int32)) z g)
set_option maxHeartbeats 4000000 in
set_option maxRecDepth 100000 in
theorem sp_X6_often_80 (Γ : nr_M) (ρ : Nat → Nat) (d : Nat) (N : Nat) (kT_46 : Int32 → Int32 → Int32 → Int32 → (Nat → Int32) → (Nat → Nat → Int32) → Int32 × nr_S) (kO_46 : Int32 → Int32 → Int32 → Int32 → (Nat → Int32) → (Nat → Nat → Int32) → Prop) (X : nr_CX) (hX : nr_Cx Γ ρ X yX6_often cX6_often 6 (some .int) (d + 6)) (hk_46 : ∀ (a1 : Int32) (a3 : Int32) (a4 : Int32) (a5 : Int32) (z : Nat → Int32) (g : Nat → Nat → Int32) (R0 : Int32 × nr_S) (_ : kT_46 a1 a3 a4 a5 z g = R0) (_ : kO_46 a1 a3 a4 a5 z g), nr_G Γ ρ X 6 (nr_Qi Γ ρ X (fun x u => R0 = (x, u))) 46 [(0, .ref (ρ 20)), (1, .int a1), (3, .int a3), (4, .int a4), (5, .int a5)] [] z g) (a1 : Int32) (a4 : Int32) (a5 : Int32) (s0 : Int32) (s1 : Int32) (z : Nat → Int32) (g : Nat → Nat → Int32) (R0 : Int32 × nr_S) (hR : T_X6_often_80 N kT_46 a1 a4 a5 s0 s1 z g = R0) (hok : O_X6_often_80 N kT_46 kO_46 a1 a4 a5 s0 s1 z g) : nr_G Γ ρ X 6 (nr_Qi Γ ρ X (fun x u => R0 = (x, u))) 80 [(0, .ref (ρ 20)), (1, .int a1), (4, .int a4), (5, .int a5)] [.int s1, .int s0] z g := by
  rw [T_X6_often_80] at hR
  rw [O_X6_often_80] at hok
  refine G_iadd hX dX6_often_80 rfl ?_
  refine G_istore_n hX dX6_often_81 (by decide) rfl rfl ?_
  refine G_iinc (v := (a5 + (1 : Int32))) hX dX6_often_82 rfl rfl (by decide) rfl rfl ?_
  refine G_goto (tg := 46) hX dX6_often_85 (by decide) ?_
  exact nr_sub (by exact ⟨rfl, rfl, rfl, rfl, rfl, trivial⟩) (hk_46 a1 (s0 + s1) a4 (a5 + (1 : Int32)) z g R0 hR hok)
def T_X6_often_46 (N : Nat) : Nat → Int32 → Int32 → Int32 → Int32 → (Nat → Int32) → (Nat → Nat → Int32) → Int32 × nr_S
  | 0, _, _, _, _, z, g => (0, z, g)
  | n + 1, a1, a3, a4, a5, z, g => (if a1 ≤ a5 then (a3, z, g) else (if a4 = 0 then (nr_K (T_X6_round N z g) (fun r_58 z_58 g_58 => (nr_K (T_X6_keepsWas r_58 z_58 g_58) (fun r_66 z_66 g_66 => (if r_58 = 0 then (T_X6_often_80 N (T_X6_often_46 N n) a1 r_58 a5 a3 (1 : Int32) z_66 g_66) else (T_X6_often_80 N (T_X6_often_46 N n) a1 r_58 a5 a3 (0 : Int32) z_66 g_66)))))) else (a3, z, g)))
def O_X6_often_46 (N : Nat) : Nat → Int32 → Int32 → Int32 → Int32 → (Nat → Int32) → (Nat → Nat → Int32) → Prop
  | 0, _, _, _, _, _, _ => False
  | n + 1, a1, a3, a4, a5, z, g => ((a1 ≤ a5 → True) ∧ (¬ (a1 ≤ a5) → ((a4 = 0 → ((O_X6_round N z g ∧ nr_KP (T_X6_round N z g) (fun r_58 z_58 g_58 => ((O_X6_keepsWas r_58 z_58 g_58 ∧ nr_KP (T_X6_keepsWas r_58 z_58 g_58) (fun r_66 z_66 g_66 => ((r_58 = 0 → (O_X6_often_80 N (T_X6_often_46 N n) (O_X6_often_46 N n) a1 r_58 a5 a3 (1 : Int32) z_66 g_66)) ∧ (¬ (r_58 = 0) → (O_X6_often_80 N (T_X6_often_46 N n) (O_X6_often_46 N n) a1 r_58 a5 a3 (0 : Int32) z_66 g_66)))))))))) ∧ (¬ (a4 = 0) → True))))
set_option maxHeartbeats 4000000 in
set_option maxRecDepth 100000 in
theorem sp_X6_often_46 (Γ : nr_M) (ρ : Nat → Nat) (d : Nat) (N : Nat) (X : nr_CX) (hX : nr_Cx Γ ρ X yX6_often cX6_often 6 (some .int) (d + 6)) : ∀ (n : Nat) (a1 : Int32) (a3 : Int32) (a4 : Int32) (a5 : Int32) (z : Nat → Int32) (g : Nat → Nat → Int32) (R0 : Int32 × nr_S) (_ : T_X6_often_46 N n a1 a3 a4 a5 z g = R0) (_ : O_X6_often_46 N n a1 a3 a4 a5 z g), nr_G Γ ρ X 6 (nr_Qi Γ ρ X (fun x u => R0 = (x, u))) 46 [(0, .ref (ρ 20)), (1, .int a1), (3, .int a3), (4, .int a4), (5, .int a5)] [] z g := by
  intro n
  induction n with
  | zero => intro a1 a3 a4 a5 z g R0 hR hok; exact False.elim hok
  | succ n ih =>
    intro a1 a3 a4 a5 z g R0 hR hok
    rw [T_X6_often_46] at hR
    rw [O_X6_often_46] at hok
    refine G_iload hX dX6_often_46 rfl rfl ?_
    refine G_iload_n hX dX6_often_48 rfl rfl ?_
    refine G_icmp_ge (tg := 88) hX dX6_often_49 (by decide) rfl (fun (h_49 : a1 ≤ a5) => ?_) (fun (h_49 : ¬ (a1 ≤ a5)) => ?_)
    · rw [if_pos h_49] at hR
      replace hok := hok.1 h_49
      refine G_iload_n hX dX6_often_88 rfl rfl ?_
      exact G_iret hX rfl dX6_often_89 rfl hR.symm
    · rw [if_neg h_49] at hR
      replace hok := hok.2 h_49
      refine G_iload hX dX6_often_52 rfl rfl ?_
      refine G_if_ne (tg := 88) hX dX6_often_54 (by decide) rfl (fun (h_54 : ¬ (a4 = 0)) => ?_) (fun (h_54 : a4 = 0) => ?_)
      · rw [if_neg h_54] at hR
        replace hok := hok.2 h_54
        refine G_iload_n hX dX6_often_88 rfl rfl ?_
        exact G_iret hX rfl dX6_often_89 rfl hR.symm
      · rw [if_pos h_54] at hR
        replace hok := hok.1 h_54
        refine G_aload_n hX dX6_often_57 rfl rfl ?_
        obtain ⟨ho_58, hok⟩ := hok
        refine G_cVi hX dX6_often_58 lv_RX6_235 (sp_X6_round Γ ρ d N z g ho_58) (by omega) nr_is_20 rfl rfl (Nat.le_of_ble_eq_true rfl) rfl (fun r_58 u_58 e_58 => ?_)
        obtain ⟨z_58, g_58⟩ := u_58
        rw [e_58, nr_K_mk] at hR
        rw [e_58, nr_KP_mk] at hok
        refine G_istore hX dX6_often_61 (by decide) rfl rfl ?_
        refine G_aload_n hX dX6_often_63 rfl rfl ?_
        refine G_iload hX dX6_often_64 rfl rfl ?_
        obtain ⟨ho_66, hok⟩ := hok
        refine G_cVv hX dX6_often_66 lv_RX6_238 (sp_X6_keepsWas Γ ρ d r_58 z_58 g_58 ho_66) (by omega) nr_is_20 rfl rfl (Nat.le_of_ble_eq_true rfl) rfl (fun u_66 e_66 => ?_)
        obtain ⟨z_66, g_66⟩ := u_66
        rw [e_66, nr_K_mk] at hR
        rw [e_66, nr_KP_mk] at hok
        refine G_iload_n hX dX6_often_69 rfl rfl ?_
        refine G_iload hX dX6_often_70 rfl rfl ?_
        refine G_if_ne (tg := 79) hX dX6_often_72 (by decide) rfl (fun (h_72 : ¬ (r_58 = 0)) => ?_) (fun (h_72 : r_58 = 0) => ?_)
        · rw [if_neg h_72] at hR
          replace hok := hok.2 h_72
          refine G_iconst (v := (0 : Int32)) hX dX6_often_79 (by decide) rfl ?_
          exact nr_sub (by exact ⟨rfl, rfl, rfl, rfl, trivial⟩) (sp_X6_often_80 Γ ρ d N (T_X6_often_46 N n) (O_X6_often_46 N n) X hX ih a1 r_58 a5 a3 (0 : Int32) z_66 g_66 R0 hR hok)
        · rw [if_pos h_72] at hR
          replace hok := hok.1 h_72
          refine G_iconst (v := (1 : Int32)) hX dX6_often_75 (by decide) rfl ?_
          refine G_goto (tg := 80) hX dX6_often_76 (by decide) ?_
          exact nr_sub (by exact ⟨rfl, rfl, rfl, rfl, trivial⟩) (sp_X6_often_80 Γ ρ d N (T_X6_often_46 N n) (O_X6_often_46 N n) X hX ih a1 r_58 a5 a3 (1 : Int32) z_66 g_66 R0 hR hok)
def T_X6_often (N : Nat) (a1 : Int32) (z : Nat → Int32) (g : Nat → Nat → Int32) : Int32 × nr_S := (if (R_X6_in (a1).toInt64 (1 : Int64) (3 : Int64)) = 0 then (nr_K (T_X6_bad (-2 : Int32) z g) (fun r_15 z_15 g_15 => (r_15, z_15, g_15))) else (nr_K (T_X6_reads N z g) (fun r_20 z_20 g_20 => (if r_20 = (-1 : Int32) then (nr_K (T_X6_night z_20 g_20) (fun r_35 z_35 g_35 => (T_X6_often_46 N 500 a1 (0 : Int32) (0 : Int32) (0 : Int32) z_35 g_35))) else (((-10 : Int32) - r_20), z_20, g_20)))))
def O_X6_often (N : Nat) (a1 : Int32) (z : Nat → Int32) (g : Nat → Nat → Int32) : Prop := (((R_X6_in (a1).toInt64 (1 : Int64) (3 : Int64)) = 0 → True) ∧ (¬ ((R_X6_in (a1).toInt64 (1 : Int64) (3 : Int64)) = 0) → ((O_X6_reads N z g ∧ nr_KP (T_X6_reads N z g) (fun r_20 z_20 g_20 => ((r_20 = (-1 : Int32) → ((O_X6_night z_20 g_20 ∧ nr_KP (T_X6_night z_20 g_20) (fun r_35 z_35 g_35 => (O_X6_often_46 N 500 a1 (0 : Int32) (0 : Int32) (0 : Int32) z_35 g_35))))) ∧ (¬ (r_20 = (-1 : Int32)) → True)))))))
set_option maxHeartbeats 4000000 in
set_option maxRecDepth 100000 in
theorem sp_X6_often (Γ : nr_M) (ρ : Nat → Nat) (d : Nat) (N : Nat) (a1 : Int32) (z : Nat → Int32) (g : Nat → Nat → Int32) (hok : O_X6_often N a1 z g) : nr_Si Γ ρ (d + 6) yX6_often cX6_often 6 (some .int) [.ref (ρ 20), .int a1] z g (fun x u => (T_X6_often N a1 z g) = (x, u)) := by
  refine nr_body_i (lv := [(0, .ref (ρ 20)), (1, .int a1)]) (by decide +kernel) (Nat.le_of_ble_eq_true rfl) rfl (fun X hX => ?_)
  generalize hR : (T_X6_often N a1 z g) = R0
  rw [T_X6_often] at hR
  rw [O_X6_often] at hok
  refine G_iload_n hX dX6_often_0 rfl rfl ?_
  refine G_i2l hX dX6_often_1 rfl ?_
  refine G_lconst (v := (1 : Int64)) hX dX6_often_2 (by decide) rfl ?_
  refine G_ldc2 (v := (3 : Int64)) hX dX6_often_3 wk_RX6_80 rfl ?_
  refine G_fSi hX dX6_often_6 ls_RX6_62 (sp_X6_in Γ ρ d (a1).toInt64 (1 : Int64) (3 : Int64) z g) (by omega) rfl rfl (Nat.le_of_ble_eq_true rfl) rfl ?_
  refine G_if_ne (tg := 19) hX dX6_often_9 (by decide) rfl (fun (h_9 : ¬ ((R_X6_in (a1).toInt64 (1 : Int64) (3 : Int64)) = 0)) => ?_) (fun (h_9 : (R_X6_in (a1).toInt64 (1 : Int64) (3 : Int64)) = 0) => ?_)
  · rw [if_neg h_9] at hR
    replace hok := hok.2 h_9
    refine G_aload_n hX dX6_often_19 rfl rfl ?_
    obtain ⟨ho_20, hok⟩ := hok
    refine G_cVi hX dX6_often_20 lv_RX6_232 (sp_X6_reads Γ ρ d N z g ho_20) (by omega) nr_is_20 rfl rfl (Nat.le_of_ble_eq_true rfl) rfl (fun r_20 u_20 e_20 => ?_)
    obtain ⟨z_20, g_20⟩ := u_20
    rw [e_20, nr_K_mk] at hR
    rw [e_20, nr_KP_mk] at hok
    refine G_istore_n hX dX6_often_23 (by decide) rfl rfl ?_
    refine G_iload_n hX dX6_often_24 rfl rfl ?_
    refine G_iconst (v := (-1 : Int32)) hX dX6_often_25 (by decide) rfl ?_
    refine G_icmp_eq (tg := 34) hX dX6_often_26 (by decide) rfl (fun (h_26 : r_20 = (-1 : Int32)) => ?_) (fun (h_26 : ¬ (r_20 = (-1 : Int32))) => ?_)
    · rw [if_pos h_26] at hR
      replace hok := hok.1 h_26
      refine G_aload_n hX dX6_often_34 rfl rfl ?_
      obtain ⟨ho_35, hok⟩ := hok
      refine G_cVv hX dX6_often_35 lv_RX6_86 (sp_X6_night Γ ρ d z_20 g_20 ho_35) (by omega) nr_is_20 rfl rfl (Nat.le_of_ble_eq_true rfl) rfl (fun u_35 e_35 => ?_)
      obtain ⟨z_35, g_35⟩ := u_35
      rw [e_35, nr_K_mk] at hR
      rw [e_35, nr_KP_mk] at hok
      refine G_iconst (v := (0 : Int32)) hX dX6_often_38 (by decide) rfl ?_
      refine G_istore_n hX dX6_often_39 (by decide) rfl rfl ?_
      refine G_iconst (v := (0 : Int32)) hX dX6_often_40 (by decide) rfl ?_
      refine G_istore hX dX6_often_41 (by decide) rfl rfl ?_
      refine G_iconst (v := (0 : Int32)) hX dX6_often_43 (by decide) rfl ?_
      refine G_istore hX dX6_often_44 (by decide) rfl rfl ?_
      exact nr_sub (by exact ⟨rfl, rfl, rfl, rfl, rfl, trivial⟩) (sp_X6_often_46 Γ ρ d N X hX 500 a1 (0 : Int32) (0 : Int32) (0 : Int32) z_35 g_35 R0 hR hok)
    · rw [if_neg h_26] at hR
      replace hok := hok.2 h_26
      refine G_bipush (v := (-10 : Int32)) hX dX6_often_29 (by decide) rfl ?_
      refine G_iload_n hX dX6_often_31 rfl rfl ?_
      refine G_isub hX dX6_often_32 rfl ?_
      exact G_iret hX rfl dX6_often_33 rfl hR.symm
  · rw [if_pos h_9] at hR
    replace hok := hok.1 h_9
    refine G_aload_n hX dX6_often_12 rfl rfl ?_
    refine G_bipush (v := (-2 : Int32)) hX dX6_often_13 (by decide) rfl ?_
    refine G_cVi hX dX6_often_15 lv_RX6_82 (sp_X6_bad Γ ρ d (-2 : Int32) z g) (by omega) nr_is_20 rfl rfl (Nat.le_of_ble_eq_true rfl) rfl (fun r_15 u_15 e_15 => ?_)
    obtain ⟨z_15, g_15⟩ := u_15
    rw [e_15, nr_K_mk] at hR
    exact G_iret hX rfl dX6_often_18 rfl hR.symm
def R_X6_toldWas (a1 : Int32) (z : Nat → Int32) (g : Nat → Nat → Int32) : Int32 := (if (z 40) = 0 then (if a1 = (1 : Int32) then (-1 : Int32) else (if a1 = (2 : Int32) then (-1 : Int32) else (0 : Int32))) else (g 33 (a1).toNatClampNeg))
def O_X6_toldWas (a1 : Int32) (z : Nat → Int32) (g : Nat → Nat → Int32) : Prop := (((z 40) = 0 → True) ∧ (¬ ((z 40) = 0) → (vp_in a1 8 ∧ True)))
set_option maxHeartbeats 4000000 in
set_option maxRecDepth 100000 in
theorem sp_X6_toldWas (Γ : nr_M) (ρ : Nat → Nat) (d : Nat) (a1 : Int32) (z : Nat → Int32) (g : Nat → Nat → Int32) (hok : O_X6_toldWas a1 z g) : nr_Si Γ ρ (d + 0) yX6_toldWas cX6_toldWas 2 (some .int) [.ref (ρ 20), .int a1] z g (fun x u => x = (R_X6_toldWas a1 z g) ∧ u = (z, g)) := by
  refine nr_body_i (lv := [(0, .ref (ρ 20)), (1, .int a1)]) (by decide +kernel) (Nat.le_of_ble_eq_true rfl) rfl (fun X hX => ?_)
  generalize hR : (R_X6_toldWas a1 z g) = R0
  rw [R_X6_toldWas] at hR
  rw [O_X6_toldWas] at hok
  refine G_aload_n hX dX6_toldWas_0 rfl rfl ?_
  refine G_geti hX dX6_toldWas_1 gt_RX6_225 rfl ?_
  refine G_if_eq (tg := 16) hX dX6_toldWas_4 (by decide) rfl (fun (h_4 : (z 40) = 0) => ?_) (fun (h_4 : ¬ ((z 40) = 0)) => ?_)
  · rw [if_pos h_4] at hR
    replace hok := hok.1 h_4
    refine G_iload_n hX dX6_toldWas_16 rfl rfl ?_
    refine G_iconst (v := (1 : Int32)) hX dX6_toldWas_17 (by decide) rfl ?_
    refine G_icmp_eq (tg := 26) hX dX6_toldWas_18 (by decide) rfl (fun (h_18 : a1 = (1 : Int32)) => ?_) (fun (h_18 : ¬ (a1 = (1 : Int32))) => ?_)
    · rw [if_pos h_18] at hR
      refine G_iconst (v := (-1 : Int32)) hX dX6_toldWas_26 (by decide) rfl ?_
      refine G_goto (tg := 31) hX dX6_toldWas_27 (by decide) ?_
      exact G_iret hX rfl dX6_toldWas_31 rfl ⟨hR, rfl⟩
    · rw [if_neg h_18] at hR
      refine G_iload_n hX dX6_toldWas_21 rfl rfl ?_
      refine G_iconst (v := (2 : Int32)) hX dX6_toldWas_22 (by decide) rfl ?_
      refine G_icmp_ne (tg := 30) hX dX6_toldWas_23 (by decide) rfl (fun (h_23 : ¬ (a1 = (2 : Int32))) => ?_) (fun (h_23 : a1 = (2 : Int32)) => ?_)
      · rw [if_neg h_23] at hR
        refine G_iconst (v := (0 : Int32)) hX dX6_toldWas_30 (by decide) rfl ?_
        exact G_iret hX rfl dX6_toldWas_31 rfl ⟨hR, rfl⟩
      · rw [if_pos h_23] at hR
        refine G_iconst (v := (-1 : Int32)) hX dX6_toldWas_26 (by decide) rfl ?_
        refine G_goto (tg := 31) hX dX6_toldWas_27 (by decide) ?_
        exact G_iret hX rfl dX6_toldWas_31 rfl ⟨hR, rfl⟩
  · rw [if_neg h_4] at hR
    replace hok := hok.2 h_4
    refine G_aload_n hX dX6_toldWas_7 rfl rfl ?_
    refine G_getr hX dX6_toldWas_8 gt_RX6_47 rfl ?_
    refine G_iload_n hX dX6_toldWas_11 rfl rfl ?_
    obtain ⟨hi_12, hok⟩ := hok
    refine G_iald hX dX6_toldWas_12 (rfl : nr_il 33 = 8) (by decide) hi_12 rfl ?_
    refine G_goto (tg := 31) hX dX6_toldWas_13 (by decide) ?_
    exact G_iret hX rfl dX6_toldWas_31 rfl ⟨hR, rfl⟩
def T_X6_was (a1 : Int32) (z : Nat → Int32) (g : Nat → Nat → Int32) : Int32 × nr_S := (if (R_X6_in (a1).toInt64 (0 : Int64) (7 : Int64)) = 0 then (nr_K (T_X6_bad (-2 : Int32) z g) (fun r_23 z_23 g_23 => (r_23, z_23, g_23))) else ((R_X6_toldWas a1 z g), z, g))
def O_X6_was (a1 : Int32) (z : Nat → Int32) (g : Nat → Nat → Int32) : Prop := (((R_X6_in (a1).toInt64 (0 : Int64) (7 : Int64)) = 0 → True) ∧ (¬ ((R_X6_in (a1).toInt64 (0 : Int64) (7 : Int64)) = 0) → (O_X6_toldWas a1 z g ∧ True)))
set_option maxHeartbeats 4000000 in
set_option maxRecDepth 100000 in
theorem sp_X6_was (Γ : nr_M) (ρ : Nat → Nat) (d : Nat) (a1 : Int32) (z : Nat → Int32) (g : Nat → Nat → Int32) (hok : O_X6_was a1 z g) : nr_Si Γ ρ (d + 1) yX6_was cX6_was 2 (some .int) [.ref (ρ 20), .int a1] z g (fun x u => (T_X6_was a1 z g) = (x, u)) := by
  refine nr_body_i (lv := [(0, .ref (ρ 20)), (1, .int a1)]) (by decide +kernel) (Nat.le_of_ble_eq_true rfl) rfl (fun X hX => ?_)
  generalize hR : (T_X6_was a1 z g) = R0
  rw [T_X6_was] at hR
  rw [O_X6_was] at hok
  refine G_iload_n hX dX6_was_0 rfl rfl ?_
  refine G_i2l hX dX6_was_1 rfl ?_
  refine G_lconst (v := (0 : Int64)) hX dX6_was_2 (by decide) rfl ?_
  refine G_ldc2 (v := (7 : Int64)) hX dX6_was_3 wk_RX6_60 rfl ?_
  refine G_fSi hX dX6_was_6 ls_RX6_62 (sp_X6_in Γ ρ d (a1).toInt64 (0 : Int64) (7 : Int64) z g) (by omega) rfl rfl (Nat.le_of_ble_eq_true rfl) rfl ?_
  refine G_if_eq (tg := 20) hX dX6_was_9 (by decide) rfl (fun (h_9 : (R_X6_in (a1).toInt64 (0 : Int64) (7 : Int64)) = 0) => ?_) (fun (h_9 : ¬ ((R_X6_in (a1).toInt64 (0 : Int64) (7 : Int64)) = 0)) => ?_)
  · rw [if_pos h_9] at hR
    replace hok := hok.1 h_9
    refine G_aload_n hX dX6_was_20 rfl rfl ?_
    refine G_bipush (v := (-2 : Int32)) hX dX6_was_21 (by decide) rfl ?_
    refine G_cVi hX dX6_was_23 lv_RX6_82 (sp_X6_bad Γ ρ d (-2 : Int32) z g) (by omega) nr_is_20 rfl rfl (Nat.le_of_ble_eq_true rfl) rfl (fun r_23 u_23 e_23 => ?_)
    obtain ⟨z_23, g_23⟩ := u_23
    rw [e_23, nr_K_mk] at hR
    exact G_iret hX rfl dX6_was_26 rfl hR.symm
  · rw [if_neg h_9] at hR
    replace hok := hok.2 h_9
    refine G_aload_n hX dX6_was_12 rfl rfl ?_
    refine G_iload_n hX dX6_was_13 rfl rfl ?_
    obtain ⟨ho_14, hok⟩ := hok
    refine G_fVi hX dX6_was_14 lv_RX6_247 (sp_X6_toldWas Γ ρ d a1 z g ho_14) (by omega) nr_is_20 rfl rfl (Nat.le_of_ble_eq_true rfl) rfl ?_
    refine G_goto (tg := 26) hX dX6_was_17 (by decide) ?_
    exact G_iret hX rfl dX6_was_26 rfl hR.symm
def R_X6_root  (z : Nat → Int32) (g : Nat → Nat → Int32) : Int32 := (z 38)
set_option maxHeartbeats 4000000 in
set_option maxRecDepth 100000 in
theorem sp_X6_root (Γ : nr_M) (ρ : Nat → Nat) (d : Nat) (z : Nat → Int32) (g : Nat → Nat → Int32) : nr_Si Γ ρ (d + 0) yX6_root cX6_root 1 (some .int) [.ref (ρ 20)] z g (fun x u => x = (R_X6_root z g) ∧ u = (z, g)) := by
  refine nr_body_i (lv := [(0, .ref (ρ 20))]) (by decide +kernel) (Nat.le_of_ble_eq_true rfl) rfl (fun X hX => ?_)
  generalize hR : (R_X6_root z g) = R0
  rw [R_X6_root] at hR
  refine G_aload_n hX dX6_root_0 rfl rfl ?_
  refine G_geti hX dX6_root_1 gt_RX6_50 rfl ?_
  exact G_iret hX rfl dX6_root_4 rfl ⟨hR, rfl⟩
def T_X6_diary (a1 : Int32) (z : Nat → Int32) (g : Nat → Nat → Int32) : Int32 × nr_S := (if (-1 : Int32) ≤ a1 then (if a1 = (-1 : Int32) then ((z 39), z, g) else (if (z 39) ≤ a1 then ((-5 : Int32), z, g) else ((g 34 (a1).toNatClampNeg), z, g))) else (nr_K (T_X6_bad (-10 : Int32) z g) (fun r_8 z_8 g_8 => (r_8, z_8, g_8))))
def O_X6_diary (a1 : Int32) (z : Nat → Int32) (g : Nat → Nat → Int32) : Prop := (((-1 : Int32) ≤ a1 → ((a1 = (-1 : Int32) → True) ∧ (¬ (a1 = (-1 : Int32)) → (((z 39) ≤ a1 → True) ∧ (¬ ((z 39) ≤ a1) → (vp_in a1 150 ∧ True)))))) ∧ (¬ ((-1 : Int32) ≤ a1) → True))
set_option maxHeartbeats 4000000 in
set_option maxRecDepth 100000 in
theorem sp_X6_diary (Γ : nr_M) (ρ : Nat → Nat) (d : Nat) (a1 : Int32) (z : Nat → Int32) (g : Nat → Nat → Int32) (hok : O_X6_diary a1 z g) : nr_Si Γ ρ (d + 1) yX6_diary cX6_diary 2 (some .int) [.ref (ρ 20), .int a1] z g (fun x u => (T_X6_diary a1 z g) = (x, u)) := by
  refine nr_body_i (lv := [(0, .ref (ρ 20)), (1, .int a1)]) (by decide +kernel) (Nat.le_of_ble_eq_true rfl) rfl (fun X hX => ?_)
  generalize hR : (T_X6_diary a1 z g) = R0
  rw [T_X6_diary] at hR
  rw [O_X6_diary] at hok
  refine G_iload_n hX dX6_diary_0 rfl rfl ?_
  refine G_iconst (v := (-1 : Int32)) hX dX6_diary_1 (by decide) rfl ?_
  refine G_icmp_ge (tg := 12) hX dX6_diary_2 (by decide) rfl (fun (h_2 : (-1 : Int32) ≤ a1) => ?_) (fun (h_2 : ¬ ((-1 : Int32) ≤ a1)) => ?_)
  · rw [if_pos h_2] at hR
    replace hok := hok.1 h_2
    refine G_iload_n hX dX6_diary_12 rfl rfl ?_
    refine G_iconst (v := (-1 : Int32)) hX dX6_diary_13 (by decide) rfl ?_
    refine G_icmp_ne (tg := 24) hX dX6_diary_14 (by decide) rfl (fun (h_14 : ¬ (a1 = (-1 : Int32))) => ?_) (fun (h_14 : a1 = (-1 : Int32)) => ?_)
    · rw [if_neg h_14] at hR
      replace hok := hok.2 h_14
      refine G_iload_n hX dX6_diary_24 rfl rfl ?_
      refine G_aload_n hX dX6_diary_25 rfl rfl ?_
      refine G_geti hX dX6_diary_26 gt_RX6_229 rfl ?_
      refine G_icmp_ge (tg := 41) hX dX6_diary_29 (by decide) rfl (fun (h_29 : (z 39) ≤ a1) => ?_) (fun (h_29 : ¬ ((z 39) ≤ a1)) => ?_)
      · rw [if_pos h_29] at hR
        replace hok := hok.1 h_29
        refine G_bipush (v := (-5 : Int32)) hX dX6_diary_41 (by decide) rfl ?_
        exact G_iret hX rfl dX6_diary_43 rfl hR.symm
      · rw [if_neg h_29] at hR
        replace hok := hok.2 h_29
        refine G_aload_n hX dX6_diary_32 rfl rfl ?_
        refine G_getr hX dX6_diary_33 gt_RX6_54 rfl ?_
        refine G_iload_n hX dX6_diary_36 rfl rfl ?_
        obtain ⟨hi_37, hok⟩ := hok
        refine G_iald hX dX6_diary_37 (rfl : nr_il 34 = 150) (by decide) hi_37 rfl ?_
        refine G_goto (tg := 43) hX dX6_diary_38 (by decide) ?_
        exact G_iret hX rfl dX6_diary_43 rfl hR.symm
    · rw [if_pos h_14] at hR
      replace hok := hok.1 h_14
      refine G_aload_n hX dX6_diary_17 rfl rfl ?_
      refine G_geti hX dX6_diary_18 gt_RX6_229 rfl ?_
      refine G_goto (tg := 43) hX dX6_diary_21 (by decide) ?_
      exact G_iret hX rfl dX6_diary_43 rfl hR.symm
  · rw [if_neg h_2] at hR
    replace hok := hok.2 h_2
    refine G_aload_n hX dX6_diary_5 rfl rfl ?_
    refine G_bipush (v := (-10 : Int32)) hX dX6_diary_6 (by decide) rfl ?_
    refine G_cVi hX dX6_diary_8 lv_RX6_82 (sp_X6_bad Γ ρ d (-10 : Int32) z g) (by omega) nr_is_20 rfl rfl (Nat.le_of_ble_eq_true rfl) rfl (fun r_8 u_8 e_8 => ?_)
    obtain ⟨z_8, g_8⟩ := u_8
    rw [e_8, nr_K_mk] at hR
    exact G_iret hX rfl dX6_diary_11 rfl hR.symm
def R_X6_open  : Int32 := (0 : Int32)
set_option maxHeartbeats 4000000 in
set_option maxRecDepth 100000 in
theorem sp_X6_open (Γ : nr_M) (ρ : Nat → Nat) (d : Nat) (z : Nat → Int32) (g : Nat → Nat → Int32) : nr_Si Γ ρ (d + 0) yX6_open cX6_open 1 (some .int) [.ref (ρ 20)] z g (fun x u => x = (R_X6_open) ∧ u = (z, g)) := by
  refine nr_body_i (lv := [(0, .ref (ρ 20))]) (by decide +kernel) (Nat.le_of_ble_eq_true rfl) rfl (fun X hX => ?_)
  generalize hR : (R_X6_open) = R0
  rw [R_X6_open] at hR
  refine G_iconst (v := (0 : Int32)) hX dX6_open_0 (by decide) rfl ?_
  exact G_iret hX rfl dX6_open_1 rfl ⟨hR, rfl⟩
def R_X6_bits_4  : Nat → Int32 → Int32 → (Nat → Int32) → (Nat → Nat → Int32) → Int32
  | 0, _, _, z, g => 0
  | n + 1, a1, a2, z, g => (if a2 ≤ 0 then a1 else (R_X6_bits_4 n (a1 + (a2 &&& (1 : Int32))) (a2 >>> ((1 : Int32) &&& 31)) z g))
def O_X6_bits_4  : Nat → Int32 → Int32 → (Nat → Int32) → (Nat → Nat → Int32) → Prop
  | 0, _, _, _, _ => False
  | n + 1, a1, a2, z, g => ((a2 ≤ 0 → True) ∧ (¬ (a2 ≤ 0) → (O_X6_bits_4 n (a1 + (a2 &&& (1 : Int32))) (a2 >>> ((1 : Int32) &&& 31)) z g)))
set_option maxHeartbeats 4000000 in
set_option maxRecDepth 100000 in
theorem sp_X6_bits_4 (Γ : nr_M) (ρ : Nat → Nat) (d : Nat) (X : nr_CX) (hX : nr_Cx Γ ρ X yX6_bits cX6_bits 3 (some .int) (d + 0)) : ∀ (n : Nat) (a1 : Int32) (a2 : Int32) (z : Nat → Int32) (g : Nat → Nat → Int32) (R0 : Int32) (_ : R_X6_bits_4 n a1 a2 z g = R0) (_ : O_X6_bits_4 n a1 a2 z g), nr_G Γ ρ X 3 (nr_Qi Γ ρ X (fun x u => x = R0 ∧ u = (z, g))) 4 [(1, .int a1), (2, .int a2)] [] z g := by
  intro n
  induction n with
  | zero => intro a1 a2 z g R0 hR hok; exact False.elim hok
  | succ n ih =>
    intro a1 a2 z g R0 hR hok
    rw [R_X6_bits_4] at hR
    rw [O_X6_bits_4] at hok
    refine G_iload_n hX dX6_bits_4 rfl rfl ?_
    refine G_if_le (tg := 21) hX dX6_bits_5 (by decide) rfl (fun (h_5 : a2 ≤ 0) => ?_) (fun (h_5 : ¬ (a2 ≤ 0)) => ?_)
    · rw [if_pos h_5] at hR
      replace hok := hok.1 h_5
      refine G_iload_n hX dX6_bits_21 rfl rfl ?_
      exact G_iret hX rfl dX6_bits_22 rfl ⟨hR, rfl⟩
    · rw [if_neg h_5] at hR
      replace hok := hok.2 h_5
      refine G_iload_n hX dX6_bits_8 rfl rfl ?_
      refine G_iload_n hX dX6_bits_9 rfl rfl ?_
      refine G_iconst (v := (1 : Int32)) hX dX6_bits_10 (by decide) rfl ?_
      refine G_iand hX dX6_bits_11 rfl ?_
      refine G_iadd hX dX6_bits_12 rfl ?_
      refine G_istore_n hX dX6_bits_13 (by decide) rfl rfl ?_
      refine G_iload_n hX dX6_bits_14 rfl rfl ?_
      refine G_iconst (v := (1 : Int32)) hX dX6_bits_15 (by decide) rfl ?_
      refine G_ishr hX dX6_bits_16 rfl ?_
      refine G_istore_n hX dX6_bits_17 (by decide) rfl rfl ?_
      refine G_goto (tg := 4) hX dX6_bits_18 (by decide) ?_
      exact nr_sub (by exact ⟨rfl, rfl, trivial⟩) (ih (a1 + (a2 &&& (1 : Int32))) (a2 >>> ((1 : Int32) &&& 31)) z g R0 hR hok)
def R_X6_bits (a0 : Int32) (z : Nat → Int32) (g : Nat → Nat → Int32) : Int32 := (R_X6_bits_4 500 (0 : Int32) a0 z g)
def O_X6_bits (a0 : Int32) (z : Nat → Int32) (g : Nat → Nat → Int32) : Prop := (O_X6_bits_4 500 (0 : Int32) a0 z g)
set_option maxHeartbeats 4000000 in
set_option maxRecDepth 100000 in
theorem sp_X6_bits (Γ : nr_M) (ρ : Nat → Nat) (d : Nat) (a0 : Int32) (z : Nat → Int32) (g : Nat → Nat → Int32) (hok : O_X6_bits a0 z g) : nr_Si Γ ρ (d + 0) yX6_bits cX6_bits 3 (some .int) [.int a0] z g (fun x u => x = (R_X6_bits a0 z g) ∧ u = (z, g)) := by
  refine nr_body_i (lv := [(0, .int a0)]) (by decide +kernel) (Nat.le_of_ble_eq_true rfl) rfl (fun X hX => ?_)
  generalize hR : (R_X6_bits a0 z g) = R0
  rw [R_X6_bits] at hR
  rw [O_X6_bits] at hok
  refine G_iconst (v := (0 : Int32)) hX dX6_bits_0 (by decide) rfl ?_
  refine G_istore_n hX dX6_bits_1 (by decide) rfl rfl ?_
  refine G_iload_n hX dX6_bits_2 rfl rfl ?_
  refine G_istore_n hX dX6_bits_3 (by decide) rfl rfl ?_
  exact nr_sub (by exact ⟨rfl, rfl, trivial⟩) (sp_X6_bits_4 Γ ρ d X hX 500 (0 : Int32) a0 z g R0 hR hok)
def T_X6_endBy (N : Nat) (a1 : Int32) (z : Nat → Int32) (g : Nat → Nat → Int32) : Int32 × nr_S := (nr_K (T_X6_round N z (nr_st g 21 (56 : Int32) a1)) (fun r_9 z_9 g_9 => (nr_K (T_X6_bring z_9 g_9) (fun r_14 z_14 g_14 => (r_9, z_14, g_14)))))
def O_X6_endBy (N : Nat) (a1 : Int32) (z : Nat → Int32) (g : Nat → Nat → Int32) : Prop := ((O_X6_round N z (nr_st g 21 (56 : Int32) a1) ∧ nr_KP (T_X6_round N z (nr_st g 21 (56 : Int32) a1)) (fun r_9 z_9 g_9 => ((O_X6_bring z_9 g_9 ∧ True)))))
set_option maxHeartbeats 4000000 in
set_option maxRecDepth 100000 in
theorem sp_X6_endBy (Γ : nr_M) (ρ : Nat → Nat) (d : Nat) (N : Nat) (a1 : Int32) (z : Nat → Int32) (g : Nat → Nat → Int32) (hok : O_X6_endBy N a1 z g) : nr_Si Γ ρ (d + 6) yX6_endBy cX6_endBy 3 (some .int) [.ref (ρ 20), .int a1] z g (fun x u => (T_X6_endBy N a1 z g) = (x, u)) := by
  refine nr_body_i (lv := [(0, .ref (ρ 20)), (1, .int a1)]) (by decide +kernel) (Nat.le_of_ble_eq_true rfl) rfl (fun X hX => ?_)
  generalize hR : (T_X6_endBy N a1 z g) = R0
  rw [T_X6_endBy] at hR
  rw [O_X6_endBy] at hok
  refine G_aload_n hX dX6_endBy_0 rfl rfl ?_
  refine G_getr hX dX6_endBy_1 gt_RX6_7 rfl ?_
  refine G_bipush (v := (56 : Int32)) hX dX6_endBy_4 (by decide) rfl ?_
  refine G_iload_n hX dX6_endBy_6 rfl rfl ?_
  refine G_ist hX dX6_endBy_7 (rfl : nr_il 21 = 58) (by decide) (by unfold vp_in; decide) rfl ?_
  refine G_aload_n hX dX6_endBy_8 rfl rfl ?_
  obtain ⟨ho_9, hok⟩ := hok
  refine G_cVi hX dX6_endBy_9 lv_RX6_235 (sp_X6_round Γ ρ d N z (nr_st g 21 (56 : Int32) a1) ho_9) (by omega) nr_is_20 rfl rfl (Nat.le_of_ble_eq_true rfl) rfl (fun r_9 u_9 e_9 => ?_)
  obtain ⟨z_9, g_9⟩ := u_9
  rw [e_9, nr_K_mk] at hR
  rw [e_9, nr_KP_mk] at hok
  refine G_istore_n hX dX6_endBy_12 (by decide) rfl rfl ?_
  refine G_aload_n hX dX6_endBy_13 rfl rfl ?_
  obtain ⟨ho_14, hok⟩ := hok
  refine G_cVv hX dX6_endBy_14 lv_RX6_244 (sp_X6_bring Γ ρ d z_9 g_9 ho_14) (by omega) nr_is_20 rfl rfl (Nat.le_of_ble_eq_true rfl) rfl (fun u_14 e_14 => ?_)
  obtain ⟨z_14, g_14⟩ := u_14
  rw [e_14, nr_K_mk] at hR
  refine G_iload_n hX dX6_endBy_17 rfl rfl ?_
  exact G_iret hX rfl dX6_endBy_18 rfl hR.symm
def T_X6_fewest_50 (N : Nat) (kT_23 : Int32 → Int32 → (Nat → Int32) → (Nat → Nat → Int32) → Int32 × nr_S) (a2 : Int32) (a3 : Int32) (s0 : Int32) (z : Nat → Int32) (g : Nat → Nat → Int32) : Int32 × nr_S := (if s0 = 0 then (kT_23 a2 (a3 + (2 : Int32)) z g) else (nr_K (T_X6_endBy N a3 z g) (fun r_59 z_59 g_59 => (if r_59 = 0 then (kT_23 a3 (a3 + (2 : Int32)) z_59 g_59) else (kT_23 a2 (a3 + (2 : Int32)) z_59 g_59)))))
def O_X6_fewest_50 (N : Nat) (kT_23 : Int32 → Int32 → (Nat → Int32) → (Nat → Nat → Int32) → Int32 × nr_S) (kO_23 : Int32 → Int32 → (Nat → Int32) → (Nat → Nat → Int32) → Prop) (a2 : Int32) (a3 : Int32) (s0 : Int32) (z : Nat → Int32) (g : Nat → Nat → Int32) : Prop := ((s0 = 0 → (kO_23 a2 (a3 + (2 : Int32)) z g)) ∧ (¬ (s0 = 0) → ((O_X6_endBy N a3 z g ∧ nr_KP (T_X6_endBy N a3 z g) (fun r_59 z_59 g_59 => ((r_59 = 0 → (kO_23 a3 (a3 + (2 : Int32)) z_59 g_59)) ∧ (¬ (r_59 = 0) → (kO_23 a2 (a3 + (2 : Int32)) z_59 g_59))))))))
set_option maxHeartbeats 4000000 in
set_option maxRecDepth 100000 in
theorem sp_X6_fewest_50 (Γ : nr_M) (ρ : Nat → Nat) (d : Nat) (N : Nat) (kT_23 : Int32 → Int32 → (Nat → Int32) → (Nat → Nat → Int32) → Int32 × nr_S) (kO_23 : Int32 → Int32 → (Nat → Int32) → (Nat → Nat → Int32) → Prop) (X : nr_CX) (hX : nr_Cx Γ ρ X yX6_fewest cX6_fewest 5 (some .int) (d + 7)) (hk_23 : ∀ (a2 : Int32) (a3 : Int32) (z : Nat → Int32) (g : Nat → Nat → Int32) (R0 : Int32 × nr_S) (_ : kT_23 a2 a3 z g = R0) (_ : kO_23 a2 a3 z g), nr_G Γ ρ X 5 (nr_Qi Γ ρ X (fun x u => R0 = (x, u))) 23 [(0, .ref (ρ 20)), (2, .int a2), (3, .int a3)] [] z g) (a2 : Int32) (a3 : Int32) (s0 : Int32) (z : Nat → Int32) (g : Nat → Nat → Int32) (R0 : Int32 × nr_S) (hR : T_X6_fewest_50 N kT_23 a2 a3 s0 z g = R0) (hok : O_X6_fewest_50 N kT_23 kO_23 a2 a3 s0 z g) : nr_G Γ ρ X 5 (nr_Qi Γ ρ X (fun x u => R0 = (x, u))) 50 [(0, .ref (ρ 20)), (2, .int a2), (3, .int a3)] [.int s0] z g := by
  rw [T_X6_fewest_50] at hR
  rw [O_X6_fewest_50] at hok
  refine G_istore hX dX6_fewest_50 (by decide) rfl rfl ?_
  refine G_iload hX dX6_fewest_52 rfl rfl ?_
  refine G_if_eq (tg := 69) hX dX6_fewest_54 (by decide) rfl (fun (h_54 : s0 = 0) => ?_) (fun (h_54 : ¬ (s0 = 0)) => ?_)
  · rw [if_pos h_54] at hR
    replace hok := hok.1 h_54
    refine G_iload_n hX dX6_fewest_69 rfl rfl ?_
    refine G_istore_n hX dX6_fewest_70 (by decide) rfl rfl ?_
    refine G_iinc (v := (a3 + (2 : Int32))) hX dX6_fewest_71 rfl rfl (by decide) rfl rfl ?_
    refine G_goto (tg := 23) hX dX6_fewest_74 (by decide) ?_
    exact nr_sub (by exact ⟨rfl, rfl, rfl, trivial⟩) (hk_23 a2 (a3 + (2 : Int32)) z g R0 hR hok)
  · rw [if_neg h_54] at hR
    replace hok := hok.2 h_54
    refine G_aload_n hX dX6_fewest_57 rfl rfl ?_
    refine G_iload_n hX dX6_fewest_58 rfl rfl ?_
    obtain ⟨ho_59, hok⟩ := hok
    refine G_cVi hX dX6_fewest_59 lv_RX6_253 (sp_X6_endBy Γ ρ d N a3 z g ho_59) (by omega) nr_is_20 rfl rfl (Nat.le_of_ble_eq_true rfl) rfl (fun r_59 u_59 e_59 => ?_)
    obtain ⟨z_59, g_59⟩ := u_59
    rw [e_59, nr_K_mk] at hR
    rw [e_59, nr_KP_mk] at hok
    refine G_if_ne (tg := 69) hX dX6_fewest_62 (by decide) rfl (fun (h_62 : ¬ (r_59 = 0)) => ?_) (fun (h_62 : r_59 = 0) => ?_)
    · rw [if_neg h_62] at hR
      replace hok := hok.2 h_62
      refine G_iload_n hX dX6_fewest_69 rfl rfl ?_
      refine G_istore_n hX dX6_fewest_70 (by decide) rfl rfl ?_
      refine G_iinc (v := (a3 + (2 : Int32))) hX dX6_fewest_71 rfl rfl (by decide) rfl rfl ?_
      refine G_goto (tg := 23) hX dX6_fewest_74 (by decide) ?_
      exact nr_sub (by exact ⟨rfl, rfl, rfl, trivial⟩) (hk_23 a2 (a3 + (2 : Int32)) z_59 g_59 R0 hR hok)
    · rw [if_pos h_62] at hR
      replace hok := hok.1 h_62
      refine G_iload_n hX dX6_fewest_65 rfl rfl ?_
      refine G_goto (tg := 70) hX dX6_fewest_66 (by decide) ?_
      refine G_istore_n hX dX6_fewest_70 (by decide) rfl rfl ?_
      refine G_iinc (v := (a3 + (2 : Int32))) hX dX6_fewest_71 rfl rfl (by decide) rfl rfl ?_
      refine G_goto (tg := 23) hX dX6_fewest_74 (by decide) ?_
      exact nr_sub (by exact ⟨rfl, rfl, rfl, trivial⟩) (hk_23 a3 (a3 + (2 : Int32)) z_59 g_59 R0 hR hok)
def T_X6_fewest_45 (N : Nat) (kT_23 : Int32 → Int32 → (Nat → Int32) → (Nat → Nat → Int32) → Int32 × nr_S) (a2 : Int32) (a3 : Int32) (z : Nat → Int32) (g : Nat → Nat → Int32) : Int32 × nr_S := (T_X6_fewest_50 N kT_23 a2 a3 (1 : Int32) z g)
def O_X6_fewest_45 (N : Nat) (kT_23 : Int32 → Int32 → (Nat → Int32) → (Nat → Nat → Int32) → Int32 × nr_S) (kO_23 : Int32 → Int32 → (Nat → Int32) → (Nat → Nat → Int32) → Prop) (a2 : Int32) (a3 : Int32) (z : Nat → Int32) (g : Nat → Nat → Int32) : Prop := (O_X6_fewest_50 N kT_23 kO_23 a2 a3 (1 : Int32) z g)
set_option maxHeartbeats 4000000 in
set_option maxRecDepth 100000 in
theorem sp_X6_fewest_45 (Γ : nr_M) (ρ : Nat → Nat) (d : Nat) (N : Nat) (kT_23 : Int32 → Int32 → (Nat → Int32) → (Nat → Nat → Int32) → Int32 × nr_S) (kO_23 : Int32 → Int32 → (Nat → Int32) → (Nat → Nat → Int32) → Prop) (X : nr_CX) (hX : nr_Cx Γ ρ X yX6_fewest cX6_fewest 5 (some .int) (d + 7)) (hk_23 : ∀ (a2 : Int32) (a3 : Int32) (z : Nat → Int32) (g : Nat → Nat → Int32) (R0 : Int32 × nr_S) (_ : kT_23 a2 a3 z g = R0) (_ : kO_23 a2 a3 z g), nr_G Γ ρ X 5 (nr_Qi Γ ρ X (fun x u => R0 = (x, u))) 23 [(0, .ref (ρ 20)), (2, .int a2), (3, .int a3)] [] z g) (a2 : Int32) (a3 : Int32) (z : Nat → Int32) (g : Nat → Nat → Int32) (R0 : Int32 × nr_S) (hR : T_X6_fewest_45 N kT_23 a2 a3 z g = R0) (hok : O_X6_fewest_45 N kT_23 kO_23 a2 a3 z g) : nr_G Γ ρ X 5 (nr_Qi Γ ρ X (fun x u => R0 = (x, u))) 45 [(0, .ref (ρ 20)), (2, .int a2), (3, .int a3)] [] z g := by
  rw [T_X6_fewest_45] at hR
  rw [O_X6_fewest_45] at hok
  refine G_iconst (v := (1 : Int32)) hX dX6_fewest_45 (by decide) rfl ?_
  refine G_goto (tg := 50) hX dX6_fewest_46 (by decide) ?_
  exact nr_sub (by exact ⟨rfl, rfl, rfl, trivial⟩) (sp_X6_fewest_50 Γ ρ d N kT_23 kO_23 X hX hk_23 a2 a3 (1 : Int32) z g R0 hR hok)
def T_X6_fewest_23 (N : Nat) : Nat → Int32 → Int32 → (Nat → Int32) → (Nat → Nat → Int32) → Int32 × nr_S
  | 0, _, _, z, g => (0, z, g)
  | n + 1, a2, a3, z, g => (if (16 : Int32) ≤ a3 then (a2, z, g) else (if a2 = (-1 : Int32) then (T_X6_fewest_45 N (T_X6_fewest_23 N n) a2 a3 z g) else (if (R_X6_bits a2 z g) ≤ (R_X6_bits a3 z g) then (T_X6_fewest_50 N (T_X6_fewest_23 N n) a2 a3 (0 : Int32) z g) else (T_X6_fewest_45 N (T_X6_fewest_23 N n) a2 a3 z g))))
def O_X6_fewest_23 (N : Nat) : Nat → Int32 → Int32 → (Nat → Int32) → (Nat → Nat → Int32) → Prop
  | 0, _, _, _, _ => False
  | n + 1, a2, a3, z, g => (((16 : Int32) ≤ a3 → True) ∧ (¬ ((16 : Int32) ≤ a3) → ((a2 = (-1 : Int32) → (O_X6_fewest_45 N (T_X6_fewest_23 N n) (O_X6_fewest_23 N n) a2 a3 z g)) ∧ (¬ (a2 = (-1 : Int32)) → (O_X6_bits a3 z g ∧ (O_X6_bits a2 z g ∧ (((R_X6_bits a2 z g) ≤ (R_X6_bits a3 z g) → (O_X6_fewest_50 N (T_X6_fewest_23 N n) (O_X6_fewest_23 N n) a2 a3 (0 : Int32) z g)) ∧ (¬ ((R_X6_bits a2 z g) ≤ (R_X6_bits a3 z g)) → (O_X6_fewest_45 N (T_X6_fewest_23 N n) (O_X6_fewest_23 N n) a2 a3 z g)))))))))
set_option maxHeartbeats 4000000 in
set_option maxRecDepth 100000 in
theorem sp_X6_fewest_23 (Γ : nr_M) (ρ : Nat → Nat) (d : Nat) (N : Nat) (X : nr_CX) (hX : nr_Cx Γ ρ X yX6_fewest cX6_fewest 5 (some .int) (d + 7)) : ∀ (n : Nat) (a2 : Int32) (a3 : Int32) (z : Nat → Int32) (g : Nat → Nat → Int32) (R0 : Int32 × nr_S) (_ : T_X6_fewest_23 N n a2 a3 z g = R0) (_ : O_X6_fewest_23 N n a2 a3 z g), nr_G Γ ρ X 5 (nr_Qi Γ ρ X (fun x u => R0 = (x, u))) 23 [(0, .ref (ρ 20)), (2, .int a2), (3, .int a3)] [] z g := by
  intro n
  induction n with
  | zero => intro a2 a3 z g R0 hR hok; exact False.elim hok
  | succ n ih =>
    intro a2 a3 z g R0 hR hok
    rw [T_X6_fewest_23] at hR
    rw [O_X6_fewest_23] at hok
    refine G_iload_n hX dX6_fewest_23 rfl rfl ?_
    refine G_bipush (v := (16 : Int32)) hX dX6_fewest_24 (by decide) rfl ?_
    refine G_icmp_ge (tg := 77) hX dX6_fewest_26 (by decide) rfl (fun (h_26 : (16 : Int32) ≤ a3) => ?_) (fun (h_26 : ¬ ((16 : Int32) ≤ a3)) => ?_)
    · rw [if_pos h_26] at hR
      replace hok := hok.1 h_26
      refine G_iload_n hX dX6_fewest_77 rfl rfl ?_
      exact G_iret hX rfl dX6_fewest_78 rfl hR.symm
    · rw [if_neg h_26] at hR
      replace hok := hok.2 h_26
      refine G_iload_n hX dX6_fewest_29 rfl rfl ?_
      refine G_iconst (v := (-1 : Int32)) hX dX6_fewest_30 (by decide) rfl ?_
      refine G_icmp_eq (tg := 45) hX dX6_fewest_31 (by decide) rfl (fun (h_31 : a2 = (-1 : Int32)) => ?_) (fun (h_31 : ¬ (a2 = (-1 : Int32))) => ?_)
      · rw [if_pos h_31] at hR
        replace hok := hok.1 h_31
        exact nr_sub (by exact ⟨rfl, rfl, rfl, trivial⟩) (sp_X6_fewest_45 Γ ρ d N (T_X6_fewest_23 N n) (O_X6_fewest_23 N n) X hX ih a2 a3 z g R0 hR hok)
      · rw [if_neg h_31] at hR
        replace hok := hok.2 h_31
        refine G_iload_n hX dX6_fewest_34 rfl rfl ?_
        obtain ⟨ho_35, hok⟩ := hok
        refine G_fSi hX dX6_fewest_35 ls_RX6_250 (sp_X6_bits Γ ρ d a3 z g ho_35) (by omega) rfl rfl (Nat.le_of_ble_eq_true rfl) rfl ?_
        refine G_iload_n hX dX6_fewest_38 rfl rfl ?_
        obtain ⟨ho_39, hok⟩ := hok
        refine G_fSi hX dX6_fewest_39 ls_RX6_250 (sp_X6_bits Γ ρ d a2 z g ho_39) (by omega) rfl rfl (Nat.le_of_ble_eq_true rfl) rfl ?_
        refine G_icmp_ge (tg := 49) hX dX6_fewest_42 (by decide) rfl (fun (h_42 : (R_X6_bits a2 z g) ≤ (R_X6_bits a3 z g)) => ?_) (fun (h_42 : ¬ ((R_X6_bits a2 z g) ≤ (R_X6_bits a3 z g))) => ?_)
        · rw [if_pos h_42] at hR
          replace hok := hok.1 h_42
          refine G_iconst (v := (0 : Int32)) hX dX6_fewest_49 (by decide) rfl ?_
          exact nr_sub (by exact ⟨rfl, rfl, rfl, trivial⟩) (sp_X6_fewest_50 Γ ρ d N (T_X6_fewest_23 N n) (O_X6_fewest_23 N n) X hX ih a2 a3 (0 : Int32) z g R0 hR hok)
        · rw [if_neg h_42] at hR
          replace hok := hok.2 h_42
          exact nr_sub (by exact ⟨rfl, rfl, rfl, trivial⟩) (sp_X6_fewest_45 Γ ρ d N (T_X6_fewest_23 N n) (O_X6_fewest_23 N n) X hX ih a2 a3 z g R0 hR hok)
def T_X6_fewest (N : Nat) (z : Nat → Int32) (g : Nat → Nat → Int32) : Int32 × nr_S := (nr_K (T_X6_reads N z g) (fun r_1 z_1 g_1 => (if r_1 = (-1 : Int32) then (nr_K (T_X6_keep z_1 g_1) (fun r_18 z_18 g_18 => (T_X6_fewest_23 N 500 (-1 : Int32) (0 : Int32) z_18 g_18))) else (((-10 : Int32) - r_1), z_1, g_1))))
def O_X6_fewest (N : Nat) (z : Nat → Int32) (g : Nat → Nat → Int32) : Prop := ((O_X6_reads N z g ∧ nr_KP (T_X6_reads N z g) (fun r_1 z_1 g_1 => ((r_1 = (-1 : Int32) → ((O_X6_keep z_1 g_1 ∧ nr_KP (T_X6_keep z_1 g_1) (fun r_18 z_18 g_18 => (O_X6_fewest_23 N 500 (-1 : Int32) (0 : Int32) z_18 g_18))))) ∧ (¬ (r_1 = (-1 : Int32)) → True)))))
set_option maxHeartbeats 4000000 in
set_option maxRecDepth 100000 in
theorem sp_X6_fewest (Γ : nr_M) (ρ : Nat → Nat) (d : Nat) (N : Nat) (z : Nat → Int32) (g : Nat → Nat → Int32) (hok : O_X6_fewest N z g) : nr_Si Γ ρ (d + 7) yX6_fewest cX6_fewest 5 (some .int) [.ref (ρ 20)] z g (fun x u => (T_X6_fewest N z g) = (x, u)) := by
  refine nr_body_i (lv := [(0, .ref (ρ 20))]) (by decide +kernel) (Nat.le_of_ble_eq_true rfl) rfl (fun X hX => ?_)
  generalize hR : (T_X6_fewest N z g) = R0
  rw [T_X6_fewest] at hR
  rw [O_X6_fewest] at hok
  refine G_aload_n hX dX6_fewest_0 rfl rfl ?_
  obtain ⟨ho_1, hok⟩ := hok
  refine G_cVi hX dX6_fewest_1 lv_RX6_232 (sp_X6_reads Γ ρ d N z g ho_1) (by omega) nr_is_20 rfl rfl (Nat.le_of_ble_eq_true rfl) rfl (fun r_1 u_1 e_1 => ?_)
  obtain ⟨z_1, g_1⟩ := u_1
  rw [e_1, nr_K_mk] at hR
  rw [e_1, nr_KP_mk] at hok
  refine G_istore_n hX dX6_fewest_4 (by decide) rfl rfl ?_
  refine G_iload_n hX dX6_fewest_5 rfl rfl ?_
  refine G_iconst (v := (-1 : Int32)) hX dX6_fewest_6 (by decide) rfl ?_
  refine G_icmp_eq (tg := 15) hX dX6_fewest_7 (by decide) rfl (fun (h_7 : r_1 = (-1 : Int32)) => ?_) (fun (h_7 : ¬ (r_1 = (-1 : Int32))) => ?_)
  · rw [if_pos h_7] at hR
    replace hok := hok.1 h_7
    refine G_iconst (v := (-1 : Int32)) hX dX6_fewest_15 (by decide) rfl ?_
    refine G_istore_n hX dX6_fewest_16 (by decide) rfl rfl ?_
    refine G_aload_n hX dX6_fewest_17 rfl rfl ?_
    obtain ⟨ho_18, hok⟩ := hok
    refine G_cVv hX dX6_fewest_18 lv_RX6_241 (sp_X6_keep Γ ρ d z_1 g_1 ho_18) (by omega) nr_is_20 rfl rfl (Nat.le_of_ble_eq_true rfl) rfl (fun u_18 e_18 => ?_)
    obtain ⟨z_18, g_18⟩ := u_18
    rw [e_18, nr_K_mk] at hR
    rw [e_18, nr_KP_mk] at hok
    refine G_iconst (v := (0 : Int32)) hX dX6_fewest_21 (by decide) rfl ?_
    refine G_istore_n hX dX6_fewest_22 (by decide) rfl rfl ?_
    exact nr_sub (by exact ⟨rfl, rfl, rfl, trivial⟩) (sp_X6_fewest_23 Γ ρ d N X hX 500 (-1 : Int32) (0 : Int32) z_18 g_18 R0 hR hok)
  · rw [if_neg h_7] at hR
    replace hok := hok.2 h_7
    refine G_bipush (v := (-10 : Int32)) hX dX6_fewest_10 (by decide) rfl ?_
    refine G_iload_n hX dX6_fewest_12 rfl rfl ?_
    refine G_isub hX dX6_fewest_13 rfl ?_
    exact G_iret hX rfl dX6_fewest_14 rfl hR.symm
def T_X6_were_19 (N : Nat)  (z : Nat → Int32) (g : Nat → Nat → Int32) : Int32 × nr_S := (nr_K (T_X6_bad (-2 : Int32) z g) (fun r_22 z_22 g_22 => (r_22, z_22, g_22)))
def O_X6_were_19 (N : Nat)  (z : Nat → Int32) (g : Nat → Nat → Int32) : Prop := True
set_option maxHeartbeats 4000000 in
set_option maxRecDepth 100000 in
theorem sp_X6_were_19 (Γ : nr_M) (ρ : Nat → Nat) (d : Nat) (N : Nat) (X : nr_CX) (hX : nr_Cx Γ ρ X yX6_were cX6_were 5 (some .int) (d + 6))  (z : Nat → Int32) (g : Nat → Nat → Int32) (R0 : Int32 × nr_S) (hR : T_X6_were_19 N  z g = R0) (hok : O_X6_were_19 N  z g) : nr_G Γ ρ X 5 (nr_Qi Γ ρ X (fun x u => R0 = (x, u))) 19 [(0, .ref (ρ 20))] [] z g := by
  rw [T_X6_were_19] at hR
  rw [O_X6_were_19] at hok
  refine G_aload_n hX dX6_were_19 rfl rfl ?_
  refine G_bipush (v := (-2 : Int32)) hX dX6_were_20 (by decide) rfl ?_
  refine G_cVi hX dX6_were_22 lv_RX6_82 (sp_X6_bad Γ ρ d (-2 : Int32) z g) (by omega) nr_is_20 rfl rfl (Nat.le_of_ble_eq_true rfl) rfl (fun r_22 u_22 e_22 => ?_)
  obtain ⟨z_22, g_22⟩ := u_22
  rw [e_22, nr_K_mk] at hR
  exact G_iret hX rfl dX6_were_25 rfl hR.symm
def T_X6_were (N : Nat) (a1 : Int32) (a2 : Int32) (z : Nat → Int32) (g : Nat → Nat → Int32) : Int32 × nr_S := (if (R_X6_isRoom a1) = 0 then (T_X6_were_19 N  z g) else (if (R_X6_in (a2).toInt64 (0 : Int64) (4 : Int64)) = 0 then (T_X6_were_19 N  z g) else (nr_K (T_X6_reads N z g) (fun r_27 z_27 g_27 => (if r_27 = (-1 : Int32) then (nr_K (T_X6_keep z_27 g_27) (fun r_42 z_42 g_42 => (nr_K (T_X6_put a1 (0 : Int32) a2 z_42 g_42) (fun r_49 z_49 g_49 => (nr_K (T_X6_round N z_49 g_49) (fun r_53 z_53 g_53 => (nr_K (T_X6_bring z_53 g_53) (fun r_59 z_59 g_59 => (r_53, z_59, g_59))))))))) else (((-10 : Int32) - r_27), z_27, g_27))))))
def O_X6_were (N : Nat) (a1 : Int32) (a2 : Int32) (z : Nat → Int32) (g : Nat → Nat → Int32) : Prop := (((R_X6_isRoom a1) = 0 → (O_X6_were_19 N  z g)) ∧ (¬ ((R_X6_isRoom a1) = 0) → (((R_X6_in (a2).toInt64 (0 : Int64) (4 : Int64)) = 0 → (O_X6_were_19 N  z g)) ∧ (¬ ((R_X6_in (a2).toInt64 (0 : Int64) (4 : Int64)) = 0) → ((O_X6_reads N z g ∧ nr_KP (T_X6_reads N z g) (fun r_27 z_27 g_27 => ((r_27 = (-1 : Int32) → ((O_X6_keep z_27 g_27 ∧ nr_KP (T_X6_keep z_27 g_27) (fun r_42 z_42 g_42 => ((O_X6_put a1 (0 : Int32) a2 z_42 g_42 ∧ nr_KP (T_X6_put a1 (0 : Int32) a2 z_42 g_42) (fun r_49 z_49 g_49 => ((O_X6_round N z_49 g_49 ∧ nr_KP (T_X6_round N z_49 g_49) (fun r_53 z_53 g_53 => ((O_X6_bring z_53 g_53 ∧ True)))))))))))) ∧ (¬ (r_27 = (-1 : Int32)) → True)))))))))
set_option maxHeartbeats 4000000 in
set_option maxRecDepth 100000 in
theorem sp_X6_were (Γ : nr_M) (ρ : Nat → Nat) (d : Nat) (N : Nat) (a1 : Int32) (a2 : Int32) (z : Nat → Int32) (g : Nat → Nat → Int32) (hok : O_X6_were N a1 a2 z g) : nr_Si Γ ρ (d + 6) yX6_were cX6_were 5 (some .int) [.ref (ρ 20), .int a1, .int a2] z g (fun x u => (T_X6_were N a1 a2 z g) = (x, u)) := by
  refine nr_body_i (lv := [(0, .ref (ρ 20)), (1, .int a1), (2, .int a2)]) (by decide +kernel) (Nat.le_of_ble_eq_true rfl) rfl (fun X hX => ?_)
  generalize hR : (T_X6_were N a1 a2 z g) = R0
  rw [T_X6_were] at hR
  rw [O_X6_were] at hok
  refine G_iload_n hX dX6_were_0 rfl rfl ?_
  refine G_fSi hX dX6_were_1 ls_RX6_76 (sp_X6_isRoom Γ ρ d a1 z g) (by omega) rfl rfl (Nat.le_of_ble_eq_true rfl) rfl ?_
  refine G_if_eq (tg := 19) hX dX6_were_4 (by decide) rfl (fun (h_4 : (R_X6_isRoom a1) = 0) => ?_) (fun (h_4 : ¬ ((R_X6_isRoom a1) = 0)) => ?_)
  · rw [if_pos h_4] at hR
    replace hok := hok.1 h_4
    exact nr_sub (by exact ⟨rfl, trivial⟩) (sp_X6_were_19 Γ ρ d N X hX z g R0 hR hok)
  · rw [if_neg h_4] at hR
    replace hok := hok.2 h_4
    refine G_iload_n hX dX6_were_7 rfl rfl ?_
    refine G_i2l hX dX6_were_8 rfl ?_
    refine G_lconst (v := (0 : Int64)) hX dX6_were_9 (by decide) rfl ?_
    refine G_ldc2 (v := (4 : Int64)) hX dX6_were_10 wk_RX6_256 rfl ?_
    refine G_fSi hX dX6_were_13 ls_RX6_62 (sp_X6_in Γ ρ d (a2).toInt64 (0 : Int64) (4 : Int64) z g) (by omega) rfl rfl (Nat.le_of_ble_eq_true rfl) rfl ?_
    refine G_if_ne (tg := 26) hX dX6_were_16 (by decide) rfl (fun (h_16 : ¬ ((R_X6_in (a2).toInt64 (0 : Int64) (4 : Int64)) = 0)) => ?_) (fun (h_16 : (R_X6_in (a2).toInt64 (0 : Int64) (4 : Int64)) = 0) => ?_)
    · rw [if_neg h_16] at hR
      replace hok := hok.2 h_16
      refine G_aload_n hX dX6_were_26 rfl rfl ?_
      obtain ⟨ho_27, hok⟩ := hok
      refine G_cVi hX dX6_were_27 lv_RX6_232 (sp_X6_reads Γ ρ d N z g ho_27) (by omega) nr_is_20 rfl rfl (Nat.le_of_ble_eq_true rfl) rfl (fun r_27 u_27 e_27 => ?_)
      obtain ⟨z_27, g_27⟩ := u_27
      rw [e_27, nr_K_mk] at hR
      rw [e_27, nr_KP_mk] at hok
      refine G_istore_n hX dX6_were_30 (by decide) rfl rfl ?_
      refine G_iload_n hX dX6_were_31 rfl rfl ?_
      refine G_iconst (v := (-1 : Int32)) hX dX6_were_32 (by decide) rfl ?_
      refine G_icmp_eq (tg := 41) hX dX6_were_33 (by decide) rfl (fun (h_33 : r_27 = (-1 : Int32)) => ?_) (fun (h_33 : ¬ (r_27 = (-1 : Int32))) => ?_)
      · rw [if_pos h_33] at hR
        replace hok := hok.1 h_33
        refine G_aload_n hX dX6_were_41 rfl rfl ?_
        obtain ⟨ho_42, hok⟩ := hok
        refine G_cVv hX dX6_were_42 lv_RX6_241 (sp_X6_keep Γ ρ d z_27 g_27 ho_42) (by omega) nr_is_20 rfl rfl (Nat.le_of_ble_eq_true rfl) rfl (fun u_42 e_42 => ?_)
        obtain ⟨z_42, g_42⟩ := u_42
        rw [e_42, nr_K_mk] at hR
        rw [e_42, nr_KP_mk] at hok
        refine G_aload_n hX dX6_were_45 rfl rfl ?_
        refine G_iload_n hX dX6_were_46 rfl rfl ?_
        refine G_iconst (v := (0 : Int32)) hX dX6_were_47 (by decide) rfl ?_
        refine G_iload_n hX dX6_were_48 rfl rfl ?_
        obtain ⟨ho_49, hok⟩ := hok
        refine G_cVv hX dX6_were_49 lv_RX6_89 (sp_X6_put Γ ρ d a1 (0 : Int32) a2 z_42 g_42 ho_49) (by omega) nr_is_20 rfl rfl (Nat.le_of_ble_eq_true rfl) rfl (fun u_49 e_49 => ?_)
        obtain ⟨z_49, g_49⟩ := u_49
        rw [e_49, nr_K_mk] at hR
        rw [e_49, nr_KP_mk] at hok
        refine G_aload_n hX dX6_were_52 rfl rfl ?_
        obtain ⟨ho_53, hok⟩ := hok
        refine G_cVi hX dX6_were_53 lv_RX6_235 (sp_X6_round Γ ρ d N z_49 g_49 ho_53) (by omega) nr_is_20 rfl rfl (Nat.le_of_ble_eq_true rfl) rfl (fun r_53 u_53 e_53 => ?_)
        obtain ⟨z_53, g_53⟩ := u_53
        rw [e_53, nr_K_mk] at hR
        rw [e_53, nr_KP_mk] at hok
        refine G_istore hX dX6_were_56 (by decide) rfl rfl ?_
        refine G_aload_n hX dX6_were_58 rfl rfl ?_
        obtain ⟨ho_59, hok⟩ := hok
        refine G_cVv hX dX6_were_59 lv_RX6_244 (sp_X6_bring Γ ρ d z_53 g_53 ho_59) (by omega) nr_is_20 rfl rfl (Nat.le_of_ble_eq_true rfl) rfl (fun u_59 e_59 => ?_)
        obtain ⟨z_59, g_59⟩ := u_59
        rw [e_59, nr_K_mk] at hR
        refine G_iload hX dX6_were_62 rfl rfl ?_
        exact G_iret hX rfl dX6_were_64 rfl hR.symm
      · rw [if_neg h_33] at hR
        replace hok := hok.2 h_33
        refine G_bipush (v := (-10 : Int32)) hX dX6_were_36 (by decide) rfl ?_
        refine G_iload_n hX dX6_were_38 rfl rfl ?_
        refine G_isub hX dX6_were_39 rfl ?_
        exact G_iret hX rfl dX6_were_40 rfl hR.symm
    · rw [if_pos h_16] at hR
      replace hok := hok.1 h_16
      exact nr_sub (by exact ⟨rfl, trivial⟩) (sp_X6_were_19 Γ ρ d N X hX z g R0 hR hok)
def T_X6_cures_91 (N : Nat) (kT_43 : Int32 → Int32 → Int32 → (Nat → Int32) → (Nat → Nat → Int32) → Int32 × nr_S) (a1 : Int32) (a4 : Int32) (s0 : Int32) (s1 : Int32) (z : Nat → Int32) (g : Nat → Nat → Int32) : Int32 × nr_S := (nr_K (T_X6_bring z g) (fun r_94 z_94 g_94 => (kT_43 a1 (s0 ||| s1) (a4 + (1 : Int32)) z_94 g_94)))
def O_X6_cures_91 (N : Nat) (kT_43 : Int32 → Int32 → Int32 → (Nat → Int32) → (Nat → Nat → Int32) → Int32 × nr_S) (kO_43 : Int32 → Int32 → Int32 → (Nat → Int32) → (Nat → Nat → Int32) → Prop) (a1 : Int32) (a4 : Int32) (s0 : Int32) (s1 : Int32) (z : Nat → Int32) (g : Nat → Nat → Int32) : Prop := ((O_X6_bring z g ∧ nr_KP (T_X6_bring z g) (fun r_94 z_94 g_94 => (kO_43 a1 (s0 ||| s1) (a4 + (1 : Int32)) z_94 g_94))))
set_option maxHeartbeats 4000000 in
set_option maxRecDepth 100000 in
theorem sp_X6_cures_91 (Γ : nr_M) (ρ : Nat → Nat) (d : Nat) (N : Nat) (kT_43 : Int32 → Int32 → Int32 → (Nat → Int32) → (Nat → Nat → Int32) → Int32 × nr_S) (kO_43 : Int32 → Int32 → Int32 → (Nat → Int32) → (Nat → Nat → Int32) → Prop) (X : nr_CX) (hX : nr_Cx Γ ρ X yX6_cures cX6_cures 5 (some .int) (d + 6)) (hk_43 : ∀ (a1 : Int32) (a3 : Int32) (a4 : Int32) (z : Nat → Int32) (g : Nat → Nat → Int32) (R0 : Int32 × nr_S) (_ : kT_43 a1 a3 a4 z g = R0) (_ : kO_43 a1 a3 a4 z g), nr_G Γ ρ X 5 (nr_Qi Γ ρ X (fun x u => R0 = (x, u))) 43 [(0, .ref (ρ 20)), (1, .int a1), (3, .int a3), (4, .int a4)] [] z g) (a1 : Int32) (a4 : Int32) (s0 : Int32) (s1 : Int32) (z : Nat → Int32) (g : Nat → Nat → Int32) (R0 : Int32 × nr_S) (hR : T_X6_cures_91 N kT_43 a1 a4 s0 s1 z g = R0) (hok : O_X6_cures_91 N kT_43 kO_43 a1 a4 s0 s1 z g) : nr_G Γ ρ X 5 (nr_Qi Γ ρ X (fun x u => R0 = (x, u))) 91 [(0, .ref (ρ 20)), (1, .int a1), (4, .int a4)] [.int s1, .int s0] z g := by
  rw [T_X6_cures_91] at hR
  rw [O_X6_cures_91] at hok
  refine G_ior hX dX6_cures_91 rfl ?_
  refine G_istore_n hX dX6_cures_92 (by decide) rfl rfl ?_
  refine G_aload_n hX dX6_cures_93 rfl rfl ?_
  obtain ⟨ho_94, hok⟩ := hok
  refine G_cVv hX dX6_cures_94 lv_RX6_244 (sp_X6_bring Γ ρ d z g ho_94) (by omega) nr_is_20 rfl rfl (Nat.le_of_ble_eq_true rfl) rfl (fun u_94 e_94 => ?_)
  obtain ⟨z_94, g_94⟩ := u_94
  rw [e_94, nr_K_mk] at hR
  rw [e_94, nr_KP_mk] at hok
  refine G_iinc (v := (a4 + (1 : Int32))) hX dX6_cures_97 rfl rfl (by decide) rfl rfl ?_
  refine G_goto (tg := 43) hX dX6_cures_100 (by decide) ?_
  exact nr_sub (by exact ⟨rfl, rfl, rfl, rfl, trivial⟩) (hk_43 a1 (s0 ||| s1) (a4 + (1 : Int32)) z_94 g_94 R0 hR hok)
def T_X6_cures_71 (N : Nat) (kT_43 : Int32 → Int32 → Int32 → (Nat → Int32) → (Nat → Nat → Int32) → Int32 × nr_S) (a1 : Int32) (a3 : Int32) (a4 : Int32) (s1 : Int32) (s2 : Int32) (z : Nat → Int32) (g : Nat → Nat → Int32) : Int32 × nr_S := (nr_K (T_X6_put s1 s2 (0 : Int32) z g) (fun r_72 z_72 g_72 => (nr_K (T_X6_round N z_72 g_72) (fun r_77 z_77 g_77 => (if r_77 = 0 then (T_X6_cures_91 N kT_43 a1 a4 a3 ((1 : Int32) <<< (a4 &&& 31)) z_77 g_77) else (T_X6_cures_91 N kT_43 a1 a4 a3 (0 : Int32) z_77 g_77))))))
def O_X6_cures_71 (N : Nat) (kT_43 : Int32 → Int32 → Int32 → (Nat → Int32) → (Nat → Nat → Int32) → Int32 × nr_S) (kO_43 : Int32 → Int32 → Int32 → (Nat → Int32) → (Nat → Nat → Int32) → Prop) (a1 : Int32) (a3 : Int32) (a4 : Int32) (s1 : Int32) (s2 : Int32) (z : Nat → Int32) (g : Nat → Nat → Int32) : Prop := ((O_X6_put s1 s2 (0 : Int32) z g ∧ nr_KP (T_X6_put s1 s2 (0 : Int32) z g) (fun r_72 z_72 g_72 => ((O_X6_round N z_72 g_72 ∧ nr_KP (T_X6_round N z_72 g_72) (fun r_77 z_77 g_77 => ((r_77 = 0 → (O_X6_cures_91 N kT_43 kO_43 a1 a4 a3 ((1 : Int32) <<< (a4 &&& 31)) z_77 g_77)) ∧ (¬ (r_77 = 0) → (O_X6_cures_91 N kT_43 kO_43 a1 a4 a3 (0 : Int32) z_77 g_77)))))))))
set_option maxHeartbeats 4000000 in
set_option maxRecDepth 100000 in
theorem sp_X6_cures_71 (Γ : nr_M) (ρ : Nat → Nat) (d : Nat) (N : Nat) (kT_43 : Int32 → Int32 → Int32 → (Nat → Int32) → (Nat → Nat → Int32) → Int32 × nr_S) (kO_43 : Int32 → Int32 → Int32 → (Nat → Int32) → (Nat → Nat → Int32) → Prop) (X : nr_CX) (hX : nr_Cx Γ ρ X yX6_cures cX6_cures 5 (some .int) (d + 6)) (hk_43 : ∀ (a1 : Int32) (a3 : Int32) (a4 : Int32) (z : Nat → Int32) (g : Nat → Nat → Int32) (R0 : Int32 × nr_S) (_ : kT_43 a1 a3 a4 z g = R0) (_ : kO_43 a1 a3 a4 z g), nr_G Γ ρ X 5 (nr_Qi Γ ρ X (fun x u => R0 = (x, u))) 43 [(0, .ref (ρ 20)), (1, .int a1), (3, .int a3), (4, .int a4)] [] z g) (a1 : Int32) (a3 : Int32) (a4 : Int32) (s1 : Int32) (s2 : Int32) (z : Nat → Int32) (g : Nat → Nat → Int32) (R0 : Int32 × nr_S) (hR : T_X6_cures_71 N kT_43 a1 a3 a4 s1 s2 z g = R0) (hok : O_X6_cures_71 N kT_43 kO_43 a1 a3 a4 s1 s2 z g) : nr_G Γ ρ X 5 (nr_Qi Γ ρ X (fun x u => R0 = (x, u))) 71 [(0, .ref (ρ 20)), (1, .int a1), (3, .int a3), (4, .int a4)] [.int s2, .int s1, .ref (ρ 20)] z g := by
  rw [T_X6_cures_71] at hR
  rw [O_X6_cures_71] at hok
  refine G_iconst (v := (0 : Int32)) hX dX6_cures_71 (by decide) rfl ?_
  obtain ⟨ho_72, hok⟩ := hok
  refine G_cVv hX dX6_cures_72 lv_RX6_89 (sp_X6_put Γ ρ d s1 s2 (0 : Int32) z g ho_72) (by omega) nr_is_20 rfl rfl (Nat.le_of_ble_eq_true rfl) rfl (fun u_72 e_72 => ?_)
  obtain ⟨z_72, g_72⟩ := u_72
  rw [e_72, nr_K_mk] at hR
  rw [e_72, nr_KP_mk] at hok
  refine G_iload_n hX dX6_cures_75 rfl rfl ?_
  refine G_aload_n hX dX6_cures_76 rfl rfl ?_
  obtain ⟨ho_77, hok⟩ := hok
  refine G_cVi hX dX6_cures_77 lv_RX6_235 (sp_X6_round Γ ρ d N z_72 g_72 ho_77) (by omega) nr_is_20 rfl rfl (Nat.le_of_ble_eq_true rfl) rfl (fun r_77 u_77 e_77 => ?_)
  obtain ⟨z_77, g_77⟩ := u_77
  rw [e_77, nr_K_mk] at hR
  rw [e_77, nr_KP_mk] at hok
  refine G_if_ne (tg := 90) hX dX6_cures_80 (by decide) rfl (fun (h_80 : ¬ (r_77 = 0)) => ?_) (fun (h_80 : r_77 = 0) => ?_)
  · rw [if_neg h_80] at hR
    replace hok := hok.2 h_80
    refine G_iconst (v := (0 : Int32)) hX dX6_cures_90 (by decide) rfl ?_
    exact nr_sub (by exact ⟨rfl, rfl, rfl, trivial⟩) (sp_X6_cures_91 Γ ρ d N kT_43 kO_43 X hX hk_43 a1 a4 a3 (0 : Int32) z_77 g_77 R0 hR hok)
  · rw [if_pos h_80] at hR
    replace hok := hok.1 h_80
    refine G_iconst (v := (1 : Int32)) hX dX6_cures_83 (by decide) rfl ?_
    refine G_iload hX dX6_cures_84 rfl rfl ?_
    refine G_ishl hX dX6_cures_86 rfl ?_
    refine G_goto (tg := 91) hX dX6_cures_87 (by decide) ?_
    exact nr_sub (by exact ⟨rfl, rfl, rfl, trivial⟩) (sp_X6_cures_91 Γ ρ d N kT_43 kO_43 X hX hk_43 a1 a4 a3 ((1 : Int32) <<< (a4 &&& 31)) z_77 g_77 R0 hR hok)
def T_X6_cures_43 (N : Nat) : Nat → Int32 → Int32 → Int32 → (Nat → Int32) → (Nat → Nat → Int32) → Int32 × nr_S
  | 0, _, _, _, z, g => (0, z, g)
  | n + 1, a1, a3, a4, z, g => (if (8 : Int32) ≤ a4 then (a3, z, g) else (if a1 = 0 then (T_X6_cures_71 N (T_X6_cures_43 N n) a1 a3 a4 a4 (0 : Int32) z g) else (if a1 = (1 : Int32) then (T_X6_cures_71 N (T_X6_cures_43 N n) a1 a3 a4 a4 (3 : Int32) z g) else (T_X6_cures_71 N (T_X6_cures_43 N n) a1 a3 a4 a4 (1 : Int32) z g))))
def O_X6_cures_43 (N : Nat) : Nat → Int32 → Int32 → Int32 → (Nat → Int32) → (Nat → Nat → Int32) → Prop
  | 0, _, _, _, _, _ => False
  | n + 1, a1, a3, a4, z, g => (((8 : Int32) ≤ a4 → True) ∧ (¬ ((8 : Int32) ≤ a4) → ((a1 = 0 → (O_X6_cures_71 N (T_X6_cures_43 N n) (O_X6_cures_43 N n) a1 a3 a4 a4 (0 : Int32) z g)) ∧ (¬ (a1 = 0) → ((a1 = (1 : Int32) → (O_X6_cures_71 N (T_X6_cures_43 N n) (O_X6_cures_43 N n) a1 a3 a4 a4 (3 : Int32) z g)) ∧ (¬ (a1 = (1 : Int32)) → (O_X6_cures_71 N (T_X6_cures_43 N n) (O_X6_cures_43 N n) a1 a3 a4 a4 (1 : Int32) z g)))))))
set_option maxHeartbeats 4000000 in
set_option maxRecDepth 100000 in
theorem sp_X6_cures_43 (Γ : nr_M) (ρ : Nat → Nat) (d : Nat) (N : Nat) (X : nr_CX) (hX : nr_Cx Γ ρ X yX6_cures cX6_cures 5 (some .int) (d + 6)) : ∀ (n : Nat) (a1 : Int32) (a3 : Int32) (a4 : Int32) (z : Nat → Int32) (g : Nat → Nat → Int32) (R0 : Int32 × nr_S) (_ : T_X6_cures_43 N n a1 a3 a4 z g = R0) (_ : O_X6_cures_43 N n a1 a3 a4 z g), nr_G Γ ρ X 5 (nr_Qi Γ ρ X (fun x u => R0 = (x, u))) 43 [(0, .ref (ρ 20)), (1, .int a1), (3, .int a3), (4, .int a4)] [] z g := by
  intro n
  induction n with
  | zero => intro a1 a3 a4 z g R0 hR hok; exact False.elim hok
  | succ n ih =>
    intro a1 a3 a4 z g R0 hR hok
    rw [T_X6_cures_43] at hR
    rw [O_X6_cures_43] at hok
    refine G_iload hX dX6_cures_43 rfl rfl ?_
    refine G_bipush (v := (8 : Int32)) hX dX6_cures_45 (by decide) rfl ?_
    refine G_icmp_ge (tg := 103) hX dX6_cures_47 (by decide) rfl (fun (h_47 : (8 : Int32) ≤ a4) => ?_) (fun (h_47 : ¬ ((8 : Int32) ≤ a4)) => ?_)
    · rw [if_pos h_47] at hR
      replace hok := hok.1 h_47
      refine G_iload_n hX dX6_cures_103 rfl rfl ?_
      exact G_iret hX rfl dX6_cures_104 rfl hR.symm
    · rw [if_neg h_47] at hR
      replace hok := hok.2 h_47
      refine G_aload_n hX dX6_cures_50 rfl rfl ?_
      refine G_iload hX dX6_cures_51 rfl rfl ?_
      refine G_iload_n hX dX6_cures_53 rfl rfl ?_
      refine G_if_ne (tg := 61) hX dX6_cures_54 (by decide) rfl (fun (h_54 : ¬ (a1 = 0)) => ?_) (fun (h_54 : a1 = 0) => ?_)
      · rw [if_neg h_54] at hR
        replace hok := hok.2 h_54
        refine G_iload_n hX dX6_cures_61 rfl rfl ?_
        refine G_iconst (v := (1 : Int32)) hX dX6_cures_62 (by decide) rfl ?_
        refine G_icmp_ne (tg := 70) hX dX6_cures_63 (by decide) rfl (fun (h_63 : ¬ (a1 = (1 : Int32))) => ?_) (fun (h_63 : a1 = (1 : Int32)) => ?_)
        · rw [if_neg h_63] at hR
          replace hok := hok.2 h_63
          refine G_iconst (v := (1 : Int32)) hX dX6_cures_70 (by decide) rfl ?_
          exact nr_sub (by exact ⟨rfl, rfl, rfl, rfl, trivial⟩) (sp_X6_cures_71 Γ ρ d N (T_X6_cures_43 N n) (O_X6_cures_43 N n) X hX ih a1 a3 a4 a4 (1 : Int32) z g R0 hR hok)
        · rw [if_pos h_63] at hR
          replace hok := hok.1 h_63
          refine G_iconst (v := (3 : Int32)) hX dX6_cures_66 (by decide) rfl ?_
          refine G_goto (tg := 71) hX dX6_cures_67 (by decide) ?_
          exact nr_sub (by exact ⟨rfl, rfl, rfl, rfl, trivial⟩) (sp_X6_cures_71 Γ ρ d N (T_X6_cures_43 N n) (O_X6_cures_43 N n) X hX ih a1 a3 a4 a4 (3 : Int32) z g R0 hR hok)
      · rw [if_pos h_54] at hR
        replace hok := hok.1 h_54
        refine G_iconst (v := (0 : Int32)) hX dX6_cures_57 (by decide) rfl ?_
        refine G_goto (tg := 71) hX dX6_cures_58 (by decide) ?_
        exact nr_sub (by exact ⟨rfl, rfl, rfl, rfl, trivial⟩) (sp_X6_cures_71 Γ ρ d N (T_X6_cures_43 N n) (O_X6_cures_43 N n) X hX ih a1 a3 a4 a4 (0 : Int32) z g R0 hR hok)
def T_X6_cures (N : Nat) (a1 : Int32) (z : Nat → Int32) (g : Nat → Nat → Int32) : Int32 × nr_S := (if (R_X6_in (a1).toInt64 (0 : Int64) (2 : Int64)) = 0 then (nr_K (T_X6_bad (-2 : Int32) z g) (fun r_15 z_15 g_15 => (r_15, z_15, g_15))) else (nr_K (T_X6_reads N z g) (fun r_20 z_20 g_20 => (if r_20 = (-1 : Int32) then (nr_K (T_X6_keep z_20 g_20) (fun r_37 z_37 g_37 => (T_X6_cures_43 N 500 a1 (0 : Int32) (0 : Int32) z_37 g_37))) else (((-10 : Int32) - r_20), z_20, g_20)))))
def O_X6_cures (N : Nat) (a1 : Int32) (z : Nat → Int32) (g : Nat → Nat → Int32) : Prop := (((R_X6_in (a1).toInt64 (0 : Int64) (2 : Int64)) = 0 → True) ∧ (¬ ((R_X6_in (a1).toInt64 (0 : Int64) (2 : Int64)) = 0) → ((O_X6_reads N z g ∧ nr_KP (T_X6_reads N z g) (fun r_20 z_20 g_20 => ((r_20 = (-1 : Int32) → ((O_X6_keep z_20 g_20 ∧ nr_KP (T_X6_keep z_20 g_20) (fun r_37 z_37 g_37 => (O_X6_cures_43 N 500 a1 (0 : Int32) (0 : Int32) z_37 g_37))))) ∧ (¬ (r_20 = (-1 : Int32)) → True)))))))
set_option maxHeartbeats 4000000 in
set_option maxRecDepth 100000 in
theorem sp_X6_cures (Γ : nr_M) (ρ : Nat → Nat) (d : Nat) (N : Nat) (a1 : Int32) (z : Nat → Int32) (g : Nat → Nat → Int32) (hok : O_X6_cures N a1 z g) : nr_Si Γ ρ (d + 6) yX6_cures cX6_cures 5 (some .int) [.ref (ρ 20), .int a1] z g (fun x u => (T_X6_cures N a1 z g) = (x, u)) := by
  refine nr_body_i (lv := [(0, .ref (ρ 20)), (1, .int a1)]) (by decide +kernel) (Nat.le_of_ble_eq_true rfl) rfl (fun X hX => ?_)
  generalize hR : (T_X6_cures N a1 z g) = R0
  rw [T_X6_cures] at hR
  rw [O_X6_cures] at hok
  refine G_iload_n hX dX6_cures_0 rfl rfl ?_
  refine G_i2l hX dX6_cures_1 rfl ?_
  refine G_lconst (v := (0 : Int64)) hX dX6_cures_2 (by decide) rfl ?_
  refine G_ldc2 (v := (2 : Int64)) hX dX6_cures_3 wk_RX6_258 rfl ?_
  refine G_fSi hX dX6_cures_6 ls_RX6_62 (sp_X6_in Γ ρ d (a1).toInt64 (0 : Int64) (2 : Int64) z g) (by omega) rfl rfl (Nat.le_of_ble_eq_true rfl) rfl ?_
  refine G_if_ne (tg := 19) hX dX6_cures_9 (by decide) rfl (fun (h_9 : ¬ ((R_X6_in (a1).toInt64 (0 : Int64) (2 : Int64)) = 0)) => ?_) (fun (h_9 : (R_X6_in (a1).toInt64 (0 : Int64) (2 : Int64)) = 0) => ?_)
  · rw [if_neg h_9] at hR
    replace hok := hok.2 h_9
    refine G_aload_n hX dX6_cures_19 rfl rfl ?_
    obtain ⟨ho_20, hok⟩ := hok
    refine G_cVi hX dX6_cures_20 lv_RX6_232 (sp_X6_reads Γ ρ d N z g ho_20) (by omega) nr_is_20 rfl rfl (Nat.le_of_ble_eq_true rfl) rfl (fun r_20 u_20 e_20 => ?_)
    obtain ⟨z_20, g_20⟩ := u_20
    rw [e_20, nr_K_mk] at hR
    rw [e_20, nr_KP_mk] at hok
    refine G_istore_n hX dX6_cures_23 (by decide) rfl rfl ?_
    refine G_iload_n hX dX6_cures_24 rfl rfl ?_
    refine G_iconst (v := (-1 : Int32)) hX dX6_cures_25 (by decide) rfl ?_
    refine G_icmp_eq (tg := 34) hX dX6_cures_26 (by decide) rfl (fun (h_26 : r_20 = (-1 : Int32)) => ?_) (fun (h_26 : ¬ (r_20 = (-1 : Int32))) => ?_)
    · rw [if_pos h_26] at hR
      replace hok := hok.1 h_26
      refine G_iconst (v := (0 : Int32)) hX dX6_cures_34 (by decide) rfl ?_
      refine G_istore_n hX dX6_cures_35 (by decide) rfl rfl ?_
      refine G_aload_n hX dX6_cures_36 rfl rfl ?_
      obtain ⟨ho_37, hok⟩ := hok
      refine G_cVv hX dX6_cures_37 lv_RX6_241 (sp_X6_keep Γ ρ d z_20 g_20 ho_37) (by omega) nr_is_20 rfl rfl (Nat.le_of_ble_eq_true rfl) rfl (fun u_37 e_37 => ?_)
      obtain ⟨z_37, g_37⟩ := u_37
      rw [e_37, nr_K_mk] at hR
      rw [e_37, nr_KP_mk] at hok
      refine G_iconst (v := (0 : Int32)) hX dX6_cures_40 (by decide) rfl ?_
      refine G_istore hX dX6_cures_41 (by decide) rfl rfl ?_
      exact nr_sub (by exact ⟨rfl, rfl, rfl, rfl, trivial⟩) (sp_X6_cures_43 Γ ρ d N X hX 500 a1 (0 : Int32) (0 : Int32) z_37 g_37 R0 hR hok)
    · rw [if_neg h_26] at hR
      replace hok := hok.2 h_26
      refine G_bipush (v := (-10 : Int32)) hX dX6_cures_29 (by decide) rfl ?_
      refine G_iload_n hX dX6_cures_31 rfl rfl ?_
      refine G_isub hX dX6_cures_32 rfl ?_
      exact G_iret hX rfl dX6_cures_33 rfl hR.symm
  · rw [if_pos h_9] at hR
    replace hok := hok.1 h_9
    refine G_aload_n hX dX6_cures_12 rfl rfl ?_
    refine G_bipush (v := (-2 : Int32)) hX dX6_cures_13 (by decide) rfl ?_
    refine G_cVi hX dX6_cures_15 lv_RX6_82 (sp_X6_bad Γ ρ d (-2 : Int32) z g) (by omega) nr_is_20 rfl rfl (Nat.le_of_ble_eq_true rfl) rfl (fun r_15 u_15 e_15 => ?_)
    obtain ⟨z_15, g_15⟩ := u_15
    rw [e_15, nr_K_mk] at hR
    exact G_iret hX rfl dX6_cures_18 rfl hR.symm
def T_X6_ends_66 (N : Nat) (kT_43 : Int32 → Int32 → Int32 → (Nat → Int32) → (Nat → Nat → Int32) → Int32 × nr_S) (a1 : Int32) (a4 : Int32) (s0 : Int32) (s1 : Int32) (z : Nat → Int32) (g : Nat → Nat → Int32) : Int32 × nr_S := (kT_43 a1 (s0 + s1) (a4 + (2 : Int32)) z g)
def O_X6_ends_66 (N : Nat) (kT_43 : Int32 → Int32 → Int32 → (Nat → Int32) → (Nat → Nat → Int32) → Int32 × nr_S) (kO_43 : Int32 → Int32 → Int32 → (Nat → Int32) → (Nat → Nat → Int32) → Prop) (a1 : Int32) (a4 : Int32) (s0 : Int32) (s1 : Int32) (z : Nat → Int32) (g : Nat → Nat → Int32) : Prop := (kO_43 a1 (s0 + s1) (a4 + (2 : Int32)) z g)
set_option maxHeartbeats 4000000 in
set_option maxRecDepth 100000 in
theorem sp_X6_ends_66 (Γ : nr_M) (ρ : Nat → Nat) (d : Nat) (N : Nat) (kT_43 : Int32 → Int32 → Int32 → (Nat → Int32) → (Nat → Nat → Int32) → Int32 × nr_S) (kO_43 : Int32 → Int32 → Int32 → (Nat → Int32) → (Nat → Nat → Int32) → Prop) (X : nr_CX) (hX : nr_Cx Γ ρ X yX6_ends cX6_ends 5 (some .int) (d + 7)) (hk_43 : ∀ (a1 : Int32) (a3 : Int32) (a4 : Int32) (z : Nat → Int32) (g : Nat → Nat → Int32) (R0 : Int32 × nr_S) (_ : kT_43 a1 a3 a4 z g = R0) (_ : kO_43 a1 a3 a4 z g), nr_G Γ ρ X 5 (nr_Qi Γ ρ X (fun x u => R0 = (x, u))) 43 [(0, .ref (ρ 20)), (1, .int a1), (3, .int a3), (4, .int a4)] [] z g) (a1 : Int32) (a4 : Int32) (s0 : Int32) (s1 : Int32) (z : Nat → Int32) (g : Nat → Nat → Int32) (R0 : Int32 × nr_S) (hR : T_X6_ends_66 N kT_43 a1 a4 s0 s1 z g = R0) (hok : O_X6_ends_66 N kT_43 kO_43 a1 a4 s0 s1 z g) : nr_G Γ ρ X 5 (nr_Qi Γ ρ X (fun x u => R0 = (x, u))) 66 [(0, .ref (ρ 20)), (1, .int a1), (4, .int a4)] [.int s1, .int s0] z g := by
  rw [T_X6_ends_66] at hR
  rw [O_X6_ends_66] at hok
  refine G_iadd hX dX6_ends_66 rfl ?_
  refine G_istore_n hX dX6_ends_67 (by decide) rfl rfl ?_
  refine G_iinc (v := (a4 + (2 : Int32))) hX dX6_ends_68 rfl rfl (by decide) rfl rfl ?_
  refine G_goto (tg := 43) hX dX6_ends_71 (by decide) ?_
  exact nr_sub (by exact ⟨rfl, rfl, rfl, rfl, trivial⟩) (hk_43 a1 (s0 + s1) (a4 + (2 : Int32)) z g R0 hR hok)
def T_X6_ends_43 (N : Nat) : Nat → Int32 → Int32 → Int32 → (Nat → Int32) → (Nat → Nat → Int32) → Int32 × nr_S
  | 0, _, _, _, z, g => (0, z, g)
  | n + 1, a1, a3, a4, z, g => (if (16 : Int32) ≤ a4 then (a3, z, g) else (nr_K (T_X6_endBy N a4 z g) (fun r_54 z_54 g_54 => (if r_54 = a1 then (T_X6_ends_66 N (T_X6_ends_43 N n) a1 a4 a3 (1 : Int32) z_54 g_54) else (T_X6_ends_66 N (T_X6_ends_43 N n) a1 a4 a3 (0 : Int32) z_54 g_54)))))
def O_X6_ends_43 (N : Nat) : Nat → Int32 → Int32 → Int32 → (Nat → Int32) → (Nat → Nat → Int32) → Prop
  | 0, _, _, _, _, _ => False
  | n + 1, a1, a3, a4, z, g => (((16 : Int32) ≤ a4 → True) ∧ (¬ ((16 : Int32) ≤ a4) → ((O_X6_endBy N a4 z g ∧ nr_KP (T_X6_endBy N a4 z g) (fun r_54 z_54 g_54 => ((r_54 = a1 → (O_X6_ends_66 N (T_X6_ends_43 N n) (O_X6_ends_43 N n) a1 a4 a3 (1 : Int32) z_54 g_54)) ∧ (¬ (r_54 = a1) → (O_X6_ends_66 N (T_X6_ends_43 N n) (O_X6_ends_43 N n) a1 a4 a3 (0 : Int32) z_54 g_54))))))))
set_option maxHeartbeats 4000000 in
set_option maxRecDepth 100000 in
theorem sp_X6_ends_43 (Γ : nr_M) (ρ : Nat → Nat) (d : Nat) (N : Nat) (X : nr_CX) (hX : nr_Cx Γ ρ X yX6_ends cX6_ends 5 (some .int) (d + 7)) : ∀ (n : Nat) (a1 : Int32) (a3 : Int32) (a4 : Int32) (z : Nat → Int32) (g : Nat → Nat → Int32) (R0 : Int32 × nr_S) (_ : T_X6_ends_43 N n a1 a3 a4 z g = R0) (_ : O_X6_ends_43 N n a1 a3 a4 z g), nr_G Γ ρ X 5 (nr_Qi Γ ρ X (fun x u => R0 = (x, u))) 43 [(0, .ref (ρ 20)), (1, .int a1), (3, .int a3), (4, .int a4)] [] z g := by
  intro n
  induction n with
  | zero => intro a1 a3 a4 z g R0 hR hok; exact False.elim hok
  | succ n ih =>
    intro a1 a3 a4 z g R0 hR hok
    rw [T_X6_ends_43] at hR
    rw [O_X6_ends_43] at hok
    refine G_iload hX dX6_ends_43 rfl rfl ?_
    refine G_bipush (v := (16 : Int32)) hX dX6_ends_45 (by decide) rfl ?_
    refine G_icmp_ge (tg := 74) hX dX6_ends_47 (by decide) rfl (fun (h_47 : (16 : Int32) ≤ a4) => ?_) (fun (h_47 : ¬ ((16 : Int32) ≤ a4)) => ?_)
    · rw [if_pos h_47] at hR
      replace hok := hok.1 h_47
      refine G_iload_n hX dX6_ends_74 rfl rfl ?_
      exact G_iret hX rfl dX6_ends_75 rfl hR.symm
    · rw [if_neg h_47] at hR
      replace hok := hok.2 h_47
      refine G_iload_n hX dX6_ends_50 rfl rfl ?_
      refine G_aload_n hX dX6_ends_51 rfl rfl ?_
      refine G_iload hX dX6_ends_52 rfl rfl ?_
      obtain ⟨ho_54, hok⟩ := hok
      refine G_cVi hX dX6_ends_54 lv_RX6_253 (sp_X6_endBy Γ ρ d N a4 z g ho_54) (by omega) nr_is_20 rfl rfl (Nat.le_of_ble_eq_true rfl) rfl (fun r_54 u_54 e_54 => ?_)
      obtain ⟨z_54, g_54⟩ := u_54
      rw [e_54, nr_K_mk] at hR
      rw [e_54, nr_KP_mk] at hok
      refine G_iload_n hX dX6_ends_57 rfl rfl ?_
      refine G_icmp_ne (tg := 65) hX dX6_ends_58 (by decide) rfl (fun (h_58 : ¬ (r_54 = a1)) => ?_) (fun (h_58 : r_54 = a1) => ?_)
      · rw [if_neg h_58] at hR
        replace hok := hok.2 h_58
        refine G_iconst (v := (0 : Int32)) hX dX6_ends_65 (by decide) rfl ?_
        exact nr_sub (by exact ⟨rfl, rfl, rfl, trivial⟩) (sp_X6_ends_66 Γ ρ d N (T_X6_ends_43 N n) (O_X6_ends_43 N n) X hX ih a1 a4 a3 (0 : Int32) z_54 g_54 R0 hR hok)
      · rw [if_pos h_58] at hR
        replace hok := hok.1 h_58
        refine G_iconst (v := (1 : Int32)) hX dX6_ends_61 (by decide) rfl ?_
        refine G_goto (tg := 66) hX dX6_ends_62 (by decide) ?_
        exact nr_sub (by exact ⟨rfl, rfl, rfl, trivial⟩) (sp_X6_ends_66 Γ ρ d N (T_X6_ends_43 N n) (O_X6_ends_43 N n) X hX ih a1 a4 a3 (1 : Int32) z_54 g_54 R0 hR hok)
def T_X6_ends (N : Nat) (a1 : Int32) (z : Nat → Int32) (g : Nat → Nat → Int32) : Int32 × nr_S := (if (R_X6_in (a1).toInt64 (0 : Int64) (6 : Int64)) = 0 then (nr_K (T_X6_bad (-2 : Int32) z g) (fun r_15 z_15 g_15 => (r_15, z_15, g_15))) else (nr_K (T_X6_reads N z g) (fun r_20 z_20 g_20 => (if r_20 = (-1 : Int32) then (nr_K (T_X6_keep z_20 g_20) (fun r_37 z_37 g_37 => (T_X6_ends_43 N 500 a1 (0 : Int32) (0 : Int32) z_37 g_37))) else (((-10 : Int32) - r_20), z_20, g_20)))))
def O_X6_ends (N : Nat) (a1 : Int32) (z : Nat → Int32) (g : Nat → Nat → Int32) : Prop := (((R_X6_in (a1).toInt64 (0 : Int64) (6 : Int64)) = 0 → True) ∧ (¬ ((R_X6_in (a1).toInt64 (0 : Int64) (6 : Int64)) = 0) → ((O_X6_reads N z g ∧ nr_KP (T_X6_reads N z g) (fun r_20 z_20 g_20 => ((r_20 = (-1 : Int32) → ((O_X6_keep z_20 g_20 ∧ nr_KP (T_X6_keep z_20 g_20) (fun r_37 z_37 g_37 => (O_X6_ends_43 N 500 a1 (0 : Int32) (0 : Int32) z_37 g_37))))) ∧ (¬ (r_20 = (-1 : Int32)) → True)))))))
set_option maxHeartbeats 4000000 in
set_option maxRecDepth 100000 in
theorem sp_X6_ends (Γ : nr_M) (ρ : Nat → Nat) (d : Nat) (N : Nat) (a1 : Int32) (z : Nat → Int32) (g : Nat → Nat → Int32) (hok : O_X6_ends N a1 z g) : nr_Si Γ ρ (d + 7) yX6_ends cX6_ends 5 (some .int) [.ref (ρ 20), .int a1] z g (fun x u => (T_X6_ends N a1 z g) = (x, u)) := by
  refine nr_body_i (lv := [(0, .ref (ρ 20)), (1, .int a1)]) (by decide +kernel) (Nat.le_of_ble_eq_true rfl) rfl (fun X hX => ?_)
  generalize hR : (T_X6_ends N a1 z g) = R0
  rw [T_X6_ends] at hR
  rw [O_X6_ends] at hok
  refine G_iload_n hX dX6_ends_0 rfl rfl ?_
  refine G_i2l hX dX6_ends_1 rfl ?_
  refine G_lconst (v := (0 : Int64)) hX dX6_ends_2 (by decide) rfl ?_
  refine G_ldc2 (v := (6 : Int64)) hX dX6_ends_3 wk_RX6_260 rfl ?_
  refine G_fSi hX dX6_ends_6 ls_RX6_62 (sp_X6_in Γ ρ d (a1).toInt64 (0 : Int64) (6 : Int64) z g) (by omega) rfl rfl (Nat.le_of_ble_eq_true rfl) rfl ?_
  refine G_if_ne (tg := 19) hX dX6_ends_9 (by decide) rfl (fun (h_9 : ¬ ((R_X6_in (a1).toInt64 (0 : Int64) (6 : Int64)) = 0)) => ?_) (fun (h_9 : (R_X6_in (a1).toInt64 (0 : Int64) (6 : Int64)) = 0) => ?_)
  · rw [if_neg h_9] at hR
    replace hok := hok.2 h_9
    refine G_aload_n hX dX6_ends_19 rfl rfl ?_
    obtain ⟨ho_20, hok⟩ := hok
    refine G_cVi hX dX6_ends_20 lv_RX6_232 (sp_X6_reads Γ ρ d N z g ho_20) (by omega) nr_is_20 rfl rfl (Nat.le_of_ble_eq_true rfl) rfl (fun r_20 u_20 e_20 => ?_)
    obtain ⟨z_20, g_20⟩ := u_20
    rw [e_20, nr_K_mk] at hR
    rw [e_20, nr_KP_mk] at hok
    refine G_istore_n hX dX6_ends_23 (by decide) rfl rfl ?_
    refine G_iload_n hX dX6_ends_24 rfl rfl ?_
    refine G_iconst (v := (-1 : Int32)) hX dX6_ends_25 (by decide) rfl ?_
    refine G_icmp_eq (tg := 34) hX dX6_ends_26 (by decide) rfl (fun (h_26 : r_20 = (-1 : Int32)) => ?_) (fun (h_26 : ¬ (r_20 = (-1 : Int32))) => ?_)
    · rw [if_pos h_26] at hR
      replace hok := hok.1 h_26
      refine G_iconst (v := (0 : Int32)) hX dX6_ends_34 (by decide) rfl ?_
      refine G_istore_n hX dX6_ends_35 (by decide) rfl rfl ?_
      refine G_aload_n hX dX6_ends_36 rfl rfl ?_
      obtain ⟨ho_37, hok⟩ := hok
      refine G_cVv hX dX6_ends_37 lv_RX6_241 (sp_X6_keep Γ ρ d z_20 g_20 ho_37) (by omega) nr_is_20 rfl rfl (Nat.le_of_ble_eq_true rfl) rfl (fun u_37 e_37 => ?_)
      obtain ⟨z_37, g_37⟩ := u_37
      rw [e_37, nr_K_mk] at hR
      rw [e_37, nr_KP_mk] at hok
      refine G_iconst (v := (0 : Int32)) hX dX6_ends_40 (by decide) rfl ?_
      refine G_istore hX dX6_ends_41 (by decide) rfl rfl ?_
      exact nr_sub (by exact ⟨rfl, rfl, rfl, rfl, trivial⟩) (sp_X6_ends_43 Γ ρ d N X hX 500 a1 (0 : Int32) (0 : Int32) z_37 g_37 R0 hR hok)
    · rw [if_neg h_26] at hR
      replace hok := hok.2 h_26
      refine G_bipush (v := (-10 : Int32)) hX dX6_ends_29 (by decide) rfl ?_
      refine G_iload_n hX dX6_ends_31 rfl rfl ?_
      refine G_isub hX dX6_ends_32 rfl ?_
      exact G_iret hX rfl dX6_ends_33 rfl hR.symm
  · rw [if_pos h_9] at hR
    replace hok := hok.1 h_9
    refine G_aload_n hX dX6_ends_12 rfl rfl ?_
    refine G_bipush (v := (-2 : Int32)) hX dX6_ends_13 (by decide) rfl ?_
    refine G_cVi hX dX6_ends_15 lv_RX6_82 (sp_X6_bad Γ ρ d (-2 : Int32) z g) (by omega) nr_is_20 rfl rfl (Nat.le_of_ble_eq_true rfl) rfl (fun r_15 u_15 e_15 => ?_)
    obtain ⟨z_15, g_15⟩ := u_15
    rw [e_15, nr_K_mk] at hR
    exact G_iret hX rfl dX6_ends_18 rfl hR.symm
def T_X6_told (N : Nat) (a1 : Int32) (z : Nat → Int32) (g : Nat → Nat → Int32) : Int32 × nr_S := (if (R_X6_in (a1).toInt64 (0 : Int64) (2 : Int64)) = 0 then (nr_K (T_X6_bad (-2 : Int32) z g) (fun r_15 z_15 g_15 => (r_15, z_15, g_15))) else (nr_K (T_X6_reads N z g) (fun r_20 z_20 g_20 => (if r_20 = (-1 : Int32) then (if a1 = 0 then ((z_20 22), z_20, g_20) else (if a1 = (1 : Int32) then ((z_20 23), z_20, g_20) else ((z_20 24), z_20, g_20))) else (((-10 : Int32) - r_20), z_20, g_20)))))
def O_X6_told (N : Nat) (a1 : Int32) (z : Nat → Int32) (g : Nat → Nat → Int32) : Prop := (((R_X6_in (a1).toInt64 (0 : Int64) (2 : Int64)) = 0 → True) ∧ (¬ ((R_X6_in (a1).toInt64 (0 : Int64) (2 : Int64)) = 0) → ((O_X6_reads N z g ∧ True))))
set_option maxHeartbeats 4000000 in
set_option maxRecDepth 100000 in
theorem sp_X6_told (Γ : nr_M) (ρ : Nat → Nat) (d : Nat) (N : Nat) (a1 : Int32) (z : Nat → Int32) (g : Nat → Nat → Int32) (hok : O_X6_told N a1 z g) : nr_Si Γ ρ (d + 3) yX6_told cX6_told 3 (some .int) [.ref (ρ 20), .int a1] z g (fun x u => (T_X6_told N a1 z g) = (x, u)) := by
  refine nr_body_i (lv := [(0, .ref (ρ 20)), (1, .int a1)]) (by decide +kernel) (Nat.le_of_ble_eq_true rfl) rfl (fun X hX => ?_)
  generalize hR : (T_X6_told N a1 z g) = R0
  rw [T_X6_told] at hR
  rw [O_X6_told] at hok
  refine G_iload_n hX dX6_told_0 rfl rfl ?_
  refine G_i2l hX dX6_told_1 rfl ?_
  refine G_lconst (v := (0 : Int64)) hX dX6_told_2 (by decide) rfl ?_
  refine G_ldc2 (v := (2 : Int64)) hX dX6_told_3 wk_RX6_258 rfl ?_
  refine G_fSi hX dX6_told_6 ls_RX6_62 (sp_X6_in Γ ρ d (a1).toInt64 (0 : Int64) (2 : Int64) z g) (by omega) rfl rfl (Nat.le_of_ble_eq_true rfl) rfl ?_
  refine G_if_ne (tg := 19) hX dX6_told_9 (by decide) rfl (fun (h_9 : ¬ ((R_X6_in (a1).toInt64 (0 : Int64) (2 : Int64)) = 0)) => ?_) (fun (h_9 : (R_X6_in (a1).toInt64 (0 : Int64) (2 : Int64)) = 0) => ?_)
  · rw [if_neg h_9] at hR
    replace hok := hok.2 h_9
    refine G_aload_n hX dX6_told_19 rfl rfl ?_
    obtain ⟨ho_20, hok⟩ := hok
    refine G_cVi hX dX6_told_20 lv_RX6_232 (sp_X6_reads Γ ρ d N z g ho_20) (by omega) nr_is_20 rfl rfl (Nat.le_of_ble_eq_true rfl) rfl (fun r_20 u_20 e_20 => ?_)
    obtain ⟨z_20, g_20⟩ := u_20
    rw [e_20, nr_K_mk] at hR
    refine G_istore_n hX dX6_told_23 (by decide) rfl rfl ?_
    refine G_iload_n hX dX6_told_24 rfl rfl ?_
    refine G_iconst (v := (-1 : Int32)) hX dX6_told_25 (by decide) rfl ?_
    refine G_icmp_eq (tg := 34) hX dX6_told_26 (by decide) rfl (fun (h_26 : r_20 = (-1 : Int32)) => ?_) (fun (h_26 : ¬ (r_20 = (-1 : Int32))) => ?_)
    · rw [if_pos h_26] at hR
      refine G_iload_n hX dX6_told_34 rfl rfl ?_
      refine G_if_ne (tg := 45) hX dX6_told_35 (by decide) rfl (fun (h_35 : ¬ (a1 = 0)) => ?_) (fun (h_35 : a1 = 0) => ?_)
      · rw [if_neg h_35] at hR
        refine G_iload_n hX dX6_told_45 rfl rfl ?_
        refine G_iconst (v := (1 : Int32)) hX dX6_told_46 (by decide) rfl ?_
        refine G_icmp_ne (tg := 57) hX dX6_told_47 (by decide) rfl (fun (h_47 : ¬ (a1 = (1 : Int32))) => ?_) (fun (h_47 : a1 = (1 : Int32)) => ?_)
        · rw [if_neg h_47] at hR
          refine G_aload_n hX dX6_told_57 rfl rfl ?_
          refine G_geti hX dX6_told_58 gt_RX6_129 rfl ?_
          exact G_iret hX rfl dX6_told_61 rfl hR.symm
        · rw [if_pos h_47] at hR
          refine G_aload_n hX dX6_told_50 rfl rfl ?_
          refine G_geti hX dX6_told_51 gt_RX6_126 rfl ?_
          refine G_goto (tg := 61) hX dX6_told_54 (by decide) ?_
          exact G_iret hX rfl dX6_told_61 rfl hR.symm
      · rw [if_pos h_35] at hR
        refine G_aload_n hX dX6_told_38 rfl rfl ?_
        refine G_geti hX dX6_told_39 gt_RX6_123 rfl ?_
        refine G_goto (tg := 61) hX dX6_told_42 (by decide) ?_
        exact G_iret hX rfl dX6_told_61 rfl hR.symm
    · rw [if_neg h_26] at hR
      refine G_bipush (v := (-10 : Int32)) hX dX6_told_29 (by decide) rfl ?_
      refine G_iload_n hX dX6_told_31 rfl rfl ?_
      refine G_isub hX dX6_told_32 rfl ?_
      exact G_iret hX rfl dX6_told_33 rfl hR.symm
  · rw [if_pos h_9] at hR
    replace hok := hok.1 h_9
    refine G_aload_n hX dX6_told_12 rfl rfl ?_
    refine G_bipush (v := (-2 : Int32)) hX dX6_told_13 (by decide) rfl ?_
    refine G_cVi hX dX6_told_15 lv_RX6_82 (sp_X6_bad Γ ρ d (-2 : Int32) z g) (by omega) nr_is_20 rfl rfl (Nat.le_of_ble_eq_true rfl) rfl (fun r_15 u_15 e_15 => ?_)
    obtain ⟨z_15, g_15⟩ := u_15
    rw [e_15, nr_K_mk] at hR
    exact G_iret hX rfl dX6_told_18 rfl hR.symm
def R_X6_atMost3 (a0 : Int64) : Int32 := (if (lg_cmp a0 (3 : Int64)) ≤ 0 then (a0).toInt32 else (0 : Int32))
set_option maxHeartbeats 4000000 in
set_option maxRecDepth 100000 in
theorem sp_X6_atMost3 (Γ : nr_M) (ρ : Nat → Nat) (d : Nat) (a0 : Int64) (z : Nat → Int32) (g : Nat → Nat → Int32) : nr_Si Γ ρ (d + 0) yX6_atMost3 cX6_atMost3 2 (some .int) [.long a0] z g (fun x u => x = (R_X6_atMost3 a0) ∧ u = (z, g)) := by
  refine nr_body_i (lv := [(0, .long a0)]) (by decide +kernel) (Nat.le_of_ble_eq_true rfl) rfl (fun X hX => ?_)
  generalize hR : (R_X6_atMost3 a0) = R0
  rw [R_X6_atMost3] at hR
  refine G_lload_n hX dX6_atMost3_0 rfl rfl ?_
  refine G_ldc2 (v := (3 : Int64)) hX dX6_atMost3_1 wk_RX6_80 rfl ?_
  refine G_lcmp hX dX6_atMost3_4 rfl ?_
  refine G_if_le (tg := 12) hX dX6_atMost3_5 (by decide) rfl (fun (h_5 : (lg_cmp a0 (3 : Int64)) ≤ 0) => ?_) (fun (h_5 : ¬ ((lg_cmp a0 (3 : Int64)) ≤ 0)) => ?_)
  · rw [if_pos h_5] at hR
    refine G_lload_n hX dX6_atMost3_12 rfl rfl ?_
    refine G_l2i hX dX6_atMost3_13 rfl ?_
    exact G_iret hX rfl dX6_atMost3_14 rfl ⟨hR, rfl⟩
  · rw [if_neg h_5] at hR
    refine G_iconst (v := (0 : Int32)) hX dX6_atMost3_8 (by decide) rfl ?_
    refine G_goto (tg := 14) hX dX6_atMost3_9 (by decide) ?_
    exact G_iret hX rfl dX6_atMost3_14 rfl ⟨hR, rfl⟩
def T_X6_draw_53  : Nat → Int64 → Int32 → (Nat → Int32) → (Nat → Nat → Int32) → Int32 × nr_S
  | 0, _, _, z, g => (0, z, g)
  | n + 1, a2, a4, z, g => (if (8 : Int32) ≤ a4 then ((0 : Int32), z, g) else (nr_K (T_X6_put a4 (0 : Int32) ((nr_lrem ((nr_lrem ((a2 * (1103515245 : Int64)) + (12345 : Int64)) (2147483648 : Int64)) / (65536 : Int64)) (5 : Int64))).toInt32 z g) (fun r_88 z_88 g_88 => (nr_K (T_X6_put a4 (1 : Int32) (R_X6_atMost3 (nr_lrem ((nr_lrem ((a2 * (1103515245 : Int64)) + (12345 : Int64)) (2147483648 : Int64)) / (1024 : Int64)) (8 : Int64))) z_88 g_88) (fun r_107 z_107 g_107 => (nr_K (T_X6_put a4 (2 : Int32) (R_X6_atMost3 (nr_lrem ((nr_lrem ((a2 * (1103515245 : Int64)) + (12345 : Int64)) (2147483648 : Int64)) / (4096 : Int64)) (8 : Int64))) z_107 g_107) (fun r_126 z_126 g_126 => (nr_K (T_X6_put a4 (3 : Int32) ((nr_lrem ((nr_lrem ((a2 * (1103515245 : Int64)) + (12345 : Int64)) (2147483648 : Int64)) / (16384 : Int64)) (10 : Int64))).toInt32 z_126 g_126) (fun r_143 z_143 g_143 => (T_X6_draw_53 n (nr_lrem ((a2 * (1103515245 : Int64)) + (12345 : Int64)) (2147483648 : Int64)) (a4 + (1 : Int32)) z_143 g_143))))))))))
def O_X6_draw_53  : Nat → Int64 → Int32 → (Nat → Int32) → (Nat → Nat → Int32) → Prop
  | 0, _, _, _, _ => False
  | n + 1, a2, a4, z, g => (((8 : Int32) ≤ a4 → True) ∧ (¬ ((8 : Int32) ≤ a4) → ((O_X6_put a4 (0 : Int32) ((nr_lrem ((nr_lrem ((a2 * (1103515245 : Int64)) + (12345 : Int64)) (2147483648 : Int64)) / (65536 : Int64)) (5 : Int64))).toInt32 z g ∧ nr_KP (T_X6_put a4 (0 : Int32) ((nr_lrem ((nr_lrem ((a2 * (1103515245 : Int64)) + (12345 : Int64)) (2147483648 : Int64)) / (65536 : Int64)) (5 : Int64))).toInt32 z g) (fun r_88 z_88 g_88 => ((O_X6_put a4 (1 : Int32) (R_X6_atMost3 (nr_lrem ((nr_lrem ((a2 * (1103515245 : Int64)) + (12345 : Int64)) (2147483648 : Int64)) / (1024 : Int64)) (8 : Int64))) z_88 g_88 ∧ nr_KP (T_X6_put a4 (1 : Int32) (R_X6_atMost3 (nr_lrem ((nr_lrem ((a2 * (1103515245 : Int64)) + (12345 : Int64)) (2147483648 : Int64)) / (1024 : Int64)) (8 : Int64))) z_88 g_88) (fun r_107 z_107 g_107 => ((O_X6_put a4 (2 : Int32) (R_X6_atMost3 (nr_lrem ((nr_lrem ((a2 * (1103515245 : Int64)) + (12345 : Int64)) (2147483648 : Int64)) / (4096 : Int64)) (8 : Int64))) z_107 g_107 ∧ nr_KP (T_X6_put a4 (2 : Int32) (R_X6_atMost3 (nr_lrem ((nr_lrem ((a2 * (1103515245 : Int64)) + (12345 : Int64)) (2147483648 : Int64)) / (4096 : Int64)) (8 : Int64))) z_107 g_107) (fun r_126 z_126 g_126 => ((O_X6_put a4 (3 : Int32) ((nr_lrem ((nr_lrem ((a2 * (1103515245 : Int64)) + (12345 : Int64)) (2147483648 : Int64)) / (16384 : Int64)) (10 : Int64))).toInt32 z_126 g_126 ∧ nr_KP (T_X6_put a4 (3 : Int32) ((nr_lrem ((nr_lrem ((a2 * (1103515245 : Int64)) + (12345 : Int64)) (2147483648 : Int64)) / (16384 : Int64)) (10 : Int64))).toInt32 z_126 g_126) (fun r_143 z_143 g_143 => (O_X6_draw_53 n (nr_lrem ((a2 * (1103515245 : Int64)) + (12345 : Int64)) (2147483648 : Int64)) (a4 + (1 : Int32)) z_143 g_143)))))))))))))))
set_option maxHeartbeats 4000000 in
set_option maxRecDepth 100000 in
theorem sp_X6_draw_53 (Γ : nr_M) (ρ : Nat → Nat) (d : Nat) (X : nr_CX) (hX : nr_Cx Γ ρ X yX6_draw cX6_draw 5 (some .int) (d + 1)) : ∀ (n : Nat) (a2 : Int64) (a4 : Int32) (z : Nat → Int32) (g : Nat → Nat → Int32) (R0 : Int32 × nr_S) (_ : T_X6_draw_53 n a2 a4 z g = R0) (_ : O_X6_draw_53 n a2 a4 z g), nr_G Γ ρ X 5 (nr_Qi Γ ρ X (fun x u => R0 = (x, u))) 53 [(0, .ref (ρ 20)), (2, .long a2), (4, .int a4)] [] z g := by
  intro n
  induction n with
  | zero => intro a2 a4 z g R0 hR hok; exact False.elim hok
  | succ n ih =>
    intro a2 a4 z g R0 hR hok
    rw [T_X6_draw_53] at hR
    rw [O_X6_draw_53] at hok
    refine G_iload hX dX6_draw_53 rfl rfl ?_
    refine G_bipush (v := (8 : Int32)) hX dX6_draw_55 (by decide) rfl ?_
    refine G_icmp_ge (tg := 152) hX dX6_draw_57 (by decide) rfl (fun (h_57 : (8 : Int32) ≤ a4) => ?_) (fun (h_57 : ¬ ((8 : Int32) ≤ a4)) => ?_)
    · rw [if_pos h_57] at hR
      replace hok := hok.1 h_57
      refine G_iconst (v := (0 : Int32)) hX dX6_draw_152 (by decide) rfl ?_
      exact G_iret hX rfl dX6_draw_153 rfl hR.symm
    · rw [if_neg h_57] at hR
      replace hok := hok.2 h_57
      refine G_lload_n hX dX6_draw_60 rfl rfl ?_
      refine G_ldc2 (v := (1103515245 : Int64)) hX dX6_draw_61 wk_RX6_264 rfl ?_
      refine G_lmul hX dX6_draw_64 rfl ?_
      refine G_ldc2 (v := (12345 : Int64)) hX dX6_draw_65 wk_RX6_266 rfl ?_
      refine G_ladd hX dX6_draw_68 rfl ?_
      refine G_ldc2 (v := (2147483648 : Int64)) hX dX6_draw_69 wk_RX6_268 rfl ?_
      refine G_lrem hX dX6_draw_72 (by decide) rfl ?_
      refine G_lstore_n hX dX6_draw_73 (by decide) rfl rfl ?_
      refine G_aload_n hX dX6_draw_74 rfl rfl ?_
      refine G_iload hX dX6_draw_75 rfl rfl ?_
      refine G_iconst (v := (0 : Int32)) hX dX6_draw_77 (by decide) rfl ?_
      refine G_lload_n hX dX6_draw_78 rfl rfl ?_
      refine G_ldc2 (v := (65536 : Int64)) hX dX6_draw_79 wk_RX6_270 rfl ?_
      refine G_ldiv hX dX6_draw_82 (by decide) rfl ?_
      refine G_ldc2 (v := (5 : Int64)) hX dX6_draw_83 wk_RX6_272 rfl ?_
      refine G_lrem hX dX6_draw_86 (by decide) rfl ?_
      refine G_l2i hX dX6_draw_87 rfl ?_
      obtain ⟨ho_88, hok⟩ := hok
      refine G_cVv hX dX6_draw_88 lv_RX6_89 (sp_X6_put Γ ρ d a4 (0 : Int32) ((nr_lrem ((nr_lrem ((a2 * (1103515245 : Int64)) + (12345 : Int64)) (2147483648 : Int64)) / (65536 : Int64)) (5 : Int64))).toInt32 z g ho_88) (by omega) nr_is_20 rfl rfl (Nat.le_of_ble_eq_true rfl) rfl (fun u_88 e_88 => ?_)
      obtain ⟨z_88, g_88⟩ := u_88
      rw [e_88, nr_K_mk] at hR
      rw [e_88, nr_KP_mk] at hok
      refine G_aload_n hX dX6_draw_91 rfl rfl ?_
      refine G_iload hX dX6_draw_92 rfl rfl ?_
      refine G_iconst (v := (1 : Int32)) hX dX6_draw_94 (by decide) rfl ?_
      refine G_lload_n hX dX6_draw_95 rfl rfl ?_
      refine G_ldc2 (v := (1024 : Int64)) hX dX6_draw_96 wk_RX6_274 rfl ?_
      refine G_ldiv hX dX6_draw_99 (by decide) rfl ?_
      refine G_ldc2 (v := (8 : Int64)) hX dX6_draw_100 wk_RX6_276 rfl ?_
      refine G_lrem hX dX6_draw_103 (by decide) rfl ?_
      refine G_fSi hX dX6_draw_104 ls_RX6_278 (sp_X6_atMost3 Γ ρ d (nr_lrem ((nr_lrem ((a2 * (1103515245 : Int64)) + (12345 : Int64)) (2147483648 : Int64)) / (1024 : Int64)) (8 : Int64)) z_88 g_88) (by omega) rfl rfl (Nat.le_of_ble_eq_true rfl) rfl ?_
      obtain ⟨ho_107, hok⟩ := hok
      refine G_cVv hX dX6_draw_107 lv_RX6_89 (sp_X6_put Γ ρ d a4 (1 : Int32) (R_X6_atMost3 (nr_lrem ((nr_lrem ((a2 * (1103515245 : Int64)) + (12345 : Int64)) (2147483648 : Int64)) / (1024 : Int64)) (8 : Int64))) z_88 g_88 ho_107) (by omega) nr_is_20 rfl rfl (Nat.le_of_ble_eq_true rfl) rfl (fun u_107 e_107 => ?_)
      obtain ⟨z_107, g_107⟩ := u_107
      rw [e_107, nr_K_mk] at hR
      rw [e_107, nr_KP_mk] at hok
      refine G_aload_n hX dX6_draw_110 rfl rfl ?_
      refine G_iload hX dX6_draw_111 rfl rfl ?_
      refine G_iconst (v := (2 : Int32)) hX dX6_draw_113 (by decide) rfl ?_
      refine G_lload_n hX dX6_draw_114 rfl rfl ?_
      refine G_ldc2 (v := (4096 : Int64)) hX dX6_draw_115 wk_RX6_282 rfl ?_
      refine G_ldiv hX dX6_draw_118 (by decide) rfl ?_
      refine G_ldc2 (v := (8 : Int64)) hX dX6_draw_119 wk_RX6_276 rfl ?_
      refine G_lrem hX dX6_draw_122 (by decide) rfl ?_
      refine G_fSi hX dX6_draw_123 ls_RX6_278 (sp_X6_atMost3 Γ ρ d (nr_lrem ((nr_lrem ((a2 * (1103515245 : Int64)) + (12345 : Int64)) (2147483648 : Int64)) / (4096 : Int64)) (8 : Int64)) z_107 g_107) (by omega) rfl rfl (Nat.le_of_ble_eq_true rfl) rfl ?_
      obtain ⟨ho_126, hok⟩ := hok
      refine G_cVv hX dX6_draw_126 lv_RX6_89 (sp_X6_put Γ ρ d a4 (2 : Int32) (R_X6_atMost3 (nr_lrem ((nr_lrem ((a2 * (1103515245 : Int64)) + (12345 : Int64)) (2147483648 : Int64)) / (4096 : Int64)) (8 : Int64))) z_107 g_107 ho_126) (by omega) nr_is_20 rfl rfl (Nat.le_of_ble_eq_true rfl) rfl (fun u_126 e_126 => ?_)
      obtain ⟨z_126, g_126⟩ := u_126
      rw [e_126, nr_K_mk] at hR
      rw [e_126, nr_KP_mk] at hok
      refine G_aload_n hX dX6_draw_129 rfl rfl ?_
      refine G_iload hX dX6_draw_130 rfl rfl ?_
      refine G_iconst (v := (3 : Int32)) hX dX6_draw_132 (by decide) rfl ?_
      refine G_lload_n hX dX6_draw_133 rfl rfl ?_
      refine G_ldc2 (v := (16384 : Int64)) hX dX6_draw_134 wk_RX6_284 rfl ?_
      refine G_ldiv hX dX6_draw_137 (by decide) rfl ?_
      refine G_ldc2 (v := (10 : Int64)) hX dX6_draw_138 wk_RX6_286 rfl ?_
      refine G_lrem hX dX6_draw_141 (by decide) rfl ?_
      refine G_l2i hX dX6_draw_142 rfl ?_
      obtain ⟨ho_143, hok⟩ := hok
      refine G_cVv hX dX6_draw_143 lv_RX6_89 (sp_X6_put Γ ρ d a4 (3 : Int32) ((nr_lrem ((nr_lrem ((a2 * (1103515245 : Int64)) + (12345 : Int64)) (2147483648 : Int64)) / (16384 : Int64)) (10 : Int64))).toInt32 z_126 g_126 ho_143) (by omega) nr_is_20 rfl rfl (Nat.le_of_ble_eq_true rfl) rfl (fun u_143 e_143 => ?_)
      obtain ⟨z_143, g_143⟩ := u_143
      rw [e_143, nr_K_mk] at hR
      rw [e_143, nr_KP_mk] at hok
      refine G_iinc (v := (a4 + (1 : Int32))) hX dX6_draw_146 rfl rfl (by decide) rfl rfl ?_
      refine G_goto (tg := 53) hX dX6_draw_149 (by decide) ?_
      exact nr_sub (by exact ⟨rfl, rfl, rfl, trivial⟩) (ih (nr_lrem ((a2 * (1103515245 : Int64)) + (12345 : Int64)) (2147483648 : Int64)) (a4 + (1 : Int32)) z_143 g_143 R0 hR hok)
def T_X6_draw_29  : Nat → Int64 → Int32 → (Nat → Int32) → (Nat → Nat → Int32) → Int32 × nr_S
  | 0, _, _, z, g => (0, z, g)
  | n + 1, a2, a4, z, g => (if (58 : Int32) ≤ a4 then (T_X6_draw_53 500 a2 (0 : Int32) z g) else (T_X6_draw_29 n a2 (a4 + (1 : Int32)) z (nr_st g 21 a4 (0 : Int32))))
def O_X6_draw_29  : Nat → Int64 → Int32 → (Nat → Int32) → (Nat → Nat → Int32) → Prop
  | 0, _, _, _, _ => False
  | n + 1, a2, a4, z, g => (((58 : Int32) ≤ a4 → (O_X6_draw_53 500 a2 (0 : Int32) z g)) ∧ (¬ ((58 : Int32) ≤ a4) → (vp_in a4 58 ∧ (O_X6_draw_29 n a2 (a4 + (1 : Int32)) z (nr_st g 21 a4 (0 : Int32))))))
set_option maxHeartbeats 4000000 in
set_option maxRecDepth 100000 in
theorem sp_X6_draw_29 (Γ : nr_M) (ρ : Nat → Nat) (d : Nat) (X : nr_CX) (hX : nr_Cx Γ ρ X yX6_draw cX6_draw 5 (some .int) (d + 1)) : ∀ (n : Nat) (a2 : Int64) (a4 : Int32) (z : Nat → Int32) (g : Nat → Nat → Int32) (R0 : Int32 × nr_S) (_ : T_X6_draw_29 n a2 a4 z g = R0) (_ : O_X6_draw_29 n a2 a4 z g), nr_G Γ ρ X 5 (nr_Qi Γ ρ X (fun x u => R0 = (x, u))) 29 [(0, .ref (ρ 20)), (2, .long a2), (4, .int a4)] [] z g := by
  intro n
  induction n with
  | zero => intro a2 a4 z g R0 hR hok; exact False.elim hok
  | succ n ih =>
    intro a2 a4 z g R0 hR hok
    rw [T_X6_draw_29] at hR
    rw [O_X6_draw_29] at hok
    refine G_iload hX dX6_draw_29 rfl rfl ?_
    refine G_bipush (v := (58 : Int32)) hX dX6_draw_31 (by decide) rfl ?_
    refine G_icmp_ge (tg := 50) hX dX6_draw_33 (by decide) rfl (fun (h_33 : (58 : Int32) ≤ a4) => ?_) (fun (h_33 : ¬ ((58 : Int32) ≤ a4)) => ?_)
    · rw [if_pos h_33] at hR
      replace hok := hok.1 h_33
      refine G_iconst (v := (0 : Int32)) hX dX6_draw_50 (by decide) rfl ?_
      refine G_istore hX dX6_draw_51 (by decide) rfl rfl ?_
      exact nr_sub (by exact ⟨rfl, rfl, rfl, trivial⟩) (sp_X6_draw_53 Γ ρ d X hX 500 a2 (0 : Int32) z g R0 hR hok)
    · rw [if_neg h_33] at hR
      replace hok := hok.2 h_33
      refine G_aload_n hX dX6_draw_36 rfl rfl ?_
      refine G_getr hX dX6_draw_37 gt_RX6_7 rfl ?_
      refine G_iload hX dX6_draw_40 rfl rfl ?_
      refine G_iconst (v := (0 : Int32)) hX dX6_draw_42 (by decide) rfl ?_
      obtain ⟨hi_43, hok⟩ := hok
      refine G_ist hX dX6_draw_43 (rfl : nr_il 21 = 58) (by decide) hi_43 rfl ?_
      refine G_iinc (v := (a4 + (1 : Int32))) hX dX6_draw_44 rfl rfl (by decide) rfl rfl ?_
      refine G_goto (tg := 29) hX dX6_draw_47 (by decide) ?_
      exact nr_sub (by exact ⟨rfl, rfl, rfl, trivial⟩) (ih a2 (a4 + (1 : Int32)) z (nr_st g 21 a4 (0 : Int32)) R0 hR hok)
def T_X6_draw (a1 : Int32) (z : Nat → Int32) (g : Nat → Nat → Int32) : Int32 × nr_S := (if (R_X6_in (a1).toInt64 (0 : Int64) (999999 : Int64)) = 0 then (nr_K (T_X6_bad (-2 : Int32) z g) (fun r_15 z_15 g_15 => (r_15, z_15, g_15))) else (nr_K (T_X6_night z g) (fun r_20 z_20 g_20 => (T_X6_draw_29 500 (a1).toInt64 (0 : Int32) z_20 g_20))))
def O_X6_draw (a1 : Int32) (z : Nat → Int32) (g : Nat → Nat → Int32) : Prop := (((R_X6_in (a1).toInt64 (0 : Int64) (999999 : Int64)) = 0 → True) ∧ (¬ ((R_X6_in (a1).toInt64 (0 : Int64) (999999 : Int64)) = 0) → ((O_X6_night z g ∧ nr_KP (T_X6_night z g) (fun r_20 z_20 g_20 => (O_X6_draw_29 500 (a1).toInt64 (0 : Int32) z_20 g_20))))))
set_option maxHeartbeats 4000000 in
set_option maxRecDepth 100000 in
theorem sp_X6_draw (Γ : nr_M) (ρ : Nat → Nat) (d : Nat) (a1 : Int32) (z : Nat → Int32) (g : Nat → Nat → Int32) (hok : O_X6_draw a1 z g) : nr_Si Γ ρ (d + 1) yX6_draw cX6_draw 5 (some .int) [.ref (ρ 20), .int a1] z g (fun x u => (T_X6_draw a1 z g) = (x, u)) := by
  refine nr_body_i (lv := [(0, .ref (ρ 20)), (1, .int a1)]) (by decide +kernel) (Nat.le_of_ble_eq_true rfl) rfl (fun X hX => ?_)
  generalize hR : (T_X6_draw a1 z g) = R0
  rw [T_X6_draw] at hR
  rw [O_X6_draw] at hok
  refine G_iload_n hX dX6_draw_0 rfl rfl ?_
  refine G_i2l hX dX6_draw_1 rfl ?_
  refine G_lconst (v := (0 : Int64)) hX dX6_draw_2 (by decide) rfl ?_
  refine G_ldc2 (v := (999999 : Int64)) hX dX6_draw_3 wk_RX6_262 rfl ?_
  refine G_fSi hX dX6_draw_6 ls_RX6_62 (sp_X6_in Γ ρ d (a1).toInt64 (0 : Int64) (999999 : Int64) z g) (by omega) rfl rfl (Nat.le_of_ble_eq_true rfl) rfl ?_
  refine G_if_ne (tg := 19) hX dX6_draw_9 (by decide) rfl (fun (h_9 : ¬ ((R_X6_in (a1).toInt64 (0 : Int64) (999999 : Int64)) = 0)) => ?_) (fun (h_9 : (R_X6_in (a1).toInt64 (0 : Int64) (999999 : Int64)) = 0) => ?_)
  · rw [if_neg h_9] at hR
    replace hok := hok.2 h_9
    refine G_aload_n hX dX6_draw_19 rfl rfl ?_
    obtain ⟨ho_20, hok⟩ := hok
    refine G_cVv hX dX6_draw_20 lv_RX6_86 (sp_X6_night Γ ρ d z g ho_20) (by omega) nr_is_20 rfl rfl (Nat.le_of_ble_eq_true rfl) rfl (fun u_20 e_20 => ?_)
    obtain ⟨z_20, g_20⟩ := u_20
    rw [e_20, nr_K_mk] at hR
    rw [e_20, nr_KP_mk] at hok
    refine G_iload_n hX dX6_draw_23 rfl rfl ?_
    refine G_i2l hX dX6_draw_24 rfl ?_
    refine G_lstore_n hX dX6_draw_25 (by decide) rfl rfl ?_
    refine G_iconst (v := (0 : Int32)) hX dX6_draw_26 (by decide) rfl ?_
    refine G_istore hX dX6_draw_27 (by decide) rfl rfl ?_
    exact nr_sub (by exact ⟨rfl, rfl, rfl, trivial⟩) (sp_X6_draw_29 Γ ρ d X hX 500 (a1).toInt64 (0 : Int32) z_20 g_20 R0 hR hok)
  · rw [if_pos h_9] at hR
    replace hok := hok.1 h_9
    refine G_aload_n hX dX6_draw_12 rfl rfl ?_
    refine G_bipush (v := (-2 : Int32)) hX dX6_draw_13 (by decide) rfl ?_
    refine G_cVi hX dX6_draw_15 lv_RX6_82 (sp_X6_bad Γ ρ d (-2 : Int32) z g) (by omega) nr_is_20 rfl rfl (Nat.le_of_ble_eq_true rfl) rfl (fun r_15 u_15 e_15 => ?_)
    obtain ⟨z_15, g_15⟩ := u_15
    rw [e_15, nr_K_mk] at hR
    exact G_iret hX rfl dX6_draw_18 rfl hR.symm
def T_X6_no  (z : Nat → Int32) (g : Nat → Nat → Int32) : Int32 × nr_S := ((-3 : Int32), z, (nr_st g 23 (1 : Int32) ((g 23 ((1 : Int32)).toNatClampNeg) + (1 : Int32))))
set_option maxHeartbeats 4000000 in
set_option maxRecDepth 100000 in
theorem sp_X6_no (Γ : nr_M) (ρ : Nat → Nat) (d : Nat) (z : Nat → Int32) (g : Nat → Nat → Int32) : nr_Si Γ ρ (d + 0) yX6_no cX6_no 1 (some .int) [.ref (ρ 20)] z g (fun x u => (T_X6_no z g) = (x, u)) := by
  refine nr_body_i (lv := [(0, .ref (ρ 20))]) (by decide +kernel) (Nat.le_of_ble_eq_true rfl) rfl (fun X hX => ?_)
  generalize hR : (T_X6_no z g) = R0
  rw [T_X6_no] at hR
  refine G_aload_n hX dX6_no_0 rfl rfl ?_
  refine G_getr hX dX6_no_1 gt_RX6_16 rfl ?_
  refine G_iconst (v := (1 : Int32)) hX dX6_no_4 (by decide) rfl ?_
  refine G_dup2 hX dX6_no_5 rfl rfl rfl ?_
  refine G_iald hX dX6_no_6 (rfl : nr_il 23 = 3) (by decide) (by unfold vp_in; decide) rfl ?_
  refine G_iconst (v := (1 : Int32)) hX dX6_no_7 (by decide) rfl ?_
  refine G_iadd hX dX6_no_8 rfl ?_
  refine G_ist hX dX6_no_9 (rfl : nr_il 23 = 3) (by decide) (by unfold vp_in; decide) rfl ?_
  refine G_bipush (v := (-3 : Int32)) hX dX6_no_10 (by decide) rfl ?_
  exact G_iret hX rfl dX6_no_12 rfl hR.symm
def T_X6_back_24  : Nat → Int32 → (Nat → Int32) → (Nat → Nat → Int32) → Int32 × nr_S
  | 0, _, z, g => (0, z, g)
  | n + 1, a1, z, g => (if (58 : Int32) ≤ a1 then ((z 20), z, g) else (T_X6_back_24 n (a1 + (1 : Int32)) z (nr_st g 21 a1 (g 22 ((((58 : Int32) * (z 20)) + a1)).toNatClampNeg))))
def O_X6_back_24  : Nat → Int32 → (Nat → Int32) → (Nat → Nat → Int32) → Prop
  | 0, _, _, _ => False
  | n + 1, a1, z, g => (((58 : Int32) ≤ a1 → True) ∧ (¬ ((58 : Int32) ≤ a1) → (vp_in (((58 : Int32) * (z 20)) + a1) 464 ∧ (vp_in a1 58 ∧ (O_X6_back_24 n (a1 + (1 : Int32)) z (nr_st g 21 a1 (g 22 ((((58 : Int32) * (z 20)) + a1)).toNatClampNeg)))))))
set_option maxHeartbeats 4000000 in
set_option maxRecDepth 100000 in
theorem sp_X6_back_24 (Γ : nr_M) (ρ : Nat → Nat) (d : Nat) (X : nr_CX) (hX : nr_Cx Γ ρ X yX6_back cX6_back 2 (some .int) (d + 1)) : ∀ (n : Nat) (a1 : Int32) (z : Nat → Int32) (g : Nat → Nat → Int32) (R0 : Int32 × nr_S) (_ : T_X6_back_24 n a1 z g = R0) (_ : O_X6_back_24 n a1 z g), nr_G Γ ρ X 2 (nr_Qi Γ ρ X (fun x u => R0 = (x, u))) 24 [(0, .ref (ρ 20)), (1, .int a1)] [] z g := by
  intro n
  induction n with
  | zero => intro a1 z g R0 hR hok; exact False.elim hok
  | succ n ih =>
    intro a1 z g R0 hR hok
    rw [T_X6_back_24] at hR
    rw [O_X6_back_24] at hok
    refine G_iload_n hX dX6_back_24 rfl rfl ?_
    refine G_bipush (v := (58 : Int32)) hX dX6_back_25 (by decide) rfl ?_
    refine G_icmp_ge (tg := 56) hX dX6_back_27 (by decide) rfl (fun (h_27 : (58 : Int32) ≤ a1) => ?_) (fun (h_27 : ¬ ((58 : Int32) ≤ a1)) => ?_)
    · rw [if_pos h_27] at hR
      replace hok := hok.1 h_27
      refine G_aload_n hX dX6_back_56 rfl rfl ?_
      refine G_geti hX dX6_back_57 gt_RX6_66 rfl ?_
      exact G_iret hX rfl dX6_back_60 rfl hR.symm
    · rw [if_neg h_27] at hR
      replace hok := hok.2 h_27
      refine G_aload_n hX dX6_back_30 rfl rfl ?_
      refine G_getr hX dX6_back_31 gt_RX6_7 rfl ?_
      refine G_iload_n hX dX6_back_34 rfl rfl ?_
      refine G_aload_n hX dX6_back_35 rfl rfl ?_
      refine G_getr hX dX6_back_36 gt_RX6_13 rfl ?_
      refine G_bipush (v := (58 : Int32)) hX dX6_back_39 (by decide) rfl ?_
      refine G_aload_n hX dX6_back_41 rfl rfl ?_
      refine G_geti hX dX6_back_42 gt_RX6_66 rfl ?_
      refine G_imul hX dX6_back_45 rfl ?_
      refine G_iload_n hX dX6_back_46 rfl rfl ?_
      refine G_iadd hX dX6_back_47 rfl ?_
      obtain ⟨hi_48, hok⟩ := hok
      refine G_iald hX dX6_back_48 (rfl : nr_il 22 = 464) (by decide) hi_48 rfl ?_
      obtain ⟨hi_49, hok⟩ := hok
      refine G_ist hX dX6_back_49 (rfl : nr_il 21 = 58) (by decide) hi_49 rfl ?_
      refine G_iinc (v := (a1 + (1 : Int32))) hX dX6_back_50 rfl rfl (by decide) rfl rfl ?_
      refine G_goto (tg := 24) hX dX6_back_53 (by decide) ?_
      exact nr_sub (by exact ⟨rfl, rfl, trivial⟩) (ih (a1 + (1 : Int32)) z (nr_st g 21 a1 (g 22 ((((58 : Int32) * (z 20)) + a1)).toNatClampNeg)) R0 hR hok)
def T_X6_back  (z : Nat → Int32) (g : Nat → Nat → Int32) : Int32 × nr_S := (if (z 20) = 0 then (nr_K (T_X6_no z g) (fun r_8 z_8 g_8 => (r_8, z_8, g_8))) else (T_X6_back_24 500 (0 : Int32) (va_up z 20 ((z 20) - (1 : Int32))) g))
def O_X6_back  (z : Nat → Int32) (g : Nat → Nat → Int32) : Prop := (((z 20) = 0 → True) ∧ (¬ ((z 20) = 0) → (O_X6_back_24 500 (0 : Int32) (va_up z 20 ((z 20) - (1 : Int32))) g)))
set_option maxHeartbeats 4000000 in
set_option maxRecDepth 100000 in
theorem sp_X6_back (Γ : nr_M) (ρ : Nat → Nat) (d : Nat) (z : Nat → Int32) (g : Nat → Nat → Int32) (hok : O_X6_back z g) : nr_Si Γ ρ (d + 1) yX6_back cX6_back 2 (some .int) [.ref (ρ 20)] z g (fun x u => (T_X6_back z g) = (x, u)) := by
  refine nr_body_i (lv := [(0, .ref (ρ 20))]) (by decide +kernel) (Nat.le_of_ble_eq_true rfl) rfl (fun X hX => ?_)
  generalize hR : (T_X6_back z g) = R0
  rw [T_X6_back] at hR
  rw [O_X6_back] at hok
  refine G_aload_n hX dX6_back_0 rfl rfl ?_
  refine G_geti hX dX6_back_1 gt_RX6_66 rfl ?_
  refine G_if_ne (tg := 12) hX dX6_back_4 (by decide) rfl (fun (h_4 : ¬ ((z 20) = 0)) => ?_) (fun (h_4 : (z 20) = 0) => ?_)
  · rw [if_neg h_4] at hR
    replace hok := hok.2 h_4
    refine G_aload_n hX dX6_back_12 rfl rfl ?_
    refine G_dup hX dX6_back_13 rfl rfl ?_
    refine G_geti hX dX6_back_14 gt_RX6_66 rfl ?_
    refine G_iconst (v := (1 : Int32)) hX dX6_back_17 (by decide) rfl ?_
    refine G_isub hX dX6_back_18 rfl ?_
    refine G_put hX dX6_back_19 pt_RX6_66 rfl rfl rfl ?_
    refine G_iconst (v := (0 : Int32)) hX dX6_back_22 (by decide) rfl ?_
    refine G_istore_n hX dX6_back_23 (by decide) rfl rfl ?_
    exact nr_sub (by exact ⟨rfl, rfl, trivial⟩) (sp_X6_back_24 Γ ρ d X hX 500 (0 : Int32) (va_up z 20 ((z 20) - (1 : Int32))) g R0 hR hok)
  · rw [if_pos h_4] at hR
    replace hok := hok.1 h_4
    refine G_aload_n hX dX6_back_7 rfl rfl ?_
    refine G_cVi hX dX6_back_8 lv_RX6_288 (sp_X6_no Γ ρ d z g) (by omega) nr_is_20 rfl rfl (Nat.le_of_ble_eq_true rfl) rfl (fun r_8 u_8 e_8 => ?_)
    obtain ⟨z_8, g_8⟩ := u_8
    rw [e_8, nr_K_mk] at hR
    exact G_iret hX rfl dX6_back_11 rfl hR.symm
def R_X6_lamps_4  : Nat → Int32 → Int32 → (Nat → Int32) → (Nat → Nat → Int32) → Int32
  | 0, _, _, z, g => 0
  | n + 1, a1, a2, z, g => (if (8 : Int32) ≤ a2 then a1 else (R_X6_lamps_4 n (a1 + (R_X6_at a2 (5 : Int32) z g)) (a2 + (1 : Int32)) z g))
def O_X6_lamps_4  : Nat → Int32 → Int32 → (Nat → Int32) → (Nat → Nat → Int32) → Prop
  | 0, _, _, _, _ => False
  | n + 1, a1, a2, z, g => (((8 : Int32) ≤ a2 → True) ∧ (¬ ((8 : Int32) ≤ a2) → (O_X6_at a2 (5 : Int32) z g ∧ (O_X6_lamps_4 n (a1 + (R_X6_at a2 (5 : Int32) z g)) (a2 + (1 : Int32)) z g))))
set_option maxHeartbeats 4000000 in
set_option maxRecDepth 100000 in
theorem sp_X6_lamps_4 (Γ : nr_M) (ρ : Nat → Nat) (d : Nat) (X : nr_CX) (hX : nr_Cx Γ ρ X yX6_lamps cX6_lamps 3 (some .int) (d + 1)) : ∀ (n : Nat) (a1 : Int32) (a2 : Int32) (z : Nat → Int32) (g : Nat → Nat → Int32) (R0 : Int32) (_ : R_X6_lamps_4 n a1 a2 z g = R0) (_ : O_X6_lamps_4 n a1 a2 z g), nr_G Γ ρ X 3 (nr_Qi Γ ρ X (fun x u => x = R0 ∧ u = (z, g))) 4 [(0, .ref (ρ 20)), (1, .int a1), (2, .int a2)] [] z g := by
  intro n
  induction n with
  | zero => intro a1 a2 z g R0 hR hok; exact False.elim hok
  | succ n ih =>
    intro a1 a2 z g R0 hR hok
    rw [R_X6_lamps_4] at hR
    rw [O_X6_lamps_4] at hok
    refine G_iload_n hX dX6_lamps_4 rfl rfl ?_
    refine G_bipush (v := (8 : Int32)) hX dX6_lamps_5 (by decide) rfl ?_
    refine G_icmp_ge (tg := 25) hX dX6_lamps_7 (by decide) rfl (fun (h_7 : (8 : Int32) ≤ a2) => ?_) (fun (h_7 : ¬ ((8 : Int32) ≤ a2)) => ?_)
    · rw [if_pos h_7] at hR
      replace hok := hok.1 h_7
      refine G_iload_n hX dX6_lamps_25 rfl rfl ?_
      exact G_iret hX rfl dX6_lamps_26 rfl ⟨hR, rfl⟩
    · rw [if_neg h_7] at hR
      replace hok := hok.2 h_7
      refine G_iload_n hX dX6_lamps_10 rfl rfl ?_
      refine G_aload_n hX dX6_lamps_11 rfl rfl ?_
      refine G_iload_n hX dX6_lamps_12 rfl rfl ?_
      refine G_iconst (v := (5 : Int32)) hX dX6_lamps_13 (by decide) rfl ?_
      obtain ⟨ho_14, hok⟩ := hok
      refine G_fVi hX dX6_lamps_14 lv_RX6_69 (sp_X6_at Γ ρ d a2 (5 : Int32) z g ho_14) (by omega) nr_is_20 rfl rfl (Nat.le_of_ble_eq_true rfl) rfl ?_
      refine G_iadd hX dX6_lamps_17 rfl ?_
      refine G_istore_n hX dX6_lamps_18 (by decide) rfl rfl ?_
      refine G_iinc (v := (a2 + (1 : Int32))) hX dX6_lamps_19 rfl rfl (by decide) rfl rfl ?_
      refine G_goto (tg := 4) hX dX6_lamps_22 (by decide) ?_
      exact nr_sub (by exact ⟨rfl, rfl, rfl, trivial⟩) (ih (a1 + (R_X6_at a2 (5 : Int32) z g)) (a2 + (1 : Int32)) z g R0 hR hok)
def R_X6_lamps  (z : Nat → Int32) (g : Nat → Nat → Int32) : Int32 := (R_X6_lamps_4 500 (0 : Int32) (0 : Int32) z g)
def O_X6_lamps  (z : Nat → Int32) (g : Nat → Nat → Int32) : Prop := (O_X6_lamps_4 500 (0 : Int32) (0 : Int32) z g)
set_option maxHeartbeats 4000000 in
set_option maxRecDepth 100000 in
theorem sp_X6_lamps (Γ : nr_M) (ρ : Nat → Nat) (d : Nat) (z : Nat → Int32) (g : Nat → Nat → Int32) (hok : O_X6_lamps z g) : nr_Si Γ ρ (d + 1) yX6_lamps cX6_lamps 3 (some .int) [.ref (ρ 20)] z g (fun x u => x = (R_X6_lamps z g) ∧ u = (z, g)) := by
  refine nr_body_i (lv := [(0, .ref (ρ 20))]) (by decide +kernel) (Nat.le_of_ble_eq_true rfl) rfl (fun X hX => ?_)
  generalize hR : (R_X6_lamps z g) = R0
  rw [R_X6_lamps] at hR
  rw [O_X6_lamps] at hok
  refine G_iconst (v := (0 : Int32)) hX dX6_lamps_0 (by decide) rfl ?_
  refine G_istore_n hX dX6_lamps_1 (by decide) rfl rfl ?_
  refine G_iconst (v := (0 : Int32)) hX dX6_lamps_2 (by decide) rfl ?_
  refine G_istore_n hX dX6_lamps_3 (by decide) rfl rfl ?_
  exact nr_sub (by exact ⟨rfl, rfl, rfl, trivial⟩) (sp_X6_lamps_4 Γ ρ d X hX 500 (0 : Int32) (0 : Int32) z g R0 hR hok)
def R_X6_counted (a1 : Int32) (z : Nat → Int32) (g : Nat → Nat → Int32) : Int32 := (if a1 = (3 : Int32) then (z 21) else (if a1 = (4 : Int32) then (z 20) else (if a1 = (5 : Int32) then (g 21 ((56 : Int32)).toNatClampNeg) else (if a1 = (6 : Int32) then (g 21 ((57 : Int32)).toNatClampNeg) else (if a1 = (7 : Int32) then (R_X6_awake z g) else (if a1 = (8 : Int32) then (R_X6_lamps z g) else (g 23 (a1).toNatClampNeg)))))))
def O_X6_counted (a1 : Int32) (z : Nat → Int32) (g : Nat → Nat → Int32) : Prop := ((a1 = (3 : Int32) → True) ∧ (¬ (a1 = (3 : Int32)) → ((a1 = (4 : Int32) → True) ∧ (¬ (a1 = (4 : Int32)) → ((a1 = (5 : Int32) → True) ∧ (¬ (a1 = (5 : Int32)) → ((a1 = (6 : Int32) → True) ∧ (¬ (a1 = (6 : Int32)) → ((a1 = (7 : Int32) → (O_X6_awake z g ∧ True)) ∧ (¬ (a1 = (7 : Int32)) → ((a1 = (8 : Int32) → (O_X6_lamps z g ∧ True)) ∧ (¬ (a1 = (8 : Int32)) → (vp_in a1 3 ∧ True)))))))))))))
set_option maxHeartbeats 4000000 in
set_option maxRecDepth 100000 in
theorem sp_X6_counted (Γ : nr_M) (ρ : Nat → Nat) (d : Nat) (a1 : Int32) (z : Nat → Int32) (g : Nat → Nat → Int32) (hok : O_X6_counted a1 z g) : nr_Si Γ ρ (d + 4) yX6_counted cX6_counted 2 (some .int) [.ref (ρ 20), .int a1] z g (fun x u => x = (R_X6_counted a1 z g) ∧ u = (z, g)) := by
  refine nr_body_i (lv := [(0, .ref (ρ 20)), (1, .int a1)]) (by decide +kernel) (Nat.le_of_ble_eq_true rfl) rfl (fun X hX => ?_)
  generalize hR : (R_X6_counted a1 z g) = R0
  rw [R_X6_counted] at hR
  rw [O_X6_counted] at hok
  refine G_iload_n hX dX6_counted_0 rfl rfl ?_
  by_cases h_1_3 : a1 = (3 : Int32)
  · rw [if_pos h_1_3] at hR
    replace hok := hok.1 h_1_3
    refine G_tabIn (off := 39) (tg := 40) hX dX6_counted_1 (by rw [h_1_3]; decide) (by rw [h_1_3]; decide) (by rw [h_1_3]; decide) (by decide) ?_
    refine G_aload_n hX dX6_counted_40 rfl rfl ?_
    refine G_geti hX dX6_counted_41 gt_RX6_107 rfl ?_
    exact G_iret hX rfl dX6_counted_44 rfl ⟨hR, rfl⟩
  · rw [if_neg h_1_3] at hR
    replace hok := hok.2 h_1_3
    by_cases h_1_4 : a1 = (4 : Int32)
    · rw [if_pos h_1_4] at hR
      replace hok := hok.1 h_1_4
      refine G_tabIn (off := 44) (tg := 45) hX dX6_counted_1 (by rw [h_1_4]; decide) (by rw [h_1_4]; decide) (by rw [h_1_4]; decide) (by decide) ?_
      refine G_aload_n hX dX6_counted_45 rfl rfl ?_
      refine G_geti hX dX6_counted_46 gt_RX6_66 rfl ?_
      exact G_iret hX rfl dX6_counted_49 rfl ⟨hR, rfl⟩
    · rw [if_neg h_1_4] at hR
      replace hok := hok.2 h_1_4
      by_cases h_1_5 : a1 = (5 : Int32)
      · rw [if_pos h_1_5] at hR
        replace hok := hok.1 h_1_5
        refine G_tabIn (off := 49) (tg := 50) hX dX6_counted_1 (by rw [h_1_5]; decide) (by rw [h_1_5]; decide) (by rw [h_1_5]; decide) (by decide) ?_
        refine G_aload_n hX dX6_counted_50 rfl rfl ?_
        refine G_getr hX dX6_counted_51 gt_RX6_7 rfl ?_
        refine G_bipush (v := (56 : Int32)) hX dX6_counted_54 (by decide) rfl ?_
        refine G_iald hX dX6_counted_56 (rfl : nr_il 21 = 58) (by decide) (by unfold vp_in; decide) rfl ?_
        exact G_iret hX rfl dX6_counted_57 rfl ⟨hR, rfl⟩
      · rw [if_neg h_1_5] at hR
        replace hok := hok.2 h_1_5
        by_cases h_1_6 : a1 = (6 : Int32)
        · rw [if_pos h_1_6] at hR
          replace hok := hok.1 h_1_6
          refine G_tabIn (off := 57) (tg := 58) hX dX6_counted_1 (by rw [h_1_6]; decide) (by rw [h_1_6]; decide) (by rw [h_1_6]; decide) (by decide) ?_
          refine G_aload_n hX dX6_counted_58 rfl rfl ?_
          refine G_getr hX dX6_counted_59 gt_RX6_7 rfl ?_
          refine G_bipush (v := (57 : Int32)) hX dX6_counted_62 (by decide) rfl ?_
          refine G_iald hX dX6_counted_64 (rfl : nr_il 21 = 58) (by decide) (by unfold vp_in; decide) rfl ?_
          exact G_iret hX rfl dX6_counted_65 rfl ⟨hR, rfl⟩
        · rw [if_neg h_1_6] at hR
          replace hok := hok.2 h_1_6
          by_cases h_1_7 : a1 = (7 : Int32)
          · rw [if_pos h_1_7] at hR
            replace hok := hok.1 h_1_7
            refine G_tabIn (off := 65) (tg := 66) hX dX6_counted_1 (by rw [h_1_7]; decide) (by rw [h_1_7]; decide) (by rw [h_1_7]; decide) (by decide) ?_
            refine G_aload_n hX dX6_counted_66 rfl rfl ?_
            obtain ⟨ho_67, hok⟩ := hok
            refine G_fVi hX dX6_counted_67 lv_RX6_101 (sp_X6_awake Γ ρ d z g ho_67) (by omega) nr_is_20 rfl rfl (Nat.le_of_ble_eq_true rfl) rfl ?_
            exact G_iret hX rfl dX6_counted_70 rfl ⟨hR, rfl⟩
          · rw [if_neg h_1_7] at hR
            replace hok := hok.2 h_1_7
            by_cases h_1_8 : a1 = (8 : Int32)
            · rw [if_pos h_1_8] at hR
              replace hok := hok.1 h_1_8
              refine G_tabIn (off := 70) (tg := 71) hX dX6_counted_1 (by rw [h_1_8]; decide) (by rw [h_1_8]; decide) (by rw [h_1_8]; decide) (by decide) ?_
              refine G_aload_n hX dX6_counted_71 rfl rfl ?_
              obtain ⟨ho_72, hok⟩ := hok
              refine G_fVi hX dX6_counted_72 lv_RX6_291 (sp_X6_lamps Γ ρ d z g ho_72) (by omega) nr_is_20 rfl rfl (Nat.le_of_ble_eq_true rfl) rfl ?_
              exact G_iret hX rfl dX6_counted_75 rfl ⟨hR, rfl⟩
            · rw [if_neg h_1_8] at hR
              replace hok := hok.2 h_1_8
              refine G_tabOut (tg := 76) hX dX6_counted_1 (by have q0 := lv_neT (a := 3) h_1_3 (by decide); have q1 := lv_neT (a := 4) h_1_4 (by decide); have q2 := lv_neT (a := 5) h_1_5 (by decide); have q3 := lv_neT (a := 6) h_1_6 (by decide); have q4 := lv_neT (a := 7) h_1_7 (by decide); have q5 := lv_neT (a := 8) h_1_8 (by decide); omega) (by decide) ?_
              refine G_aload_n hX dX6_counted_76 rfl rfl ?_
              refine G_getr hX dX6_counted_77 gt_RX6_16 rfl ?_
              refine G_iload_n hX dX6_counted_80 rfl rfl ?_
              obtain ⟨hi_81, hok⟩ := hok
              refine G_iald hX dX6_counted_81 (rfl : nr_il 23 = 3) (by decide) hi_81 rfl ?_
              exact G_iret hX rfl dX6_counted_82 rfl ⟨hR, rfl⟩
def T_X6_count (a1 : Int32) (z : Nat → Int32) (g : Nat → Nat → Int32) : Int32 × nr_S := (if (R_X6_in (a1).toInt64 (0 : Int64) (8 : Int64)) = 0 then (nr_K (T_X6_bad (-2 : Int32) z g) (fun r_23 z_23 g_23 => (r_23, z_23, g_23))) else ((R_X6_counted a1 z g), z, g))
def O_X6_count (a1 : Int32) (z : Nat → Int32) (g : Nat → Nat → Int32) : Prop := (((R_X6_in (a1).toInt64 (0 : Int64) (8 : Int64)) = 0 → True) ∧ (¬ ((R_X6_in (a1).toInt64 (0 : Int64) (8 : Int64)) = 0) → (O_X6_counted a1 z g ∧ True)))
set_option maxHeartbeats 4000000 in
set_option maxRecDepth 100000 in
theorem sp_X6_count (Γ : nr_M) (ρ : Nat → Nat) (d : Nat) (a1 : Int32) (z : Nat → Int32) (g : Nat → Nat → Int32) (hok : O_X6_count a1 z g) : nr_Si Γ ρ (d + 5) yX6_count cX6_count 2 (some .int) [.ref (ρ 20), .int a1] z g (fun x u => (T_X6_count a1 z g) = (x, u)) := by
  refine nr_body_i (lv := [(0, .ref (ρ 20)), (1, .int a1)]) (by decide +kernel) (Nat.le_of_ble_eq_true rfl) rfl (fun X hX => ?_)
  generalize hR : (T_X6_count a1 z g) = R0
  rw [T_X6_count] at hR
  rw [O_X6_count] at hok
  refine G_iload_n hX dX6_count_0 rfl rfl ?_
  refine G_i2l hX dX6_count_1 rfl ?_
  refine G_lconst (v := (0 : Int64)) hX dX6_count_2 (by decide) rfl ?_
  refine G_ldc2 (v := (8 : Int64)) hX dX6_count_3 wk_RX6_276 rfl ?_
  refine G_fSi hX dX6_count_6 ls_RX6_62 (sp_X6_in Γ ρ d (a1).toInt64 (0 : Int64) (8 : Int64) z g) (by omega) rfl rfl (Nat.le_of_ble_eq_true rfl) rfl ?_
  refine G_if_eq (tg := 20) hX dX6_count_9 (by decide) rfl (fun (h_9 : (R_X6_in (a1).toInt64 (0 : Int64) (8 : Int64)) = 0) => ?_) (fun (h_9 : ¬ ((R_X6_in (a1).toInt64 (0 : Int64) (8 : Int64)) = 0)) => ?_)
  · rw [if_pos h_9] at hR
    replace hok := hok.1 h_9
    refine G_aload_n hX dX6_count_20 rfl rfl ?_
    refine G_bipush (v := (-2 : Int32)) hX dX6_count_21 (by decide) rfl ?_
    refine G_cVi hX dX6_count_23 lv_RX6_82 (sp_X6_bad Γ ρ d (-2 : Int32) z g) (by omega) nr_is_20 rfl rfl (Nat.le_of_ble_eq_true rfl) rfl (fun r_23 u_23 e_23 => ?_)
    obtain ⟨z_23, g_23⟩ := u_23
    rw [e_23, nr_K_mk] at hR
    exact G_iret hX rfl dX6_count_26 rfl hR.symm
  · rw [if_neg h_9] at hR
    replace hok := hok.2 h_9
    refine G_aload_n hX dX6_count_12 rfl rfl ?_
    refine G_iload_n hX dX6_count_13 rfl rfl ?_
    obtain ⟨ho_14, hok⟩ := hok
    refine G_fVi hX dX6_count_14 lv_RX6_294 (sp_X6_counted Γ ρ d a1 z g ho_14) (by omega) nr_is_20 rfl rfl (Nat.le_of_ble_eq_true rfl) rfl ?_
    refine G_goto (tg := 26) hX dX6_count_17 (by decide) ?_
    exact G_iret hX rfl dX6_count_26 rfl hR.symm
def R_X6_digest_117  : Nat → Int64 → Int32 → (Nat → Int32) → (Nat → Nat → Int32) → Int64
  | 0, _, _, z, g => 0
  | n + 1, a1, a3, z, g => (if (z 39) ≤ a3 then a1 else (R_X6_digest_117 n (((31 : Int64) * a1) + ((g 34 (a3).toNatClampNeg)).toInt64) (a3 + (1 : Int32)) z g))
def O_X6_digest_117  : Nat → Int64 → Int32 → (Nat → Int32) → (Nat → Nat → Int32) → Prop
  | 0, _, _, _, _ => False
  | n + 1, a1, a3, z, g => (((z 39) ≤ a3 → True) ∧ (¬ ((z 39) ≤ a3) → (vp_in a3 150 ∧ (O_X6_digest_117 n (((31 : Int64) * a1) + ((g 34 (a3).toNatClampNeg)).toInt64) (a3 + (1 : Int32)) z g))))
set_option maxHeartbeats 4000000 in
set_option maxRecDepth 100000 in
theorem sp_X6_digest_117 (Γ : nr_M) (ρ : Nat → Nat) (d : Nat) (X : nr_CX) (hX : nr_Cx Γ ρ X yX6_digest cX6_digest 5 (some .long) (d + 5)) : ∀ (n : Nat) (a1 : Int64) (a3 : Int32) (z : Nat → Int32) (g : Nat → Nat → Int32) (R0 : Int64) (_ : R_X6_digest_117 n a1 a3 z g = R0) (_ : O_X6_digest_117 n a1 a3 z g), nr_G Γ ρ X 5 (nr_Ql Γ ρ X (fun x u => x = R0 ∧ u = (z, g))) 117 [(0, .ref (ρ 20)), (1, .long a1), (3, .int a3)] [] z g := by
  intro n
  induction n with
  | zero => intro a1 a3 z g R0 hR hok; exact False.elim hok
  | succ n ih =>
    intro a1 a3 z g R0 hR hok
    rw [R_X6_digest_117] at hR
    rw [O_X6_digest_117] at hok
    refine G_iload_n hX dX6_digest_117 rfl rfl ?_
    refine G_aload_n hX dX6_digest_118 rfl rfl ?_
    refine G_geti hX dX6_digest_119 gt_RX6_229 rfl ?_
    refine G_icmp_ge (tg := 145) hX dX6_digest_122 (by decide) rfl (fun (h_122 : (z 39) ≤ a3) => ?_) (fun (h_122 : ¬ ((z 39) ≤ a3)) => ?_)
    · rw [if_pos h_122] at hR
      replace hok := hok.1 h_122
      refine G_lload_n hX dX6_digest_145 rfl rfl ?_
      exact G_lret hX dX6_digest_146 ⟨hR, rfl⟩
    · rw [if_neg h_122] at hR
      replace hok := hok.2 h_122
      refine G_ldc2 (v := (31 : Int64)) hX dX6_digest_125 wk_RX6_299 rfl ?_
      refine G_lload_n hX dX6_digest_128 rfl rfl ?_
      refine G_lmul hX dX6_digest_129 rfl ?_
      refine G_aload_n hX dX6_digest_130 rfl rfl ?_
      refine G_getr hX dX6_digest_131 gt_RX6_54 rfl ?_
      refine G_iload_n hX dX6_digest_134 rfl rfl ?_
      obtain ⟨hi_135, hok⟩ := hok
      refine G_iald hX dX6_digest_135 (rfl : nr_il 34 = 150) (by decide) hi_135 rfl ?_
      refine G_i2l hX dX6_digest_136 rfl ?_
      refine G_ladd hX dX6_digest_137 rfl ?_
      refine G_lstore_n hX dX6_digest_138 (by decide) rfl rfl ?_
      refine G_iinc (v := (a3 + (1 : Int32))) hX dX6_digest_139 rfl rfl (by decide) rfl rfl ?_
      refine G_goto (tg := 117) hX dX6_digest_142 (by decide) ?_
      exact nr_sub (by exact ⟨rfl, rfl, rfl, trivial⟩) (ih (((31 : Int64) * a1) + ((g 34 (a3).toNatClampNeg)).toInt64) (a3 + (1 : Int32)) z g R0 hR hok)
def R_X6_digest_78  : Nat → Int64 → Int32 → (Nat → Int32) → (Nat → Nat → Int32) → Int64
  | 0, _, _, z, g => 0
  | n + 1, a1, a3, z, g => (if (8 : Int32) ≤ a3 then (R_X6_digest_117 500 (((31 : Int64) * a1) + ((z 39)).toInt64) (0 : Int32) z g) else (R_X6_digest_78 n (((31 : Int64) * a1) + ((R_X6_toldWas a3 z g)).toInt64) (a3 + (1 : Int32)) z g))
def O_X6_digest_78  : Nat → Int64 → Int32 → (Nat → Int32) → (Nat → Nat → Int32) → Prop
  | 0, _, _, _, _ => False
  | n + 1, a1, a3, z, g => (((8 : Int32) ≤ a3 → (O_X6_digest_117 500 (((31 : Int64) * a1) + ((z 39)).toInt64) (0 : Int32) z g)) ∧ (¬ ((8 : Int32) ≤ a3) → (O_X6_toldWas a3 z g ∧ (O_X6_digest_78 n (((31 : Int64) * a1) + ((R_X6_toldWas a3 z g)).toInt64) (a3 + (1 : Int32)) z g))))
set_option maxHeartbeats 4000000 in
set_option maxRecDepth 100000 in
theorem sp_X6_digest_78 (Γ : nr_M) (ρ : Nat → Nat) (d : Nat) (X : nr_CX) (hX : nr_Cx Γ ρ X yX6_digest cX6_digest 5 (some .long) (d + 5)) : ∀ (n : Nat) (a1 : Int64) (a3 : Int32) (z : Nat → Int32) (g : Nat → Nat → Int32) (R0 : Int64) (_ : R_X6_digest_78 n a1 a3 z g = R0) (_ : O_X6_digest_78 n a1 a3 z g), nr_G Γ ρ X 5 (nr_Ql Γ ρ X (fun x u => x = R0 ∧ u = (z, g))) 78 [(0, .ref (ρ 20)), (1, .long a1), (3, .int a3)] [] z g := by
  intro n
  induction n with
  | zero => intro a1 a3 z g R0 hR hok; exact False.elim hok
  | succ n ih =>
    intro a1 a3 z g R0 hR hok
    rw [R_X6_digest_78] at hR
    rw [O_X6_digest_78] at hok
    refine G_iload_n hX dX6_digest_78 rfl rfl ?_
    refine G_bipush (v := (8 : Int32)) hX dX6_digest_79 (by decide) rfl ?_
    refine G_icmp_ge (tg := 103) hX dX6_digest_81 (by decide) rfl (fun (h_81 : (8 : Int32) ≤ a3) => ?_) (fun (h_81 : ¬ ((8 : Int32) ≤ a3)) => ?_)
    · rw [if_pos h_81] at hR
      replace hok := hok.1 h_81
      refine G_ldc2 (v := (31 : Int64)) hX dX6_digest_103 wk_RX6_299 rfl ?_
      refine G_lload_n hX dX6_digest_106 rfl rfl ?_
      refine G_lmul hX dX6_digest_107 rfl ?_
      refine G_aload_n hX dX6_digest_108 rfl rfl ?_
      refine G_geti hX dX6_digest_109 gt_RX6_229 rfl ?_
      refine G_i2l hX dX6_digest_112 rfl ?_
      refine G_ladd hX dX6_digest_113 rfl ?_
      refine G_lstore_n hX dX6_digest_114 (by decide) rfl rfl ?_
      refine G_iconst (v := (0 : Int32)) hX dX6_digest_115 (by decide) rfl ?_
      refine G_istore_n hX dX6_digest_116 (by decide) rfl rfl ?_
      exact nr_sub (by exact ⟨rfl, rfl, rfl, trivial⟩) (sp_X6_digest_117 Γ ρ d X hX 500 (((31 : Int64) * a1) + ((z 39)).toInt64) (0 : Int32) z g R0 hR hok)
    · rw [if_neg h_81] at hR
      replace hok := hok.2 h_81
      refine G_ldc2 (v := (31 : Int64)) hX dX6_digest_84 wk_RX6_299 rfl ?_
      refine G_lload_n hX dX6_digest_87 rfl rfl ?_
      refine G_lmul hX dX6_digest_88 rfl ?_
      refine G_aload_n hX dX6_digest_89 rfl rfl ?_
      refine G_iload_n hX dX6_digest_90 rfl rfl ?_
      obtain ⟨ho_91, hok⟩ := hok
      refine G_fVi hX dX6_digest_91 lv_RX6_247 (sp_X6_toldWas Γ ρ d a3 z g ho_91) (by omega) nr_is_20 rfl rfl (Nat.le_of_ble_eq_true rfl) rfl ?_
      refine G_i2l hX dX6_digest_94 rfl ?_
      refine G_ladd hX dX6_digest_95 rfl ?_
      refine G_lstore_n hX dX6_digest_96 (by decide) rfl rfl ?_
      refine G_iinc (v := (a3 + (1 : Int32))) hX dX6_digest_97 rfl rfl (by decide) rfl rfl ?_
      refine G_goto (tg := 78) hX dX6_digest_100 (by decide) ?_
      exact nr_sub (by exact ⟨rfl, rfl, rfl, trivial⟩) (ih (((31 : Int64) * a1) + ((R_X6_toldWas a3 z g)).toInt64) (a3 + (1 : Int32)) z g R0 hR hok)
def R_X6_digest_42 (kT_33 : Int64 → Int32 → (Nat → Int32) → (Nat → Nat → Int32) → Int64) : Nat → Int64 → Int32 → Int32 → (Nat → Int32) → (Nat → Nat → Int32) → Int64
  | 0, _, _, _, z, g => 0
  | n + 1, a1, a3, a4, z, g => (if (7 : Int32) ≤ a4 then (kT_33 a1 (a3 + (1 : Int32)) z g) else (R_X6_digest_42 kT_33 n (((31 : Int64) * a1) + ((R_X6_toldOf a3 a4 z g)).toInt64) a3 (a4 + (1 : Int32)) z g))
def O_X6_digest_42 (kT_33 : Int64 → Int32 → (Nat → Int32) → (Nat → Nat → Int32) → Int64) (kO_33 : Int64 → Int32 → (Nat → Int32) → (Nat → Nat → Int32) → Prop) : Nat → Int64 → Int32 → Int32 → (Nat → Int32) → (Nat → Nat → Int32) → Prop
  | 0, _, _, _, _, _ => False
  | n + 1, a1, a3, a4, z, g => (((7 : Int32) ≤ a4 → (kO_33 a1 (a3 + (1 : Int32)) z g)) ∧ (¬ ((7 : Int32) ≤ a4) → (O_X6_toldOf a3 a4 z g ∧ (O_X6_digest_42 kT_33 kO_33 n (((31 : Int64) * a1) + ((R_X6_toldOf a3 a4 z g)).toInt64) a3 (a4 + (1 : Int32)) z g))))
set_option maxHeartbeats 4000000 in
set_option maxRecDepth 100000 in
theorem sp_X6_digest_42 (Γ : nr_M) (ρ : Nat → Nat) (d : Nat) (kT_33 : Int64 → Int32 → (Nat → Int32) → (Nat → Nat → Int32) → Int64) (kO_33 : Int64 → Int32 → (Nat → Int32) → (Nat → Nat → Int32) → Prop) (X : nr_CX) (hX : nr_Cx Γ ρ X yX6_digest cX6_digest 5 (some .long) (d + 5)) (hk_33 : ∀ (a1 : Int64) (a3 : Int32) (z : Nat → Int32) (g : Nat → Nat → Int32) (R0 : Int64) (_ : kT_33 a1 a3 z g = R0) (_ : kO_33 a1 a3 z g), nr_G Γ ρ X 5 (nr_Ql Γ ρ X (fun x u => x = R0 ∧ u = (z, g))) 33 [(0, .ref (ρ 20)), (1, .long a1), (3, .int a3)] [] z g) : ∀ (n : Nat) (a1 : Int64) (a3 : Int32) (a4 : Int32) (z : Nat → Int32) (g : Nat → Nat → Int32) (R0 : Int64) (_ : R_X6_digest_42 kT_33 n a1 a3 a4 z g = R0) (_ : O_X6_digest_42 kT_33 kO_33 n a1 a3 a4 z g), nr_G Γ ρ X 5 (nr_Ql Γ ρ X (fun x u => x = R0 ∧ u = (z, g))) 42 [(0, .ref (ρ 20)), (1, .long a1), (3, .int a3), (4, .int a4)] [] z g := by
  intro n
  induction n with
  | zero => intro a1 a3 a4 z g R0 hR hok; exact False.elim hok
  | succ n ih =>
    intro a1 a3 a4 z g R0 hR hok
    rw [R_X6_digest_42] at hR
    rw [O_X6_digest_42] at hok
    refine G_iload hX dX6_digest_42 rfl rfl ?_
    refine G_bipush (v := (7 : Int32)) hX dX6_digest_44 (by decide) rfl ?_
    refine G_icmp_ge (tg := 70) hX dX6_digest_46 (by decide) rfl (fun (h_46 : (7 : Int32) ≤ a4) => ?_) (fun (h_46 : ¬ ((7 : Int32) ≤ a4)) => ?_)
    · rw [if_pos h_46] at hR
      replace hok := hok.1 h_46
      refine G_iinc (v := (a3 + (1 : Int32))) hX dX6_digest_70 rfl rfl (by decide) rfl rfl ?_
      refine G_goto (tg := 33) hX dX6_digest_73 (by decide) ?_
      exact nr_sub (by exact ⟨rfl, rfl, rfl, trivial⟩) (hk_33 a1 (a3 + (1 : Int32)) z g R0 hR hok)
    · rw [if_neg h_46] at hR
      replace hok := hok.2 h_46
      refine G_ldc2 (v := (31 : Int64)) hX dX6_digest_49 wk_RX6_299 rfl ?_
      refine G_lload_n hX dX6_digest_52 rfl rfl ?_
      refine G_lmul hX dX6_digest_53 rfl ?_
      refine G_aload_n hX dX6_digest_54 rfl rfl ?_
      refine G_iload_n hX dX6_digest_55 rfl rfl ?_
      refine G_iload hX dX6_digest_56 rfl rfl ?_
      obtain ⟨ho_58, hok⟩ := hok
      refine G_fVi hX dX6_digest_58 lv_RX6_96 (sp_X6_toldOf Γ ρ d a3 a4 z g ho_58) (by omega) nr_is_20 rfl rfl (Nat.le_of_ble_eq_true rfl) rfl ?_
      refine G_i2l hX dX6_digest_61 rfl ?_
      refine G_ladd hX dX6_digest_62 rfl ?_
      refine G_lstore_n hX dX6_digest_63 (by decide) rfl rfl ?_
      refine G_iinc (v := (a4 + (1 : Int32))) hX dX6_digest_64 rfl rfl (by decide) rfl rfl ?_
      refine G_goto (tg := 42) hX dX6_digest_67 (by decide) ?_
      exact nr_sub (by exact ⟨rfl, rfl, rfl, rfl, trivial⟩) (ih (((31 : Int64) * a1) + ((R_X6_toldOf a3 a4 z g)).toInt64) a3 (a4 + (1 : Int32)) z g R0 hR hok)
def R_X6_digest_33  : Nat → Int64 → Int32 → (Nat → Int32) → (Nat → Nat → Int32) → Int64
  | 0, _, _, z, g => 0
  | n + 1, a1, a3, z, g => (if (8 : Int32) ≤ a3 then (R_X6_digest_78 500 a1 (0 : Int32) z g) else (R_X6_digest_42 (R_X6_digest_33 n) 500 a1 a3 (0 : Int32) z g))
def O_X6_digest_33  : Nat → Int64 → Int32 → (Nat → Int32) → (Nat → Nat → Int32) → Prop
  | 0, _, _, _, _ => False
  | n + 1, a1, a3, z, g => (((8 : Int32) ≤ a3 → (O_X6_digest_78 500 a1 (0 : Int32) z g)) ∧ (¬ ((8 : Int32) ≤ a3) → (O_X6_digest_42 (R_X6_digest_33 n) (O_X6_digest_33 n) 500 a1 a3 (0 : Int32) z g)))
set_option maxHeartbeats 4000000 in
set_option maxRecDepth 100000 in
theorem sp_X6_digest_33 (Γ : nr_M) (ρ : Nat → Nat) (d : Nat) (X : nr_CX) (hX : nr_Cx Γ ρ X yX6_digest cX6_digest 5 (some .long) (d + 5)) : ∀ (n : Nat) (a1 : Int64) (a3 : Int32) (z : Nat → Int32) (g : Nat → Nat → Int32) (R0 : Int64) (_ : R_X6_digest_33 n a1 a3 z g = R0) (_ : O_X6_digest_33 n a1 a3 z g), nr_G Γ ρ X 5 (nr_Ql Γ ρ X (fun x u => x = R0 ∧ u = (z, g))) 33 [(0, .ref (ρ 20)), (1, .long a1), (3, .int a3)] [] z g := by
  intro n
  induction n with
  | zero => intro a1 a3 z g R0 hR hok; exact False.elim hok
  | succ n ih =>
    intro a1 a3 z g R0 hR hok
    rw [R_X6_digest_33] at hR
    rw [O_X6_digest_33] at hok
    refine G_iload_n hX dX6_digest_33 rfl rfl ?_
    refine G_bipush (v := (8 : Int32)) hX dX6_digest_34 (by decide) rfl ?_
    refine G_icmp_ge (tg := 76) hX dX6_digest_36 (by decide) rfl (fun (h_36 : (8 : Int32) ≤ a3) => ?_) (fun (h_36 : ¬ ((8 : Int32) ≤ a3)) => ?_)
    · rw [if_pos h_36] at hR
      replace hok := hok.1 h_36
      refine G_iconst (v := (0 : Int32)) hX dX6_digest_76 (by decide) rfl ?_
      refine G_istore_n hX dX6_digest_77 (by decide) rfl rfl ?_
      exact nr_sub (by exact ⟨rfl, rfl, rfl, trivial⟩) (sp_X6_digest_78 Γ ρ d X hX 500 a1 (0 : Int32) z g R0 hR hok)
    · rw [if_neg h_36] at hR
      replace hok := hok.2 h_36
      refine G_iconst (v := (0 : Int32)) hX dX6_digest_39 (by decide) rfl ?_
      refine G_istore hX dX6_digest_40 (by decide) rfl rfl ?_
      exact nr_sub (by exact ⟨rfl, rfl, rfl, rfl, trivial⟩) (sp_X6_digest_42 Γ ρ d (R_X6_digest_33 n) (O_X6_digest_33 n) X hX ih 500 a1 a3 (0 : Int32) z g R0 hR hok)
def R_X6_digest_6  : Nat → Int64 → Int32 → (Nat → Int32) → (Nat → Nat → Int32) → Int64
  | 0, _, _, z, g => 0
  | n + 1, a1, a3, z, g => (if (9 : Int32) ≤ a3 then (R_X6_digest_33 500 a1 (0 : Int32) z g) else (R_X6_digest_6 n (((31 : Int64) * a1) + ((R_X6_counted a3 z g)).toInt64) (a3 + (1 : Int32)) z g))
def O_X6_digest_6  : Nat → Int64 → Int32 → (Nat → Int32) → (Nat → Nat → Int32) → Prop
  | 0, _, _, _, _ => False
  | n + 1, a1, a3, z, g => (((9 : Int32) ≤ a3 → (O_X6_digest_33 500 a1 (0 : Int32) z g)) ∧ (¬ ((9 : Int32) ≤ a3) → (O_X6_counted a3 z g ∧ (O_X6_digest_6 n (((31 : Int64) * a1) + ((R_X6_counted a3 z g)).toInt64) (a3 + (1 : Int32)) z g))))
set_option maxHeartbeats 4000000 in
set_option maxRecDepth 100000 in
theorem sp_X6_digest_6 (Γ : nr_M) (ρ : Nat → Nat) (d : Nat) (X : nr_CX) (hX : nr_Cx Γ ρ X yX6_digest cX6_digest 5 (some .long) (d + 5)) : ∀ (n : Nat) (a1 : Int64) (a3 : Int32) (z : Nat → Int32) (g : Nat → Nat → Int32) (R0 : Int64) (_ : R_X6_digest_6 n a1 a3 z g = R0) (_ : O_X6_digest_6 n a1 a3 z g), nr_G Γ ρ X 5 (nr_Ql Γ ρ X (fun x u => x = R0 ∧ u = (z, g))) 6 [(0, .ref (ρ 20)), (1, .long a1), (3, .int a3)] [] z g := by
  intro n
  induction n with
  | zero => intro a1 a3 z g R0 hR hok; exact False.elim hok
  | succ n ih =>
    intro a1 a3 z g R0 hR hok
    rw [R_X6_digest_6] at hR
    rw [O_X6_digest_6] at hok
    refine G_iload_n hX dX6_digest_6 rfl rfl ?_
    refine G_bipush (v := (9 : Int32)) hX dX6_digest_7 (by decide) rfl ?_
    refine G_icmp_ge (tg := 31) hX dX6_digest_9 (by decide) rfl (fun (h_9 : (9 : Int32) ≤ a3) => ?_) (fun (h_9 : ¬ ((9 : Int32) ≤ a3)) => ?_)
    · rw [if_pos h_9] at hR
      replace hok := hok.1 h_9
      refine G_iconst (v := (0 : Int32)) hX dX6_digest_31 (by decide) rfl ?_
      refine G_istore_n hX dX6_digest_32 (by decide) rfl rfl ?_
      exact nr_sub (by exact ⟨rfl, rfl, rfl, trivial⟩) (sp_X6_digest_33 Γ ρ d X hX 500 a1 (0 : Int32) z g R0 hR hok)
    · rw [if_neg h_9] at hR
      replace hok := hok.2 h_9
      refine G_ldc2 (v := (31 : Int64)) hX dX6_digest_12 wk_RX6_299 rfl ?_
      refine G_lload_n hX dX6_digest_15 rfl rfl ?_
      refine G_lmul hX dX6_digest_16 rfl ?_
      refine G_aload_n hX dX6_digest_17 rfl rfl ?_
      refine G_iload_n hX dX6_digest_18 rfl rfl ?_
      obtain ⟨ho_19, hok⟩ := hok
      refine G_fVi hX dX6_digest_19 lv_RX6_294 (sp_X6_counted Γ ρ d a3 z g ho_19) (by omega) nr_is_20 rfl rfl (Nat.le_of_ble_eq_true rfl) rfl ?_
      refine G_i2l hX dX6_digest_22 rfl ?_
      refine G_ladd hX dX6_digest_23 rfl ?_
      refine G_lstore_n hX dX6_digest_24 (by decide) rfl rfl ?_
      refine G_iinc (v := (a3 + (1 : Int32))) hX dX6_digest_25 rfl rfl (by decide) rfl rfl ?_
      refine G_goto (tg := 6) hX dX6_digest_28 (by decide) ?_
      exact nr_sub (by exact ⟨rfl, rfl, rfl, trivial⟩) (ih (((31 : Int64) * a1) + ((R_X6_counted a3 z g)).toInt64) (a3 + (1 : Int32)) z g R0 hR hok)
def R_X6_digest  (z : Nat → Int32) (g : Nat → Nat → Int32) : Int64 := (R_X6_digest_6 500 (1973 : Int64) (0 : Int32) z g)
def O_X6_digest  (z : Nat → Int32) (g : Nat → Nat → Int32) : Prop := (O_X6_digest_6 500 (1973 : Int64) (0 : Int32) z g)
set_option maxHeartbeats 4000000 in
set_option maxRecDepth 100000 in
theorem sp_X6_digest (Γ : nr_M) (ρ : Nat → Nat) (d : Nat) (z : Nat → Int32) (g : Nat → Nat → Int32) (hok : O_X6_digest z g) : nr_Sl Γ ρ (d + 5) yX6_digest cX6_digest 5 (some .long) [.ref (ρ 20)] z g (fun x u => x = (R_X6_digest z g) ∧ u = (z, g)) := by
  refine nr_body_l (lv := [(0, .ref (ρ 20))]) (by decide +kernel) (Nat.le_of_ble_eq_true rfl) rfl (fun X hX => ?_)
  generalize hR : (R_X6_digest z g) = R0
  rw [R_X6_digest] at hR
  rw [O_X6_digest] at hok
  refine G_ldc2 (v := (1973 : Int64)) hX dX6_digest_0 wk_RX6_297 rfl ?_
  refine G_lstore_n hX dX6_digest_3 (by decide) rfl rfl ?_
  refine G_iconst (v := (0 : Int32)) hX dX6_digest_4 (by decide) rfl ?_
  refine G_istore_n hX dX6_digest_5 (by decide) rfl rfl ?_
  exact nr_sub (by exact ⟨rfl, rfl, rfl, trivial⟩) (sp_X6_digest_6 Γ ρ d X hX 500 (1973 : Int64) (0 : Int32) z g R0 hR hok)
