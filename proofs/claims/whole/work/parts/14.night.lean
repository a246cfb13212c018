def T_X5_sets_31   (z : Nat → Int32) (g : Nat → Nat → Int32) : Int32 × nr_S := (nr_K (T_X5_refuse (-2 : Int32) z g) (fun r_34 z_34 g_34 => (r_34, z_34, g_34)))
def O_X5_sets_31   (z : Nat → Int32) (g : Nat → Nat → Int32) : Prop := True
set_option maxHeartbeats 4000000 in
set_option maxRecDepth 100000 in
theorem sp_X5_sets_31 (Γ : nr_M) (ρ : Nat → Nat) (d : Nat) (X : nr_CX) (hX : nr_Cx Γ ρ X yX5_sets cX5_sets 5 (some .int) (d + 2))  (z : Nat → Int32) (g : Nat → Nat → Int32) (R0 : Int32 × nr_S) (hR : T_X5_sets_31  z g = R0) (hok : O_X5_sets_31  z g) : nr_G Γ ρ X 5 (nr_Qi Γ ρ X (fun x u => R0 = (x, u))) 31 [(0, .ref (ρ 0))] [] z g := by
  rw [T_X5_sets_31] at hR
  rw [O_X5_sets_31] at hok
  refine G_aload_n hX dX5_sets_31 rfl rfl ?_
  refine G_bipush (v := (-2 : Int32)) hX dX5_sets_32 (by decide) rfl ?_
  refine G_cVi hX dX5_sets_34 lv_RX5_68 (sp_X5_refuse Γ ρ d (-2 : Int32) z g) (by omega) nr_is_0 rfl rfl (Nat.le_of_ble_eq_true rfl) rfl (fun r_34 u_34 e_34 => ?_)
  obtain ⟨z_34, g_34⟩ := u_34
  rw [e_34, nr_K_mk] at hR
  exact G_iret hX rfl dX5_sets_37 rfl hR.symm
def T_X5_sets (a1 : Int32) (a2 : Int32) (a3 : Int32) (z : Nat → Int32) (g : Nat → Nat → Int32) : Int32 × nr_S := (if (R_X5_isRoom a1) = 0 then (T_X5_sets_31  z g) else (if (R_X5_within a2 (0 : Int32) (3 : Int32)) = 0 then (T_X5_sets_31  z g) else (if (R_X5_within a3 (0 : Int32) (R_X5_at 40 a2 z g)) = 0 then (T_X5_sets_31  z g) else (nr_K (T_X1_keep z g) (fun r_57 z_57 g_57 => (nr_K (T_X0_change 1 a1 a2 a3 z_57 g_57) (fun r_67 z_67 g_67 => ((R_X0_cell 1 a1 a2 z g), z_67, g_67))))))))
def O_X5_sets (a1 : Int32) (a2 : Int32) (a3 : Int32) (z : Nat → Int32) (g : Nat → Nat → Int32) : Prop := (((R_X5_isRoom a1) = 0 → (O_X5_sets_31  z g)) ∧ (¬ ((R_X5_isRoom a1) = 0) → (((R_X5_within a2 (0 : Int32) (3 : Int32)) = 0 → (O_X5_sets_31  z g)) ∧ (¬ ((R_X5_within a2 (0 : Int32) (3 : Int32)) = 0) → (O_X5_at 40 a2 z g ∧ (((R_X5_within a3 (0 : Int32) (R_X5_at 40 a2 z g)) = 0 → (O_X5_sets_31  z g)) ∧ (¬ ((R_X5_within a3 (0 : Int32) (R_X5_at 40 a2 z g)) = 0) → (O_X0_cell 1 a1 a2 z g ∧ ((O_X1_keep z g ∧ nr_KP (T_X1_keep z g) (fun r_57 z_57 g_57 => ((O_X0_change 1 a1 a2 a3 z_57 g_57 ∧ True)))))))))))))
set_option maxHeartbeats 4000000 in
set_option maxRecDepth 100000 in
theorem sp_X5_sets (Γ : nr_M) (ρ : Nat → Nat) (d : Nat) (a1 : Int32) (a2 : Int32) (a3 : Int32) (z : Nat → Int32) (g : Nat → Nat → Int32) (hok : O_X5_sets a1 a2 a3 z g) : nr_Si Γ ρ (d + 2) yX5_sets cX5_sets 5 (some .int) [.ref (ρ 0), .int a1, .int a2, .int a3] z g (fun x u => (T_X5_sets a1 a2 a3 z g) = (x, u)) := by
  refine nr_body_i (lv := [(0, .ref (ρ 0)), (1, .int a1), (2, .int a2), (3, .int a3)]) (by decide +kernel) (Nat.le_of_ble_eq_true rfl) rfl (fun X hX => ?_)
  generalize hR : (T_X5_sets a1 a2 a3 z g) = R0
  rw [T_X5_sets] at hR
  rw [O_X5_sets] at hok
  refine G_iload_n hX dX5_sets_0 rfl rfl ?_
  refine G_fSi hX dX5_sets_1 ls_RX5_52 (sp_X5_isRoom Γ ρ d a1 z g) (by omega) rfl rfl (Nat.le_of_ble_eq_true rfl) rfl ?_
  refine G_if_eq (tg := 31) hX dX5_sets_4 (by decide) rfl (fun (h_4 : (R_X5_isRoom a1) = 0) => ?_) (fun (h_4 : ¬ ((R_X5_isRoom a1) = 0)) => ?_)
  · rw [if_pos h_4] at hR
    replace hok := hok.1 h_4
    exact nr_sub (by exact ⟨rfl, trivial⟩) (sp_X5_sets_31 Γ ρ d X hX z g R0 hR hok)
  · rw [if_neg h_4] at hR
    replace hok := hok.2 h_4
    refine G_iload_n hX dX5_sets_7 rfl rfl ?_
    refine G_iconst (v := (0 : Int32)) hX dX5_sets_8 (by decide) rfl ?_
    refine G_iconst (v := (3 : Int32)) hX dX5_sets_9 (by decide) rfl ?_
    refine G_fSi hX dX5_sets_10 ls_RX5_56 (sp_X5_within Γ ρ d a2 (0 : Int32) (3 : Int32) z g) (by omega) rfl rfl (Nat.le_of_ble_eq_true rfl) rfl ?_
    refine G_if_eq (tg := 31) hX dX5_sets_13 (by decide) rfl (fun (h_13 : (R_X5_within a2 (0 : Int32) (3 : Int32)) = 0) => ?_) (fun (h_13 : ¬ ((R_X5_within a2 (0 : Int32) (3 : Int32)) = 0)) => ?_)
    · rw [if_pos h_13] at hR
      replace hok := hok.1 h_13
      exact nr_sub (by exact ⟨rfl, trivial⟩) (sp_X5_sets_31 Γ ρ d X hX z g R0 hR hok)
    · rw [if_neg h_13] at hR
      replace hok := hok.2 h_13
      refine G_iload_n hX dX5_sets_16 rfl rfl ?_
      refine G_iconst (v := (0 : Int32)) hX dX5_sets_17 (by decide) rfl ?_
      refine G_gets (k := 40) hX dX5_sets_18 (by decide) (by decide) wf_RX5_60 rfl ?_
      refine G_iload_n hX dX5_sets_21 rfl rfl ?_
      obtain ⟨ho_22, hok⟩ := hok
      refine G_fSi hX dX5_sets_22 ls_RX5_64 (sp_X5_at Γ ρ d 40 a2 z g ho_22) (by omega) rfl rfl (Nat.le_of_ble_eq_true rfl) rfl ?_
      refine G_fSi hX dX5_sets_25 ls_RX5_56 (sp_X5_within Γ ρ d a3 (0 : Int32) (R_X5_at 40 a2 z g) z g) (by omega) rfl rfl (Nat.le_of_ble_eq_true rfl) rfl ?_
      refine G_if_ne (tg := 38) hX dX5_sets_28 (by decide) rfl (fun (h_28 : ¬ ((R_X5_within a3 (0 : Int32) (R_X5_at 40 a2 z g)) = 0)) => ?_) (fun (h_28 : (R_X5_within a3 (0 : Int32) (R_X5_at 40 a2 z g)) = 0) => ?_)
      · rw [if_neg h_28] at hR
        replace hok := hok.2 h_28
        refine G_aload_n hX dX5_sets_38 rfl rfl ?_
        refine G_getr hX dX5_sets_39 gt_RX5_12 rfl ?_
        refine G_iload_n hX dX5_sets_42 rfl rfl ?_
        refine G_iload_n hX dX5_sets_43 rfl rfl ?_
        obtain ⟨ho_44, hok⟩ := hok
        refine G_fVi hX dX5_sets_44 lv_RX5_72 (sp_X0_cell Γ ρ d 1 a1 a2 (Or.inl rfl) z g ho_44) (by omega) (nr_is_ho (Or.inl rfl)) rfl rfl (Nat.le_of_ble_eq_true rfl) rfl ?_
        refine G_istore hX dX5_sets_47 (by decide) rfl rfl ?_
        refine G_aload_n hX dX5_sets_49 rfl rfl ?_
        refine G_getr hX dX5_sets_50 gt_RX5_22 rfl ?_
        refine G_aload_n hX dX5_sets_53 rfl rfl ?_
        refine G_getr hX dX5_sets_54 gt_RX5_12 rfl ?_
        obtain ⟨ho_57, hok⟩ := hok
        refine G_cVv hX dX5_sets_57 lv_RX5_76 (sp_X1_keep Γ ρ d z g ho_57) (by omega) nr_is_5 rfl rfl (Nat.le_of_ble_eq_true rfl) rfl (fun u_57 e_57 => ?_)
        obtain ⟨z_57, g_57⟩ := u_57
        rw [e_57, nr_K_mk] at hR
        rw [e_57, nr_KP_mk] at hok
        refine G_aload_n hX dX5_sets_60 rfl rfl ?_
        refine G_getr hX dX5_sets_61 gt_RX5_12 rfl ?_
        refine G_iload_n hX dX5_sets_64 rfl rfl ?_
        refine G_iload_n hX dX5_sets_65 rfl rfl ?_
        refine G_iload_n hX dX5_sets_66 rfl rfl ?_
        obtain ⟨ho_67, hok⟩ := hok
        refine G_cVv hX dX5_sets_67 lv_RX5_80 (sp_X0_change Γ ρ d 1 a1 a2 a3 (Or.inl rfl) z_57 g_57 ho_67) (by omega) (nr_is_ho (Or.inl rfl)) rfl rfl (Nat.le_of_ble_eq_true rfl) rfl (fun u_67 e_67 => ?_)
        obtain ⟨z_67, g_67⟩ := u_67
        rw [e_67, nr_K_mk] at hR
        refine G_iload hX dX5_sets_70 rfl rfl ?_
        exact G_iret hX rfl dX5_sets_72 rfl hR.symm
      · rw [if_pos h_28] at hR
        replace hok := hok.1 h_28
        exact nr_sub (by exact ⟨rfl, trivial⟩) (sp_X5_sets_31 Γ ρ d X hX z g R0 hR hok)
def T_X5_of_17   (z : Nat → Int32) (g : Nat → Nat → Int32) : Int32 × nr_S := (nr_K (T_X5_refuse (-2 : Int32) z g) (fun r_20 z_20 g_20 => (r_20, z_20, g_20)))
def O_X5_of_17   (z : Nat → Int32) (g : Nat → Nat → Int32) : Prop := True
set_option maxHeartbeats 4000000 in
set_option maxRecDepth 100000 in
theorem sp_X5_of_17 (Γ : nr_M) (ρ : Nat → Nat) (d : Nat) (X : nr_CX) (hX : nr_Cx Γ ρ X yX5_of cX5_of 3 (some .int) (d + 2))  (z : Nat → Int32) (g : Nat → Nat → Int32) (R0 : Int32 × nr_S) (hR : T_X5_of_17  z g = R0) (hok : O_X5_of_17  z g) : nr_G Γ ρ X 3 (nr_Qi Γ ρ X (fun x u => R0 = (x, u))) 17 [(0, .ref (ρ 0))] [] z g := by
  rw [T_X5_of_17] at hR
  rw [O_X5_of_17] at hok
  refine G_aload_n hX dX5_of_17 rfl rfl ?_
  refine G_bipush (v := (-2 : Int32)) hX dX5_of_18 (by decide) rfl ?_
  refine G_cVi hX dX5_of_20 lv_RX5_68 (sp_X5_refuse Γ ρ d (-2 : Int32) z g) (by omega) nr_is_0 rfl rfl (Nat.le_of_ble_eq_true rfl) rfl (fun r_20 u_20 e_20 => ?_)
  obtain ⟨z_20, g_20⟩ := u_20
  rw [e_20, nr_K_mk] at hR
  exact G_iret hX rfl dX5_of_23 rfl hR.symm
def T_X5_of (a1 : Int32) (a2 : Int32) (z : Nat → Int32) (g : Nat → Nat → Int32) : Int32 × nr_S := (if (R_X5_isRoom a1) = 0 then (T_X5_of_17  z g) else (if (R_X5_within a2 (0 : Int32) (7 : Int32)) = 0 then (T_X5_of_17  z g) else (if a2 = (7 : Int32) then ((R_X0_loudness 1 a1 z g), z, g) else ((R_X0_cell 1 a1 a2 z g), z, g))))
def O_X5_of (a1 : Int32) (a2 : Int32) (z : Nat → Int32) (g : Nat → Nat → Int32) : Prop := (((R_X5_isRoom a1) = 0 → (O_X5_of_17  z g)) ∧ (¬ ((R_X5_isRoom a1) = 0) → (((R_X5_within a2 (0 : Int32) (7 : Int32)) = 0 → (O_X5_of_17  z g)) ∧ (¬ ((R_X5_within a2 (0 : Int32) (7 : Int32)) = 0) → ((a2 = (7 : Int32) → (O_X0_loudness 1 a1 z g ∧ True)) ∧ (¬ (a2 = (7 : Int32)) → (O_X0_cell 1 a1 a2 z g ∧ True)))))))
set_option maxHeartbeats 4000000 in
set_option maxRecDepth 100000 in
theorem sp_X5_of (Γ : nr_M) (ρ : Nat → Nat) (d : Nat) (a1 : Int32) (a2 : Int32) (z : Nat → Int32) (g : Nat → Nat → Int32) (hok : O_X5_of a1 a2 z g) : nr_Si Γ ρ (d + 2) yX5_of cX5_of 3 (some .int) [.ref (ρ 0), .int a1, .int a2] z g (fun x u => (T_X5_of a1 a2 z g) = (x, u)) := by
  refine nr_body_i (lv := [(0, .ref (ρ 0)), (1, .int a1), (2, .int a2)]) (by decide +kernel) (Nat.le_of_ble_eq_true rfl) rfl (fun X hX => ?_)
  generalize hR : (T_X5_of a1 a2 z g) = R0
  rw [T_X5_of] at hR
  rw [O_X5_of] at hok
  refine G_iload_n hX dX5_of_0 rfl rfl ?_
  refine G_fSi hX dX5_of_1 ls_RX5_52 (sp_X5_isRoom Γ ρ d a1 z g) (by omega) rfl rfl (Nat.le_of_ble_eq_true rfl) rfl ?_
  refine G_if_eq (tg := 17) hX dX5_of_4 (by decide) rfl (fun (h_4 : (R_X5_isRoom a1) = 0) => ?_) (fun (h_4 : ¬ ((R_X5_isRoom a1) = 0)) => ?_)
  · rw [if_pos h_4] at hR
    replace hok := hok.1 h_4
    exact nr_sub (by exact ⟨rfl, trivial⟩) (sp_X5_of_17 Γ ρ d X hX z g R0 hR hok)
  · rw [if_neg h_4] at hR
    replace hok := hok.2 h_4
    refine G_iload_n hX dX5_of_7 rfl rfl ?_
    refine G_iconst (v := (0 : Int32)) hX dX5_of_8 (by decide) rfl ?_
    refine G_bipush (v := (7 : Int32)) hX dX5_of_9 (by decide) rfl ?_
    refine G_fSi hX dX5_of_11 ls_RX5_56 (sp_X5_within Γ ρ d a2 (0 : Int32) (7 : Int32) z g) (by omega) rfl rfl (Nat.le_of_ble_eq_true rfl) rfl ?_
    refine G_if_ne (tg := 24) hX dX5_of_14 (by decide) rfl (fun (h_14 : ¬ ((R_X5_within a2 (0 : Int32) (7 : Int32)) = 0)) => ?_) (fun (h_14 : (R_X5_within a2 (0 : Int32) (7 : Int32)) = 0) => ?_)
    · rw [if_neg h_14] at hR
      replace hok := hok.2 h_14
      refine G_iload_n hX dX5_of_24 rfl rfl ?_
      refine G_bipush (v := (7 : Int32)) hX dX5_of_25 (by decide) rfl ?_
      refine G_icmp_ne (tg := 41) hX dX5_of_27 (by decide) rfl (fun (h_27 : ¬ (a2 = (7 : Int32))) => ?_) (fun (h_27 : a2 = (7 : Int32)) => ?_)
      · rw [if_neg h_27] at hR
        replace hok := hok.2 h_27
        refine G_aload_n hX dX5_of_41 rfl rfl ?_
        refine G_getr hX dX5_of_42 gt_RX5_12 rfl ?_
        refine G_iload_n hX dX5_of_45 rfl rfl ?_
        refine G_iload_n hX dX5_of_46 rfl rfl ?_
        obtain ⟨ho_47, hok⟩ := hok
        refine G_fVi hX dX5_of_47 lv_RX5_72 (sp_X0_cell Γ ρ d 1 a1 a2 (Or.inl rfl) z g ho_47) (by omega) (nr_is_ho (Or.inl rfl)) rfl rfl (Nat.le_of_ble_eq_true rfl) rfl ?_
        exact G_iret hX rfl dX5_of_50 rfl hR.symm
      · rw [if_pos h_27] at hR
        replace hok := hok.1 h_27
        refine G_aload_n hX dX5_of_30 rfl rfl ?_
        refine G_getr hX dX5_of_31 gt_RX5_12 rfl ?_
        refine G_iload_n hX dX5_of_34 rfl rfl ?_
        obtain ⟨ho_35, hok⟩ := hok
        refine G_fVi hX dX5_of_35 lv_RX5_84 (sp_X0_loudness Γ ρ d 1 a1 (Or.inl rfl) z g ho_35) (by omega) (nr_is_ho (Or.inl rfl)) rfl rfl (Nat.le_of_ble_eq_true rfl) rfl ?_
        refine G_goto (tg := 50) hX dX5_of_38 (by decide) ?_
        exact G_iret hX rfl dX5_of_50 rfl hR.symm
    · rw [if_pos h_14] at hR
      replace hok := hok.1 h_14
      exact nr_sub (by exact ⟨rfl, trivial⟩) (sp_X5_of_17 Γ ρ d X hX z g R0 hR hok)
def T_X5_keys_16   (z : Nat → Int32) (g : Nat → Nat → Int32) : Int32 × nr_S := (nr_K (T_X5_refuse (-2 : Int32) z g) (fun r_19 z_19 g_19 => (r_19, z_19, g_19)))
def O_X5_keys_16   (z : Nat → Int32) (g : Nat → Nat → Int32) : Prop := True
set_option maxHeartbeats 4000000 in
set_option maxRecDepth 100000 in
theorem sp_X5_keys_16 (Γ : nr_M) (ρ : Nat → Nat) (d : Nat) (X : nr_CX) (hX : nr_Cx Γ ρ X yX5_keys cX5_keys 3 (some .int) (d + 2))  (z : Nat → Int32) (g : Nat → Nat → Int32) (R0 : Int32 × nr_S) (hR : T_X5_keys_16  z g = R0) (hok : O_X5_keys_16  z g) : nr_G Γ ρ X 3 (nr_Qi Γ ρ X (fun x u => R0 = (x, u))) 16 [(0, .ref (ρ 0))] [] z g := by
  rw [T_X5_keys_16] at hR
  rw [O_X5_keys_16] at hok
  refine G_aload_n hX dX5_keys_16 rfl rfl ?_
  refine G_bipush (v := (-2 : Int32)) hX dX5_keys_17 (by decide) rfl ?_
  refine G_cVi hX dX5_keys_19 lv_RX5_68 (sp_X5_refuse Γ ρ d (-2 : Int32) z g) (by omega) nr_is_0 rfl rfl (Nat.le_of_ble_eq_true rfl) rfl (fun r_19 u_19 e_19 => ?_)
  obtain ⟨z_19, g_19⟩ := u_19
  rw [e_19, nr_K_mk] at hR
  exact G_iret hX rfl dX5_keys_22 rfl hR.symm
def T_X5_keys (a1 : Int32) (z : Nat → Int32) (g : Nat → Nat → Int32) : Int32 × nr_S := (if (R_X5_within a1 (0 : Int32) (14 : Int32)) = 0 then (T_X5_keys_16  z g) else (if (a1 &&& (1 : Int32)) = 0 then (nr_K (T_X1_keep z g) (fun r_39 z_39 g_39 => (nr_K (T_X0_giveKeys 1 a1 z_39 g_39) (fun r_47 z_47 g_47 => ((R_X0_keyring 1 z g), z_47, g_47))))) else (T_X5_keys_16  z g)))
def O_X5_keys (a1 : Int32) (z : Nat → Int32) (g : Nat → Nat → Int32) : Prop := (((R_X5_within a1 (0 : Int32) (14 : Int32)) = 0 → (O_X5_keys_16  z g)) ∧ (¬ ((R_X5_within a1 (0 : Int32) (14 : Int32)) = 0) → (((a1 &&& (1 : Int32)) = 0 → ((O_X1_keep z g ∧ True))) ∧ (¬ ((a1 &&& (1 : Int32)) = 0) → (O_X5_keys_16  z g)))))
set_option maxHeartbeats 4000000 in
set_option maxRecDepth 100000 in
theorem sp_X5_keys (Γ : nr_M) (ρ : Nat → Nat) (d : Nat) (a1 : Int32) (z : Nat → Int32) (g : Nat → Nat → Int32) (hok : O_X5_keys a1 z g) : nr_Si Γ ρ (d + 2) yX5_keys cX5_keys 3 (some .int) [.ref (ρ 0), .int a1] z g (fun x u => (T_X5_keys a1 z g) = (x, u)) := by
  refine nr_body_i (lv := [(0, .ref (ρ 0)), (1, .int a1)]) (by decide +kernel) (Nat.le_of_ble_eq_true rfl) rfl (fun X hX => ?_)
  generalize hR : (T_X5_keys a1 z g) = R0
  rw [T_X5_keys] at hR
  rw [O_X5_keys] at hok
  refine G_iload_n hX dX5_keys_0 rfl rfl ?_
  refine G_iconst (v := (0 : Int32)) hX dX5_keys_1 (by decide) rfl ?_
  refine G_bipush (v := (14 : Int32)) hX dX5_keys_2 (by decide) rfl ?_
  refine G_fSi hX dX5_keys_4 ls_RX5_56 (sp_X5_within Γ ρ d a1 (0 : Int32) (14 : Int32) z g) (by omega) rfl rfl (Nat.le_of_ble_eq_true rfl) rfl ?_
  refine G_if_eq (tg := 16) hX dX5_keys_7 (by decide) rfl (fun (h_7 : (R_X5_within a1 (0 : Int32) (14 : Int32)) = 0) => ?_) (fun (h_7 : ¬ ((R_X5_within a1 (0 : Int32) (14 : Int32)) = 0)) => ?_)
  · rw [if_pos h_7] at hR
    replace hok := hok.1 h_7
    exact nr_sub (by exact ⟨rfl, trivial⟩) (sp_X5_keys_16 Γ ρ d X hX z g R0 hR hok)
  · rw [if_neg h_7] at hR
    replace hok := hok.2 h_7
    refine G_iload_n hX dX5_keys_10 rfl rfl ?_
    refine G_iconst (v := (1 : Int32)) hX dX5_keys_11 (by decide) rfl ?_
    refine G_iand hX dX5_keys_12 rfl ?_
    refine G_if_eq (tg := 23) hX dX5_keys_13 (by decide) rfl (fun (h_13 : (a1 &&& (1 : Int32)) = 0) => ?_) (fun (h_13 : ¬ ((a1 &&& (1 : Int32)) = 0)) => ?_)
    · rw [if_pos h_13] at hR
      replace hok := hok.1 h_13
      refine G_aload_n hX dX5_keys_23 rfl rfl ?_
      refine G_getr hX dX5_keys_24 gt_RX5_12 rfl ?_
      refine G_fVi hX dX5_keys_27 lv_RX5_87 (sp_X0_keyring Γ ρ d 1 (Or.inl rfl) z g) (by omega) (nr_is_ho (Or.inl rfl)) rfl rfl (Nat.le_of_ble_eq_true rfl) rfl ?_
      refine G_istore_n hX dX5_keys_30 (by decide) rfl rfl ?_
      refine G_aload_n hX dX5_keys_31 rfl rfl ?_
      refine G_getr hX dX5_keys_32 gt_RX5_22 rfl ?_
      refine G_aload_n hX dX5_keys_35 rfl rfl ?_
      refine G_getr hX dX5_keys_36 gt_RX5_12 rfl ?_
      obtain ⟨ho_39, hok⟩ := hok
      refine G_cVv hX dX5_keys_39 lv_RX5_76 (sp_X1_keep Γ ρ d z g ho_39) (by omega) nr_is_5 rfl rfl (Nat.le_of_ble_eq_true rfl) rfl (fun u_39 e_39 => ?_)
      obtain ⟨z_39, g_39⟩ := u_39
      rw [e_39, nr_K_mk] at hR
      refine G_aload_n hX dX5_keys_42 rfl rfl ?_
      refine G_getr hX dX5_keys_43 gt_RX5_12 rfl ?_
      refine G_iload_n hX dX5_keys_46 rfl rfl ?_
      refine G_cVv hX dX5_keys_47 lv_RX5_91 (sp_X0_giveKeys Γ ρ d 1 a1 (Or.inl rfl) z_39 g_39) (by omega) (nr_is_ho (Or.inl rfl)) rfl rfl (Nat.le_of_ble_eq_true rfl) rfl (fun u_47 e_47 => ?_)
      obtain ⟨z_47, g_47⟩ := u_47
      rw [e_47, nr_K_mk] at hR
      refine G_iload_n hX dX5_keys_50 rfl rfl ?_
      exact G_iret hX rfl dX5_keys_51 rfl hR.symm
    · rw [if_neg h_13] at hR
      replace hok := hok.2 h_13
      exact nr_sub (by exact ⟨rfl, trivial⟩) (sp_X5_keys_16 Γ ρ d X hX z g R0 hR hok)
def T_X5_dusk  (z : Nat → Int32) (g : Nat → Nat → Int32) : Int32 × nr_S := (nr_K (T_X1_keep z g) (fun r_17 z_17 g_17 => (nr_K (T_X0_settle 1 z_17 g_17) (fun r_24 z_24 g_24 => ((R_X0_roomsWith 1 (4 : Int32) z g), z_24, g_24)))))
def O_X5_dusk  (z : Nat → Int32) (g : Nat → Nat → Int32) : Prop := (O_X0_roomsWith 1 (4 : Int32) z g ∧ ((O_X1_keep z g ∧ nr_KP (T_X1_keep z g) (fun r_17 z_17 g_17 => ((O_X0_settle 1 z_17 g_17 ∧ True))))))
set_option maxHeartbeats 4000000 in
set_option maxRecDepth 100000 in
theorem sp_X5_dusk (Γ : nr_M) (ρ : Nat → Nat) (d : Nat) (z : Nat → Int32) (g : Nat → Nat → Int32) (hok : O_X5_dusk z g) : nr_Si Γ ρ (d + 2) yX5_dusk cX5_dusk 2 (some .int) [.ref (ρ 0)] z g (fun x u => (T_X5_dusk z g) = (x, u)) := by
  refine nr_body_i (lv := [(0, .ref (ρ 0))]) (by decide +kernel) (Nat.le_of_ble_eq_true rfl) rfl (fun X hX => ?_)
  generalize hR : (T_X5_dusk z g) = R0
  rw [T_X5_dusk] at hR
  rw [O_X5_dusk] at hok
  refine G_aload_n hX dX5_dusk_0 rfl rfl ?_
  refine G_getr hX dX5_dusk_1 gt_RX5_12 rfl ?_
  refine G_iconst (v := (4 : Int32)) hX dX5_dusk_4 (by decide) rfl ?_
  obtain ⟨ho_5, hok⟩ := hok
  refine G_fVi hX dX5_dusk_5 lv_RX5_95 (sp_X0_roomsWith Γ ρ d 1 (4 : Int32) (Or.inl rfl) z g ho_5) (by omega) (nr_is_ho (Or.inl rfl)) rfl rfl (Nat.le_of_ble_eq_true rfl) rfl ?_
  refine G_istore_n hX dX5_dusk_8 (by decide) rfl rfl ?_
  refine G_aload_n hX dX5_dusk_9 rfl rfl ?_
  refine G_getr hX dX5_dusk_10 gt_RX5_22 rfl ?_
  refine G_aload_n hX dX5_dusk_13 rfl rfl ?_
  refine G_getr hX dX5_dusk_14 gt_RX5_12 rfl ?_
  obtain ⟨ho_17, hok⟩ := hok
  refine G_cVv hX dX5_dusk_17 lv_RX5_76 (sp_X1_keep Γ ρ d z g ho_17) (by omega) nr_is_5 rfl rfl (Nat.le_of_ble_eq_true rfl) rfl (fun u_17 e_17 => ?_)
  obtain ⟨z_17, g_17⟩ := u_17
  rw [e_17, nr_K_mk] at hR
  rw [e_17, nr_KP_mk] at hok
  refine G_aload_n hX dX5_dusk_20 rfl rfl ?_
  refine G_getr hX dX5_dusk_21 gt_RX5_12 rfl ?_
  obtain ⟨ho_24, hok⟩ := hok
  refine G_cVv hX dX5_dusk_24 lv_RX5_98 (sp_X0_settle Γ ρ d 1 (Or.inl rfl) z_17 g_17 ho_24) (by omega) (nr_is_ho (Or.inl rfl)) rfl rfl (Nat.le_of_ble_eq_true rfl) rfl (fun u_24 e_24 => ?_)
  obtain ⟨z_24, g_24⟩ := u_24
  rw [e_24, nr_K_mk] at hR
  refine G_iload_n hX dX5_dusk_27 rfl rfl ?_
  exact G_iret hX rfl dX5_dusk_28 rfl hR.symm
def T_X5_type (a1 : Int32) (z : Nat → Int32) (g : Nat → Nat → Int32) : Int32 × nr_S := (if (R_X5_within a1 (0 : Int32) (127 : Int32)) = 0 then (nr_K (T_X5_refuse (-2 : Int32) z g) (fun r_13 z_13 g_13 => (r_13, z_13, g_13))) else (if (R_X3_length z g) < (100 : Int32) then (nr_K (T_X3_append a1 z g) (fun r_41 z_41 g_41 => ((R_X3_length z_41 g_41), z_41, g_41))) else (nr_K (T_X5_refuse (-4 : Int32) z g) (fun r_32 z_32 g_32 => (r_32, z_32, g_32)))))
def O_X5_type (a1 : Int32) (z : Nat → Int32) (g : Nat → Nat → Int32) : Prop := (((R_X5_within a1 (0 : Int32) (127 : Int32)) = 0 → True) ∧ (¬ ((R_X5_within a1 (0 : Int32) (127 : Int32)) = 0) → (((R_X3_length z g) < (100 : Int32) → ((O_X3_append a1 z g ∧ True))) ∧ (¬ ((R_X3_length z g) < (100 : Int32)) → True))))
set_option maxHeartbeats 4000000 in
set_option maxRecDepth 100000 in
theorem sp_X5_type (Γ : nr_M) (ρ : Nat → Nat) (d : Nat) (a1 : Int32) (z : Nat → Int32) (g : Nat → Nat → Int32) (hok : O_X5_type a1 z g) : nr_Si Γ ρ (d + 1) yX5_type cX5_type 2 (some .int) [.ref (ρ 0), .int a1] z g (fun x u => (T_X5_type a1 z g) = (x, u)) := by
  refine nr_body_i (lv := [(0, .ref (ρ 0)), (1, .int a1)]) (by decide +kernel) (Nat.le_of_ble_eq_true rfl) rfl (fun X hX => ?_)
  generalize hR : (T_X5_type a1 z g) = R0
  rw [T_X5_type] at hR
  rw [O_X5_type] at hok
  refine G_iload_n hX dX5_type_0 rfl rfl ?_
  refine G_iconst (v := (0 : Int32)) hX dX5_type_1 (by decide) rfl ?_
  refine G_bipush (v := (127 : Int32)) hX dX5_type_2 (by decide) rfl ?_
  refine G_fSi hX dX5_type_4 ls_RX5_56 (sp_X5_within Γ ρ d a1 (0 : Int32) (127 : Int32) z g) (by omega) rfl rfl (Nat.le_of_ble_eq_true rfl) rfl ?_
  refine G_if_ne (tg := 17) hX dX5_type_7 (by decide) rfl (fun (h_7 : ¬ ((R_X5_within a1 (0 : Int32) (127 : Int32)) = 0)) => ?_) (fun (h_7 : (R_X5_within a1 (0 : Int32) (127 : Int32)) = 0) => ?_)
  · rw [if_neg h_7] at hR
    replace hok := hok.2 h_7
    refine G_aload_n hX dX5_type_17 rfl rfl ?_
    refine G_getr hX dX5_type_18 gt_RX5_29 rfl ?_
    refine G_fVi hX dX5_type_21 lv_RX5_101 (sp_X3_length Γ ρ d z g) (by omega) nr_is_7 rfl rfl (Nat.le_of_ble_eq_true rfl) rfl ?_
    refine G_bipush (v := (100 : Int32)) hX dX5_type_24 (by decide) rfl ?_
    refine G_icmp_lt (tg := 36) hX dX5_type_26 (by decide) rfl (fun (h_26 : (R_X3_length z g) < (100 : Int32)) => ?_) (fun (h_26 : ¬ ((R_X3_length z g) < (100 : Int32))) => ?_)
    · rw [if_pos h_26] at hR
      replace hok := hok.1 h_26
      refine G_aload_n hX dX5_type_36 rfl rfl ?_
      refine G_getr hX dX5_type_37 gt_RX5_29 rfl ?_
      refine G_iload_n hX dX5_type_40 rfl rfl ?_
      obtain ⟨ho_41, hok⟩ := hok
      refine G_cVv hX dX5_type_41 lv_RX5_104 (sp_X3_append Γ ρ d a1 z g ho_41) (by omega) nr_is_7 rfl rfl (Nat.le_of_ble_eq_true rfl) rfl (fun u_41 e_41 => ?_)
      obtain ⟨z_41, g_41⟩ := u_41
      rw [e_41, nr_K_mk] at hR
      refine G_aload_n hX dX5_type_44 rfl rfl ?_
      refine G_getr hX dX5_type_45 gt_RX5_29 rfl ?_
      refine G_fVi hX dX5_type_48 lv_RX5_101 (sp_X3_length Γ ρ d z_41 g_41) (by omega) nr_is_7 rfl rfl (Nat.le_of_ble_eq_true rfl) rfl ?_
      exact G_iret hX rfl dX5_type_51 rfl hR.symm
    · rw [if_neg h_26] at hR
      replace hok := hok.2 h_26
      refine G_aload_n hX dX5_type_29 rfl rfl ?_
      refine G_bipush (v := (-4 : Int32)) hX dX5_type_30 (by decide) rfl ?_
      refine G_cVi hX dX5_type_32 lv_RX5_68 (sp_X5_refuse Γ ρ d (-4 : Int32) z g) (by omega) nr_is_0 rfl rfl (Nat.le_of_ble_eq_true rfl) rfl (fun r_32 u_32 e_32 => ?_)
      obtain ⟨z_32, g_32⟩ := u_32
      rw [e_32, nr_K_mk] at hR
      exact G_iret hX rfl dX5_type_35 rfl hR.symm
  · rw [if_pos h_7] at hR
    replace hok := hok.1 h_7
    refine G_aload_n hX dX5_type_10 rfl rfl ?_
    refine G_bipush (v := (-2 : Int32)) hX dX5_type_11 (by decide) rfl ?_
    refine G_cVi hX dX5_type_13 lv_RX5_68 (sp_X5_refuse Γ ρ d (-2 : Int32) z g) (by omega) nr_is_0 rfl rfl (Nat.le_of_ble_eq_true rfl) rfl (fun r_13 u_13 e_13 => ?_)
    obtain ⟨z_13, g_13⟩ := u_13
    rw [e_13, nr_K_mk] at hR
    exact G_iret hX rfl dX5_type_16 rfl hR.symm
def T_X5_clear  (z : Nat → Int32) (g : Nat → Nat → Int32) : Int32 × nr_S := (nr_K (T_X3_empty z g) (fun r_12 z_12 g_12 => ((R_X3_length z g), z_12, g_12)))
set_option maxHeartbeats 4000000 in
set_option maxRecDepth 100000 in
theorem sp_X5_clear (Γ : nr_M) (ρ : Nat → Nat) (d : Nat) (z : Nat → Int32) (g : Nat → Nat → Int32) : nr_Si Γ ρ (d + 1) yX5_clear cX5_clear 2 (some .int) [.ref (ρ 0)] z g (fun x u => (T_X5_clear z g) = (x, u)) := by
  refine nr_body_i (lv := [(0, .ref (ρ 0))]) (by decide +kernel) (Nat.le_of_ble_eq_true rfl) rfl (fun X hX => ?_)
  generalize hR : (T_X5_clear z g) = R0
  rw [T_X5_clear] at hR
  refine G_aload_n hX dX5_clear_0 rfl rfl ?_
  refine G_getr hX dX5_clear_1 gt_RX5_29 rfl ?_
  refine G_fVi hX dX5_clear_4 lv_RX5_101 (sp_X3_length Γ ρ d z g) (by omega) nr_is_7 rfl rfl (Nat.le_of_ble_eq_true rfl) rfl ?_
  refine G_istore_n hX dX5_clear_7 (by decide) rfl rfl ?_
  refine G_aload_n hX dX5_clear_8 rfl rfl ?_
  refine G_getr hX dX5_clear_9 gt_RX5_29 rfl ?_
  refine G_cVv hX dX5_clear_12 lv_RX5_107 (sp_X3_empty Γ ρ d z g) (by omega) nr_is_7 rfl rfl (Nat.le_of_ble_eq_true rfl) rfl (fun u_12 e_12 => ?_)
  obtain ⟨z_12, g_12⟩ := u_12
  rw [e_12, nr_K_mk] at hR
  refine G_iload_n hX dX5_clear_15 rfl rfl ?_
  exact G_iret hX rfl dX5_clear_16 rfl hR.symm
def T_X5_goes (K : Nat) (z : Nat → Int32) (g : Nat → Nat → Int32) : Int32 × nr_S := (nr_K (T_X3_read K z g) (fun r_4 z_4 g_4 => (if r_4 = (-1 : Int32) then (nr_K (T_X1_keep z_4 g_4) (fun r_26 z_26 g_26 => (nr_K (T_X2_walk K 1 13 z_26 g_26) (fun r_41 z_41 g_41 => (r_41, z_41, g_41))))) else (((-10 : Int32) - r_4), z_4, g_4))))
def O_X5_goes (K : Nat) (z : Nat → Int32) (g : Nat → Nat → Int32) : Prop := ((O_X3_read K z g ∧ nr_KP (T_X3_read K z g) (fun r_4 z_4 g_4 => ((r_4 = (-1 : Int32) → ((O_X1_keep z_4 g_4 ∧ nr_KP (T_X1_keep z_4 g_4) (fun r_26 z_26 g_26 => ((O_X2_walk K 1 13 z_26 g_26 ∧ True)))))) ∧ (¬ (r_4 = (-1 : Int32)) → True)))))
set_option maxHeartbeats 4000000 in
set_option maxRecDepth 100000 in
theorem sp_X5_goes (Γ : nr_M) (ρ : Nat → Nat) (d : Nat) (K : Nat) (z : Nat → Int32) (g : Nat → Nat → Int32) (hok : O_X5_goes K z g) : nr_Si Γ ρ (d + 5 * K + 3) yX5_goes cX5_goes 2 (some .int) [.ref (ρ 0)] z g (fun x u => (T_X5_goes K z g) = (x, u)) := by
  refine nr_body_i (lv := [(0, .ref (ρ 0))]) (by decide +kernel) (Nat.le_of_ble_eq_true rfl) rfl (fun X hX => ?_)
  generalize hR : (T_X5_goes K z g) = R0
  rw [T_X5_goes] at hR
  rw [O_X5_goes] at hok
  refine G_aload_n hX dX5_goes_0 rfl rfl ?_
  refine G_getr hX dX5_goes_1 gt_RX5_29 rfl ?_
  obtain ⟨ho_4, hok⟩ := hok
  refine G_cVi hX dX5_goes_4 lv_RX5_110 (sp_X3_read Γ ρ d K z g ho_4) (by omega) nr_is_7 rfl rfl (Nat.le_of_ble_eq_true rfl) rfl (fun r_4 u_4 e_4 => ?_)
  obtain ⟨z_4, g_4⟩ := u_4
  rw [e_4, nr_K_mk] at hR
  rw [e_4, nr_KP_mk] at hok
  refine G_istore_n hX dX5_goes_7 (by decide) rfl rfl ?_
  refine G_iload_n hX dX5_goes_8 rfl rfl ?_
  refine G_iconst (v := (-1 : Int32)) hX dX5_goes_9 (by decide) rfl ?_
  refine G_icmp_eq (tg := 18) hX dX5_goes_10 (by decide) rfl (fun (h_10 : r_4 = (-1 : Int32)) => ?_) (fun (h_10 : ¬ (r_4 = (-1 : Int32))) => ?_)
  · rw [if_pos h_10] at hR
    replace hok := hok.1 h_10
    refine G_aload_n hX dX5_goes_18 rfl rfl ?_
    refine G_getr hX dX5_goes_19 gt_RX5_22 rfl ?_
    refine G_aload_n hX dX5_goes_22 rfl rfl ?_
    refine G_getr hX dX5_goes_23 gt_RX5_12 rfl ?_
    obtain ⟨ho_26, hok⟩ := hok
    refine G_cVv hX dX5_goes_26 lv_RX5_76 (sp_X1_keep Γ ρ d z_4 g_4 ho_26) (by omega) nr_is_5 rfl rfl (Nat.le_of_ble_eq_true rfl) rfl (fun u_26 e_26 => ?_)
    obtain ⟨z_26, g_26⟩ := u_26
    rw [e_26, nr_K_mk] at hR
    rw [e_26, nr_KP_mk] at hok
    refine G_aload_n hX dX5_goes_29 rfl rfl ?_
    refine G_getr hX dX5_goes_30 gt_RX5_48 rfl ?_
    refine G_aload_n hX dX5_goes_33 rfl rfl ?_
    refine G_getr hX dX5_goes_34 gt_RX5_12 rfl ?_
    refine G_aload_n hX dX5_goes_37 rfl rfl ?_
    refine G_getr hX dX5_goes_38 gt_RX5_36 rfl ?_
    obtain ⟨ho_41, hok⟩ := hok
    refine G_cVi hX dX5_goes_41 lv_RX5_113 (sp_X2_walk Γ ρ d K 1 13 z_26 g_26 ho_41) (by omega) nr_is_19 rfl rfl (Nat.le_of_ble_eq_true rfl) rfl (fun r_41 u_41 e_41 => ?_)
    obtain ⟨z_41, g_41⟩ := u_41
    rw [e_41, nr_K_mk] at hR
    exact G_iret hX rfl dX5_goes_44 rfl hR.symm
  · rw [if_neg h_10] at hR
    replace hok := hok.2 h_10
    refine G_bipush (v := (-10 : Int32)) hX dX5_goes_13 (by decide) rfl ?_
    refine G_iload_n hX dX5_goes_15 rfl rfl ?_
    refine G_isub hX dX5_goes_16 rfl ?_
    exact G_iret hX rfl dX5_goes_17 rfl hR.symm
def T_X5_tries (K : Nat) (z : Nat → Int32) (g : Nat → Nat → Int32) : Int32 × nr_S := (nr_K (T_X3_read K z g) (fun r_4 z_4 g_4 => (if r_4 = (-1 : Int32) then (nr_K (T_X0_become 3 z_4 g_4) (fun r_26 z_26 g_26 => (nr_K (T_X2_walk K 3 13 z_26 g_26) (fun r_41 z_41 g_41 => (r_41, z_41, g_41))))) else (((-10 : Int32) - r_4), z_4, g_4))))
def O_X5_tries (K : Nat) (z : Nat → Int32) (g : Nat → Nat → Int32) : Prop := ((O_X3_read K z g ∧ nr_KP (T_X3_read K z g) (fun r_4 z_4 g_4 => ((r_4 = (-1 : Int32) → (nr_KP (T_X0_become 3 z_4 g_4) (fun r_26 z_26 g_26 => ((O_X2_walk K 3 13 z_26 g_26 ∧ True))))) ∧ (¬ (r_4 = (-1 : Int32)) → True)))))
set_option maxHeartbeats 4000000 in
set_option maxRecDepth 100000 in
theorem sp_X5_tries (Γ : nr_M) (ρ : Nat → Nat) (d : Nat) (K : Nat) (z : Nat → Int32) (g : Nat → Nat → Int32) (hok : O_X5_tries K z g) : nr_Si Γ ρ (d + 5 * K + 3) yX5_tries cX5_tries 2 (some .int) [.ref (ρ 0)] z g (fun x u => (T_X5_tries K z g) = (x, u)) := by
  refine nr_body_i (lv := [(0, .ref (ρ 0))]) (by decide +kernel) (Nat.le_of_ble_eq_true rfl) rfl (fun X hX => ?_)
  generalize hR : (T_X5_tries K z g) = R0
  rw [T_X5_tries] at hR
  rw [O_X5_tries] at hok
  refine G_aload_n hX dX5_tries_0 rfl rfl ?_
  refine G_getr hX dX5_tries_1 gt_RX5_29 rfl ?_
  obtain ⟨ho_4, hok⟩ := hok
  refine G_cVi hX dX5_tries_4 lv_RX5_110 (sp_X3_read Γ ρ d K z g ho_4) (by omega) nr_is_7 rfl rfl (Nat.le_of_ble_eq_true rfl) rfl (fun r_4 u_4 e_4 => ?_)
  obtain ⟨z_4, g_4⟩ := u_4
  rw [e_4, nr_K_mk] at hR
  rw [e_4, nr_KP_mk] at hok
  refine G_istore_n hX dX5_tries_7 (by decide) rfl rfl ?_
  refine G_iload_n hX dX5_tries_8 rfl rfl ?_
  refine G_iconst (v := (-1 : Int32)) hX dX5_tries_9 (by decide) rfl ?_
  refine G_icmp_eq (tg := 18) hX dX5_tries_10 (by decide) rfl (fun (h_10 : r_4 = (-1 : Int32)) => ?_) (fun (h_10 : ¬ (r_4 = (-1 : Int32))) => ?_)
  · rw [if_pos h_10] at hR
    replace hok := hok.1 h_10
    refine G_aload_n hX dX5_tries_18 rfl rfl ?_
    refine G_getr hX dX5_tries_19 gt_RX5_16 rfl ?_
    refine G_aload_n hX dX5_tries_22 rfl rfl ?_
    refine G_getr hX dX5_tries_23 gt_RX5_12 rfl ?_
    refine G_cVv hX dX5_tries_26 lv_RX5_117 (sp_X0_become Γ ρ d 3 (Or.inr rfl) z_4 g_4) (by omega) (nr_is_ho (Or.inr rfl)) rfl rfl (Nat.le_of_ble_eq_true rfl) rfl (fun u_26 e_26 => ?_)
    obtain ⟨z_26, g_26⟩ := u_26
    rw [e_26, nr_K_mk] at hR
    rw [e_26, nr_KP_mk] at hok
    refine G_aload_n hX dX5_tries_29 rfl rfl ?_
    refine G_getr hX dX5_tries_30 gt_RX5_48 rfl ?_
    refine G_aload_n hX dX5_tries_33 rfl rfl ?_
    refine G_getr hX dX5_tries_34 gt_RX5_16 rfl ?_
    refine G_aload_n hX dX5_tries_37 rfl rfl ?_
    refine G_getr hX dX5_tries_38 gt_RX5_36 rfl ?_
    obtain ⟨ho_41, hok⟩ := hok
    refine G_cVi hX dX5_tries_41 lv_RX5_113 (sp_X2_walk Γ ρ d K 3 13 z_26 g_26 ho_41) (by omega) nr_is_19 rfl rfl (Nat.le_of_ble_eq_true rfl) rfl (fun r_41 u_41 e_41 => ?_)
    obtain ⟨z_41, g_41⟩ := u_41
    rw [e_41, nr_K_mk] at hR
    exact G_iret hX rfl dX5_tries_44 rfl hR.symm
  · rw [if_neg h_10] at hR
    replace hok := hok.2 h_10
    refine G_bipush (v := (-10 : Int32)) hX dX5_tries_13 (by decide) rfl ?_
    refine G_iload_n hX dX5_tries_15 rfl rfl ?_
    refine G_isub hX dX5_tries_16 rfl ?_
    exact G_iret hX rfl dX5_tries_17 rfl hR.symm
def T_X5_often_50 (K : Nat) : Nat → Int32 → Int32 → Int32 → (Nat → Int32) → (Nat → Nat → Int32) → Int32 × nr_S
  | 0, _, _, _, z, g => (0, z, g)
  | n + 1, a1, a3, a4, z, g => (if a1 ≤ a4 then (a3, z, g) else (if a3 = a4 then (nr_K (T_X2_walk K 1 13 z g) (fun r_74 z_74 g_74 => (if r_74 = 0 then (T_X5_often_50 K n a1 (a3 + (1 : Int32)) (a4 + (1 : Int32)) z_74 g_74) else (T_X5_often_50 K n a1 a3 (a4 + (1 : Int32)) z_74 g_74)))) else (a3, z, g)))
def O_X5_often_50 (K : Nat) : Nat → Int32 → Int32 → Int32 → (Nat → Int32) → (Nat → Nat → Int32) → Prop
  | 0, _, _, _, _, _ => False
  | n + 1, a1, a3, a4, z, g => ((a1 ≤ a4 → True) ∧ (¬ (a1 ≤ a4) → ((a3 = a4 → ((O_X2_walk K 1 13 z g ∧ nr_KP (T_X2_walk K 1 13 z g) (fun r_74 z_74 g_74 => ((r_74 = 0 → (O_X5_often_50 K n a1 (a3 + (1 : Int32)) (a4 + (1 : Int32)) z_74 g_74)) ∧ (¬ (r_74 = 0) → (O_X5_often_50 K n a1 a3 (a4 + (1 : Int32)) z_74 g_74))))))) ∧ (¬ (a3 = a4) → True))))
set_option maxHeartbeats 4000000 in
set_option maxRecDepth 100000 in
theorem sp_X5_often_50 (Γ : nr_M) (ρ : Nat → Nat) (d : Nat) (K : Nat) (X : nr_CX) (hX : nr_Cx Γ ρ X yX5_often cX5_often 5 (some .int) (d + 5 * K + 3)) : ∀ (n : Nat) (a1 : Int32) (a3 : Int32) (a4 : Int32) (z : Nat → Int32) (g : Nat → Nat → Int32) (R0 : Int32 × nr_S) (_ : T_X5_often_50 K n a1 a3 a4 z g = R0) (_ : O_X5_often_50 K n a1 a3 a4 z g), nr_G Γ ρ X 5 (nr_Qi Γ ρ X (fun x u => R0 = (x, u))) 50 [(0, .ref (ρ 0)), (1, .int a1), (3, .int a3), (4, .int a4)] [] z g := by
  intro n
  induction n with
  | zero => intro a1 a3 a4 z g R0 hR hok; exact False.elim hok
  | succ n ih =>
    intro a1 a3 a4 z g R0 hR hok
    rw [T_X5_often_50] at hR
    rw [O_X5_often_50] at hok
    refine G_iload hX dX5_often_50 rfl rfl ?_
    refine G_iload_n hX dX5_often_52 rfl rfl ?_
    refine G_icmp_ge (tg := 89) hX dX5_often_53 (by decide) rfl (fun (h_53 : a1 ≤ a4) => ?_) (fun (h_53 : ¬ (a1 ≤ a4)) => ?_)
    · rw [if_pos h_53] at hR
      replace hok := hok.1 h_53
      refine G_iload_n hX dX5_often_89 rfl rfl ?_
      exact G_iret hX rfl dX5_often_90 rfl hR.symm
    · rw [if_neg h_53] at hR
      replace hok := hok.2 h_53
      refine G_iload_n hX dX5_often_56 rfl rfl ?_
      refine G_iload hX dX5_often_57 rfl rfl ?_
      refine G_icmp_ne (tg := 89) hX dX5_often_59 (by decide) rfl (fun (h_59 : ¬ (a3 = a4)) => ?_) (fun (h_59 : a3 = a4) => ?_)
      · rw [if_neg h_59] at hR
        replace hok := hok.2 h_59
        refine G_iload_n hX dX5_often_89 rfl rfl ?_
        exact G_iret hX rfl dX5_often_90 rfl hR.symm
      · rw [if_pos h_59] at hR
        replace hok := hok.1 h_59
        refine G_aload_n hX dX5_often_62 rfl rfl ?_
        refine G_getr hX dX5_often_63 gt_RX5_48 rfl ?_
        refine G_aload_n hX dX5_often_66 rfl rfl ?_
        refine G_getr hX dX5_often_67 gt_RX5_12 rfl ?_
        refine G_aload_n hX dX5_often_70 rfl rfl ?_
        refine G_getr hX dX5_often_71 gt_RX5_36 rfl ?_
        obtain ⟨ho_74, hok⟩ := hok
        refine G_cVi hX dX5_often_74 lv_RX5_113 (sp_X2_walk Γ ρ d K 1 13 z g ho_74) (by omega) nr_is_19 rfl rfl (Nat.le_of_ble_eq_true rfl) rfl (fun r_74 u_74 e_74 => ?_)
        obtain ⟨z_74, g_74⟩ := u_74
        rw [e_74, nr_K_mk] at hR
        rw [e_74, nr_KP_mk] at hok
        refine G_if_ne (tg := 83) hX dX5_often_77 (by decide) rfl (fun (h_77 : ¬ (r_74 = 0)) => ?_) (fun (h_77 : r_74 = 0) => ?_)
        · rw [if_neg h_77] at hR
          replace hok := hok.2 h_77
          refine G_iinc (v := (a4 + (1 : Int32))) hX dX5_often_83 rfl rfl (by decide) rfl rfl ?_
          refine G_goto (tg := 50) hX dX5_often_86 (by decide) ?_
          exact nr_sub (by exact ⟨rfl, rfl, rfl, rfl, trivial⟩) (ih a1 a3 (a4 + (1 : Int32)) z_74 g_74 R0 hR hok)
        · rw [if_pos h_77] at hR
          replace hok := hok.1 h_77
          refine G_iinc (v := (a3 + (1 : Int32))) hX dX5_often_80 rfl rfl (by decide) rfl rfl ?_
          refine G_iinc (v := (a4 + (1 : Int32))) hX dX5_often_83 rfl rfl (by decide) rfl rfl ?_
          refine G_goto (tg := 50) hX dX5_often_86 (by decide) ?_
          exact nr_sub (by exact ⟨rfl, rfl, rfl, rfl, trivial⟩) (ih a1 (a3 + (1 : Int32)) (a4 + (1 : Int32)) z_74 g_74 R0 hR hok)
def T_X5_often (K : Nat) (a1 : Int32) (z : Nat → Int32) (g : Nat → Nat → Int32) : Int32 × nr_S := (if (R_X5_within a1 (1 : Int32) (3 : Int32)) = 0 then (nr_K (T_X5_refuse (-2 : Int32) z g) (fun r_12 z_12 g_12 => (r_12, z_12, g_12))) else (nr_K (T_X3_read K z g) (fun r_20 z_20 g_20 => (if r_20 = (-1 : Int32) then (nr_K (T_X1_keep z_20 g_20) (fun r_42 z_42 g_42 => (T_X5_often_50 K 500 a1 (0 : Int32) (0 : Int32) z_42 g_42))) else (((-10 : Int32) - r_20), z_20, g_20)))))
def O_X5_often (K : Nat) (a1 : Int32) (z : Nat → Int32) (g : Nat → Nat → Int32) : Prop := (((R_X5_within a1 (1 : Int32) (3 : Int32)) = 0 → True) ∧ (¬ ((R_X5_within a1 (1 : Int32) (3 : Int32)) = 0) → ((O_X3_read K z g ∧ nr_KP (T_X3_read K z g) (fun r_20 z_20 g_20 => ((r_20 = (-1 : Int32) → ((O_X1_keep z_20 g_20 ∧ nr_KP (T_X1_keep z_20 g_20) (fun r_42 z_42 g_42 => (O_X5_often_50 K 500 a1 (0 : Int32) (0 : Int32) z_42 g_42))))) ∧ (¬ (r_20 = (-1 : Int32)) → True)))))))
set_option maxHeartbeats 4000000 in
set_option maxRecDepth 100000 in
theorem sp_X5_often (Γ : nr_M) (ρ : Nat → Nat) (d : Nat) (K : Nat) (a1 : Int32) (z : Nat → Int32) (g : Nat → Nat → Int32) (hok : O_X5_often K a1 z g) : nr_Si Γ ρ (d + 5 * K + 3) yX5_often cX5_often 5 (some .int) [.ref (ρ 0), .int a1] z g (fun x u => (T_X5_often K a1 z g) = (x, u)) := by
  refine nr_body_i (lv := [(0, .ref (ρ 0)), (1, .int a1)]) (by decide +kernel) (Nat.le_of_ble_eq_true rfl) rfl (fun X hX => ?_)
  generalize hR : (T_X5_often K a1 z g) = R0
  rw [T_X5_often] at hR
  rw [O_X5_often] at hok
  refine G_iload_n hX dX5_often_0 rfl rfl ?_
  refine G_iconst (v := (1 : Int32)) hX dX5_often_1 (by decide) rfl ?_
  refine G_iconst (v := (3 : Int32)) hX dX5_often_2 (by decide) rfl ?_
  refine G_fSi hX dX5_often_3 ls_RX5_56 (sp_X5_within Γ ρ d a1 (1 : Int32) (3 : Int32) z g) (by omega) rfl rfl (Nat.le_of_ble_eq_true rfl) rfl ?_
  refine G_if_ne (tg := 16) hX dX5_often_6 (by decide) rfl (fun (h_6 : ¬ ((R_X5_within a1 (1 : Int32) (3 : Int32)) = 0)) => ?_) (fun (h_6 : (R_X5_within a1 (1 : Int32) (3 : Int32)) = 0) => ?_)
  · rw [if_neg h_6] at hR
    replace hok := hok.2 h_6
    refine G_aload_n hX dX5_often_16 rfl rfl ?_
    refine G_getr hX dX5_often_17 gt_RX5_29 rfl ?_
    obtain ⟨ho_20, hok⟩ := hok
    refine G_cVi hX dX5_often_20 lv_RX5_110 (sp_X3_read Γ ρ d K z g ho_20) (by omega) nr_is_7 rfl rfl (Nat.le_of_ble_eq_true rfl) rfl (fun r_20 u_20 e_20 => ?_)
    obtain ⟨z_20, g_20⟩ := u_20
    rw [e_20, nr_K_mk] at hR
    rw [e_20, nr_KP_mk] at hok
    refine G_istore_n hX dX5_often_23 (by decide) rfl rfl ?_
    refine G_iload_n hX dX5_often_24 rfl rfl ?_
    refine G_iconst (v := (-1 : Int32)) hX dX5_often_25 (by decide) rfl ?_
    refine G_icmp_eq (tg := 34) hX dX5_often_26 (by decide) rfl (fun (h_26 : r_20 = (-1 : Int32)) => ?_) (fun (h_26 : ¬ (r_20 = (-1 : Int32))) => ?_)
    · rw [if_pos h_26] at hR
      replace hok := hok.1 h_26
      refine G_aload_n hX dX5_often_34 rfl rfl ?_
      refine G_getr hX dX5_often_35 gt_RX5_22 rfl ?_
      refine G_aload_n hX dX5_often_38 rfl rfl ?_
      refine G_getr hX dX5_often_39 gt_RX5_12 rfl ?_
      obtain ⟨ho_42, hok⟩ := hok
      refine G_cVv hX dX5_often_42 lv_RX5_76 (sp_X1_keep Γ ρ d z_20 g_20 ho_42) (by omega) nr_is_5 rfl rfl (Nat.le_of_ble_eq_true rfl) rfl (fun u_42 e_42 => ?_)
      obtain ⟨z_42, g_42⟩ := u_42
      rw [e_42, nr_K_mk] at hR
      rw [e_42, nr_KP_mk] at hok
      refine G_iconst (v := (0 : Int32)) hX dX5_often_45 (by decide) rfl ?_
      refine G_istore_n hX dX5_often_46 (by decide) rfl rfl ?_
      refine G_iconst (v := (0 : Int32)) hX dX5_often_47 (by decide) rfl ?_
      refine G_istore hX dX5_often_48 (by decide) rfl rfl ?_
      exact nr_sub (by exact ⟨rfl, rfl, rfl, rfl, trivial⟩) (sp_X5_often_50 Γ ρ d K X hX 500 a1 (0 : Int32) (0 : Int32) z_42 g_42 R0 hR hok)
    · rw [if_neg h_26] at hR
      replace hok := hok.2 h_26
      refine G_bipush (v := (-10 : Int32)) hX dX5_often_29 (by decide) rfl ?_
      refine G_iload_n hX dX5_often_31 rfl rfl ?_
      refine G_isub hX dX5_often_32 rfl ?_
      exact G_iret hX rfl dX5_often_33 rfl hR.symm
  · rw [if_pos h_6] at hR
    replace hok := hok.1 h_6
    refine G_aload_n hX dX5_often_9 rfl rfl ?_
    refine G_bipush (v := (-2 : Int32)) hX dX5_often_10 (by decide) rfl ?_
    refine G_cVi hX dX5_often_12 lv_RX5_68 (sp_X5_refuse Γ ρ d (-2 : Int32) z g) (by omega) nr_is_0 rfl rfl (Nat.le_of_ble_eq_true rfl) rfl (fun r_12 u_12 e_12 => ?_)
    obtain ⟨z_12, g_12⟩ := u_12
    rw [e_12, nr_K_mk] at hR
    exact G_iret hX rfl dX5_often_15 rfl hR.symm
def T_X5_was (a1 : Int32) (z : Nat → Int32) (g : Nat → Nat → Int32) : Int32 × nr_S := (if (R_X5_within a1 (0 : Int32) (7 : Int32)) = 0 then (nr_K (T_X5_refuse (-2 : Int32) z g) (fun r_24 z_24 g_24 => (r_24, z_24, g_24))) else ((R_X4_fact 13 a1 z g), z, g))
def O_X5_was (a1 : Int32) (z : Nat → Int32) (g : Nat → Nat → Int32) : Prop := (((R_X5_within a1 (0 : Int32) (7 : Int32)) = 0 → True) ∧ (¬ ((R_X5_within a1 (0 : Int32) (7 : Int32)) = 0) → (O_X4_fact 13 a1 z g ∧ True)))
set_option maxHeartbeats 4000000 in
set_option maxRecDepth 100000 in
theorem sp_X5_was (Γ : nr_M) (ρ : Nat → Nat) (d : Nat) (a1 : Int32) (z : Nat → Int32) (g : Nat → Nat → Int32) (hok : O_X5_was a1 z g) : nr_Si Γ ρ (d + 2) yX5_was cX5_was 2 (some .int) [.ref (ρ 0), .int a1] z g (fun x u => (T_X5_was a1 z g) = (x, u)) := by
  refine nr_body_i (lv := [(0, .ref (ρ 0)), (1, .int a1)]) (by decide +kernel) (Nat.le_of_ble_eq_true rfl) rfl (fun X hX => ?_)
  generalize hR : (T_X5_was a1 z g) = R0
  rw [T_X5_was] at hR
  rw [O_X5_was] at hok
  refine G_iload_n hX dX5_was_0 rfl rfl ?_
  refine G_iconst (v := (0 : Int32)) hX dX5_was_1 (by decide) rfl ?_
  refine G_bipush (v := (7 : Int32)) hX dX5_was_2 (by decide) rfl ?_
  refine G_fSi hX dX5_was_4 ls_RX5_56 (sp_X5_within Γ ρ d a1 (0 : Int32) (7 : Int32) z g) (by omega) rfl rfl (Nat.le_of_ble_eq_true rfl) rfl ?_
  refine G_if_eq (tg := 21) hX dX5_was_7 (by decide) rfl (fun (h_7 : (R_X5_within a1 (0 : Int32) (7 : Int32)) = 0) => ?_) (fun (h_7 : ¬ ((R_X5_within a1 (0 : Int32) (7 : Int32)) = 0)) => ?_)
  · rw [if_pos h_7] at hR
    replace hok := hok.1 h_7
    refine G_aload_n hX dX5_was_21 rfl rfl ?_
    refine G_bipush (v := (-2 : Int32)) hX dX5_was_22 (by decide) rfl ?_
    refine G_cVi hX dX5_was_24 lv_RX5_68 (sp_X5_refuse Γ ρ d (-2 : Int32) z g) (by omega) nr_is_0 rfl rfl (Nat.le_of_ble_eq_true rfl) rfl (fun r_24 u_24 e_24 => ?_)
    obtain ⟨z_24, g_24⟩ := u_24
    rw [e_24, nr_K_mk] at hR
    exact G_iret hX rfl dX5_was_27 rfl hR.symm
  · rw [if_neg h_7] at hR
    replace hok := hok.2 h_7
    refine G_aload_n hX dX5_was_10 rfl rfl ?_
    refine G_getr hX dX5_was_11 gt_RX5_36 rfl ?_
    refine G_iload_n hX dX5_was_14 rfl rfl ?_
    obtain ⟨ho_15, hok⟩ := hok
    refine G_fVi hX dX5_was_15 lv_RX5_120 (sp_X4_fact Γ ρ d 13 a1 (Or.inl rfl) z g ho_15) (by omega) (nr_is_ta (Or.inl rfl)) rfl rfl (Nat.le_of_ble_eq_true rfl) rfl ?_
    refine G_goto (tg := 27) hX dX5_was_18 (by decide) ?_
    exact G_iret hX rfl dX5_was_27 rfl hR.symm
def R_X5_root  (z : Nat → Int32) (g : Nat → Nat → Int32) : Int32 := (R_X4_innermost 13 z g)
set_option maxHeartbeats 4000000 in
set_option maxRecDepth 100000 in
theorem sp_X5_root (Γ : nr_M) (ρ : Nat → Nat) (d : Nat) (z : Nat → Int32) (g : Nat → Nat → Int32) : nr_Si Γ ρ (d + 1) yX5_root cX5_root 1 (some .int) [.ref (ρ 0)] z g (fun x u => x = (R_X5_root z g) ∧ u = (z, g)) := by
  refine nr_body_i (lv := [(0, .ref (ρ 0))]) (by decide +kernel) (Nat.le_of_ble_eq_true rfl) rfl (fun X hX => ?_)
  generalize hR : (R_X5_root z g) = R0
  rw [R_X5_root] at hR
  refine G_aload_n hX dX5_root_0 rfl rfl ?_
  refine G_getr hX dX5_root_1 gt_RX5_36 rfl ?_
  refine G_fVi hX dX5_root_4 lv_RX5_123 (sp_X4_innermost Γ ρ d 13 (Or.inl rfl) z g) (by omega) (nr_is_ta (Or.inl rfl)) rfl rfl (Nat.le_of_ble_eq_true rfl) rfl ?_
  exact G_iret hX rfl dX5_root_7 rfl ⟨hR, rfl⟩
def T_X5_diary (a1 : Int32) (z : Nat → Int32) (g : Nat → Nat → Int32) : Int32 × nr_S := (if (-1 : Int32) ≤ a1 then (if a1 = (-1 : Int32) then ((R_X4_written 13 z g), z, g) else (if (R_X4_written 13 z g) ≤ a1 then ((-5 : Int32), z, g) else ((R_X4_entry 13 a1 z g), z, g))) else (nr_K (T_X5_refuse (-2 : Int32) z g) (fun r_8 z_8 g_8 => ((-10 : Int32), z_8, g_8))))
def O_X5_diary (a1 : Int32) (z : Nat → Int32) (g : Nat → Nat → Int32) : Prop := (((-1 : Int32) ≤ a1 → ((a1 = (-1 : Int32) → True) ∧ (¬ (a1 = (-1 : Int32)) → (((R_X4_written 13 z g) ≤ a1 → True) ∧ (¬ ((R_X4_written 13 z g) ≤ a1) → (O_X4_entry 13 a1 z g ∧ True)))))) ∧ (¬ ((-1 : Int32) ≤ a1) → True))
set_option maxHeartbeats 4000000 in
set_option maxRecDepth 100000 in
theorem sp_X5_diary (Γ : nr_M) (ρ : Nat → Nat) (d : Nat) (a1 : Int32) (z : Nat → Int32) (g : Nat → Nat → Int32) (hok : O_X5_diary a1 z g) : nr_Si Γ ρ (d + 2) yX5_diary cX5_diary 2 (some .int) [.ref (ρ 0), .int a1] z g (fun x u => (T_X5_diary a1 z g) = (x, u)) := by
  refine nr_body_i (lv := [(0, .ref (ρ 0)), (1, .int a1)]) (by decide +kernel) (Nat.le_of_ble_eq_true rfl) rfl (fun X hX => ?_)
  generalize hR : (T_X5_diary a1 z g) = R0
  rw [T_X5_diary] at hR
  rw [O_X5_diary] at hok
  refine G_iload_n hX dX5_diary_0 rfl rfl ?_
  refine G_iconst (v := (-1 : Int32)) hX dX5_diary_1 (by decide) rfl ?_
  refine G_icmp_ge (tg := 15) hX dX5_diary_2 (by decide) rfl (fun (h_2 : (-1 : Int32) ≤ a1) => ?_) (fun (h_2 : ¬ ((-1 : Int32) ≤ a1)) => ?_)
  · rw [if_pos h_2] at hR
    replace hok := hok.1 h_2
    refine G_iload_n hX dX5_diary_15 rfl rfl ?_
    refine G_iconst (v := (-1 : Int32)) hX dX5_diary_16 (by decide) rfl ?_
    refine G_icmp_ne (tg := 28) hX dX5_diary_17 (by decide) rfl (fun (h_17 : ¬ (a1 = (-1 : Int32))) => ?_) (fun (h_17 : a1 = (-1 : Int32)) => ?_)
    · rw [if_neg h_17] at hR
      replace hok := hok.2 h_17
      refine G_iload_n hX dX5_diary_28 rfl rfl ?_
      refine G_aload_n hX dX5_diary_29 rfl rfl ?_
      refine G_getr hX dX5_diary_30 gt_RX5_36 rfl ?_
      refine G_fVi hX dX5_diary_33 lv_RX5_126 (sp_X4_written Γ ρ d 13 (Or.inl rfl) z g) (by omega) (nr_is_ta (Or.inl rfl)) rfl rfl (Nat.le_of_ble_eq_true rfl) rfl ?_
      refine G_icmp_ge (tg := 50) hX dX5_diary_36 (by decide) rfl (fun (h_36 : (R_X4_written 13 z g) ≤ a1) => ?_) (fun (h_36 : ¬ ((R_X4_written 13 z g) ≤ a1)) => ?_)
      · rw [if_pos h_36] at hR
        replace hok := hok.1 h_36
        refine G_bipush (v := (-5 : Int32)) hX dX5_diary_50 (by decide) rfl ?_
        exact G_iret hX rfl dX5_diary_52 rfl hR.symm
      · rw [if_neg h_36] at hR
        replace hok := hok.2 h_36
        refine G_aload_n hX dX5_diary_39 rfl rfl ?_
        refine G_getr hX dX5_diary_40 gt_RX5_36 rfl ?_
        refine G_iload_n hX dX5_diary_43 rfl rfl ?_
        obtain ⟨ho_44, hok⟩ := hok
        refine G_fVi hX dX5_diary_44 lv_RX5_129 (sp_X4_entry Γ ρ d 13 a1 (Or.inl rfl) z g ho_44) (by omega) (nr_is_ta (Or.inl rfl)) rfl rfl (Nat.le_of_ble_eq_true rfl) rfl ?_
        refine G_goto (tg := 52) hX dX5_diary_47 (by decide) ?_
        exact G_iret hX rfl dX5_diary_52 rfl hR.symm
    · rw [if_pos h_17] at hR
      replace hok := hok.1 h_17
      refine G_aload_n hX dX5_diary_20 rfl rfl ?_
      refine G_getr hX dX5_diary_21 gt_RX5_36 rfl ?_
      refine G_fVi hX dX5_diary_24 lv_RX5_126 (sp_X4_written Γ ρ d 13 (Or.inl rfl) z g) (by omega) (nr_is_ta (Or.inl rfl)) rfl rfl (Nat.le_of_ble_eq_true rfl) rfl ?_
      exact G_iret hX rfl dX5_diary_27 rfl hR.symm
  · rw [if_neg h_2] at hR
    replace hok := hok.2 h_2
    refine G_aload_n hX dX5_diary_5 rfl rfl ?_
    refine G_bipush (v := (-2 : Int32)) hX dX5_diary_6 (by decide) rfl ?_
    refine G_cVi hX dX5_diary_8 lv_RX5_68 (sp_X5_refuse Γ ρ d (-2 : Int32) z g) (by omega) nr_is_0 rfl rfl (Nat.le_of_ble_eq_true rfl) rfl (fun r_8 u_8 e_8 => ?_)
    obtain ⟨z_8, g_8⟩ := u_8
    rw [e_8, nr_K_mk] at hR
    refine G_pop hX dX5_diary_11 rfl rfl ?_
    refine G_bipush (v := (-10 : Int32)) hX dX5_diary_12 (by decide) rfl ?_
    exact G_iret hX rfl dX5_diary_14 rfl hR.symm
def R_X5_open  (z : Nat → Int32) (g : Nat → Nat → Int32) : Int32 := (R_X4_doorsOpen 13 z g)
set_option maxHeartbeats 4000000 in
set_option maxRecDepth 100000 in
theorem sp_X5_open (Γ : nr_M) (ρ : Nat → Nat) (d : Nat) (z : Nat → Int32) (g : Nat → Nat → Int32) : nr_Si Γ ρ (d + 1) yX5_open cX5_open 1 (some .int) [.ref (ρ 0)] z g (fun x u => x = (R_X5_open z g) ∧ u = (z, g)) := by
  refine nr_body_i (lv := [(0, .ref (ρ 0))]) (by decide +kernel) (Nat.le_of_ble_eq_true rfl) rfl (fun X hX => ?_)
  generalize hR : (R_X5_open z g) = R0
  rw [R_X5_open] at hR
  refine G_aload_n hX dX5_open_0 rfl rfl ?_
  refine G_getr hX dX5_open_1 gt_RX5_36 rfl ?_
  refine G_fVi hX dX5_open_4 lv_RX5_132 (sp_X4_doorsOpen Γ ρ d 13 (Or.inl rfl) z g) (by omega) (nr_is_ta (Or.inl rfl)) rfl rfl (Nat.le_of_ble_eq_true rfl) rfl ?_
  exact G_iret hX rfl dX5_open_7 rfl ⟨hR, rfl⟩
def T_X5_withKeys (a1 : Int32) (z : Nat → Int32) (g : Nat → Nat → Int32) : Int32 × nr_S := (nr_K (T_X0_become 3 z g) (fun r_8 z_8 g_8 => (nr_K (T_X0_giveKeys 3 a1 z_8 g_8) (fun r_16 z_16 g_16 => (0, z_16, g_16)))))
set_option maxHeartbeats 4000000 in
set_option maxRecDepth 100000 in
theorem sp_X5_withKeys (Γ : nr_M) (ρ : Nat → Nat) (d : Nat) (a1 : Int32) (z : Nat → Int32) (g : Nat → Nat → Int32) : nr_Sr 3 Γ ρ (d + 2) yX5_withKeys cX5_withKeys 2 (some (.object "NightRounds$House")) [.ref (ρ 0), .int a1] z g (fun u => (T_X5_withKeys a1 z g) = (0, u)) := by
  refine nr_body_r (lv := [(0, .ref (ρ 0)), (1, .int a1)]) (by decide +kernel) (Nat.le_of_ble_eq_true rfl) rfl (fun X hX => ?_)
  generalize hR : (T_X5_withKeys a1 z g) = R0
  rw [T_X5_withKeys] at hR
  refine G_aload_n hX dX5_withKeys_0 rfl rfl ?_
  refine G_getr hX dX5_withKeys_1 gt_RX5_16 rfl ?_
  refine G_aload_n hX dX5_withKeys_4 rfl rfl ?_
  refine G_getr hX dX5_withKeys_5 gt_RX5_12 rfl ?_
  refine G_cVv hX dX5_withKeys_8 lv_RX5_117 (sp_X0_become Γ ρ d 3 (Or.inr rfl) z g) (by omega) (nr_is_ho (Or.inr rfl)) rfl rfl (Nat.le_of_ble_eq_true rfl) rfl (fun u_8 e_8 => ?_)
  obtain ⟨z_8, g_8⟩ := u_8
  rw [e_8, nr_K_mk] at hR
  refine G_aload_n hX dX5_withKeys_11 rfl rfl ?_
  refine G_getr hX dX5_withKeys_12 gt_RX5_16 rfl ?_
  refine G_iload_n hX dX5_withKeys_15 rfl rfl ?_
  refine G_cVv hX dX5_withKeys_16 lv_RX5_91 (sp_X0_giveKeys Γ ρ d 3 a1 (Or.inr rfl) z_8 g_8) (by omega) (nr_is_ho (Or.inr rfl)) rfl rfl (Nat.le_of_ble_eq_true rfl) rfl (fun u_16 e_16 => ?_)
  obtain ⟨z_16, g_16⟩ := u_16
  rw [e_16, nr_K_mk] at hR
  refine G_aload_n hX dX5_withKeys_19 rfl rfl ?_
  refine G_getr hX dX5_withKeys_20 gt_RX5_16 rfl ?_
  exact G_aret hX dX5_withKeys_23 hR.symm
def T_X5_fewest_20 (K : Nat) : Nat → Int32 → (Nat → Int32) → (Nat → Nat → Int32) → Int32 × nr_S
  | 0, _, z, g => (0, z, g)
  | n + 1, a2, z, g => (if (8 : Int32) ≤ a2 then ((-1 : Int32), z, g) else (nr_K (T_X5_withKeys (nr_sf 41 (a2).toNatClampNeg) z g) (fun r_38 z_38 g_38 => (nr_K (T_X2_walk K 3 16 z_38 g_38) (fun r_45 z_45 g_45 => (if r_45 = 0 then ((nr_sf 41 (a2).toNatClampNeg), z_45, g_45) else (T_X5_fewest_20 K n (a2 + (1 : Int32)) z_45 g_45)))))))
def O_X5_fewest_20 (K : Nat) : Nat → Int32 → (Nat → Int32) → (Nat → Nat → Int32) → Prop
  | 0, _, _, _ => False
  | n + 1, a2, z, g => (((8 : Int32) ≤ a2 → True) ∧ (¬ ((8 : Int32) ≤ a2) → (vp_in a2 8 ∧ (nr_KP (T_X5_withKeys (nr_sf 41 (a2).toNatClampNeg) z g) (fun r_38 z_38 g_38 => ((O_X2_walk K 3 16 z_38 g_38 ∧ nr_KP (T_X2_walk K 3 16 z_38 g_38) (fun r_45 z_45 g_45 => ((r_45 = 0 → (vp_in a2 8 ∧ True)) ∧ (¬ (r_45 = 0) → (O_X5_fewest_20 K n (a2 + (1 : Int32)) z_45 g_45)))))))))))
set_option maxHeartbeats 4000000 in
set_option maxRecDepth 100000 in
theorem sp_X5_fewest_20 (Γ : nr_M) (ρ : Nat → Nat) (d : Nat) (K : Nat) (X : nr_CX) (hX : nr_Cx Γ ρ X yX5_fewest cX5_fewest 3 (some .int) (d + 5 * K + 3)) : ∀ (n : Nat) (a2 : Int32) (z : Nat → Int32) (g : Nat → Nat → Int32) (R0 : Int32 × nr_S) (_ : T_X5_fewest_20 K n a2 z g = R0) (_ : O_X5_fewest_20 K n a2 z g), nr_G Γ ρ X 3 (nr_Qi Γ ρ X (fun x u => R0 = (x, u))) 20 [(0, .ref (ρ 0)), (2, .int a2)] [] z g := by
  intro n
  induction n with
  | zero => intro a2 z g R0 hR hok; exact False.elim hok
  | succ n ih =>
    intro a2 z g R0 hR hok
    rw [T_X5_fewest_20] at hR
    rw [O_X5_fewest_20] at hok
    refine G_iload_n hX dX5_fewest_20 rfl rfl ?_
    refine G_gets (k := 41) hX dX5_fewest_21 (by decide) (by decide) wf_RX5_135 rfl ?_
    refine G_slen (k := 41) hX dX5_fewest_24 (by decide) (by decide) rfl ?_
    refine G_icmp_ge (tg := 63) hX dX5_fewest_25 (by decide) rfl (fun (h_25 : (8 : Int32) ≤ a2) => ?_) (fun (h_25 : ¬ ((8 : Int32) ≤ a2)) => ?_)
    · rw [if_pos h_25] at hR
      replace hok := hok.1 h_25
      refine G_iconst (v := (-1 : Int32)) hX dX5_fewest_63 (by decide) rfl ?_
      exact G_iret hX rfl dX5_fewest_64 rfl hR.symm
    · rw [if_neg h_25] at hR
      replace hok := hok.2 h_25
      refine G_aload_n hX dX5_fewest_28 rfl rfl ?_
      refine G_getr hX dX5_fewest_29 gt_RX5_48 rfl ?_
      refine G_aload_n hX dX5_fewest_32 rfl rfl ?_
      refine G_gets (k := 41) hX dX5_fewest_33 (by decide) (by decide) wf_RX5_135 rfl ?_
      refine G_iload_n hX dX5_fewest_36 rfl rfl ?_
      obtain ⟨hi_37, hok⟩ := hok
      refine G_sald (k := 41) hX dX5_fewest_37 (by decide) (by decide) hi_37 rfl ?_
      refine G_cVr hX dX5_fewest_38 lv_RX5_138 (sp_X5_withKeys Γ ρ d (nr_sf 41 (a2).toNatClampNeg) z g) (by omega) nr_is_0 rfl rfl (Nat.le_of_ble_eq_true rfl) rfl (fun u_38 e_38 => ?_)
      obtain ⟨z_38, g_38⟩ := u_38
      rw [e_38, nr_K_mk] at hR
      rw [e_38, nr_KP_mk] at hok
      refine G_aload_n hX dX5_fewest_41 rfl rfl ?_
      refine G_getr hX dX5_fewest_42 gt_RX5_40 rfl ?_
      obtain ⟨ho_45, hok⟩ := hok
      refine G_cVi hX dX5_fewest_45 lv_RX5_113 (sp_X2_walk Γ ρ d K 3 16 z_38 g_38 ho_45) (by omega) nr_is_19 rfl rfl (Nat.le_of_ble_eq_true rfl) rfl (fun r_45 u_45 e_45 => ?_)
      obtain ⟨z_45, g_45⟩ := u_45
      rw [e_45, nr_K_mk] at hR
      rw [e_45, nr_KP_mk] at hok
      refine G_if_ne (tg := 57) hX dX5_fewest_48 (by decide) rfl (fun (h_48 : ¬ (r_45 = 0)) => ?_) (fun (h_48 : r_45 = 0) => ?_)
      · rw [if_neg h_48] at hR
        replace hok := hok.2 h_48
        refine G_iinc (v := (a2 + (1 : Int32))) hX dX5_fewest_57 rfl rfl (by decide) rfl rfl ?_
        refine G_goto (tg := 20) hX dX5_fewest_60 (by decide) ?_
        exact nr_sub (by exact ⟨rfl, rfl, trivial⟩) (ih (a2 + (1 : Int32)) z_45 g_45 R0 hR hok)
      · rw [if_pos h_48] at hR
        replace hok := hok.1 h_48
        refine G_gets (k := 41) hX dX5_fewest_51 (by decide) (by decide) wf_RX5_135 rfl ?_
        refine G_iload_n hX dX5_fewest_54 rfl rfl ?_
        obtain ⟨hi_55, hok⟩ := hok
        refine G_sald (k := 41) hX dX5_fewest_55 (by decide) (by decide) hi_55 rfl ?_
        exact G_iret hX rfl dX5_fewest_56 rfl hR.symm
def T_X5_fewest (K : Nat) (z : Nat → Int32) (g : Nat → Nat → Int32) : Int32 × nr_S := (nr_K (T_X3_read K z g) (fun r_4 z_4 g_4 => (if r_4 = (-1 : Int32) then (T_X5_fewest_20 K 500 (0 : Int32) z_4 g_4) else (((-10 : Int32) - r_4), z_4, g_4))))
def O_X5_fewest (K : Nat) (z : Nat → Int32) (g : Nat → Nat → Int32) : Prop := ((O_X3_read K z g ∧ nr_KP (T_X3_read K z g) (fun r_4 z_4 g_4 => ((r_4 = (-1 : Int32) → (O_X5_fewest_20 K 500 (0 : Int32) z_4 g_4)) ∧ (¬ (r_4 = (-1 : Int32)) → True)))))
set_option maxHeartbeats 4000000 in
set_option maxRecDepth 100000 in
theorem sp_X5_fewest (Γ : nr_M) (ρ : Nat → Nat) (d : Nat) (K : Nat) (z : Nat → Int32) (g : Nat → Nat → Int32) (hok : O_X5_fewest K z g) : nr_Si Γ ρ (d + 5 * K + 3) yX5_fewest cX5_fewest 3 (some .int) [.ref (ρ 0)] z g (fun x u => (T_X5_fewest K z g) = (x, u)) := by
  refine nr_body_i (lv := [(0, .ref (ρ 0))]) (by decide +kernel) (Nat.le_of_ble_eq_true rfl) rfl (fun X hX => ?_)
  generalize hR : (T_X5_fewest K z g) = R0
  rw [T_X5_fewest] at hR
  rw [O_X5_fewest] at hok
  refine G_aload_n hX dX5_fewest_0 rfl rfl ?_
  refine G_getr hX dX5_fewest_1 gt_RX5_29 rfl ?_
  obtain ⟨ho_4, hok⟩ := hok
  refine G_cVi hX dX5_fewest_4 lv_RX5_110 (sp_X3_read Γ ρ d K z g ho_4) (by omega) nr_is_7 rfl rfl (Nat.le_of_ble_eq_true rfl) rfl (fun r_4 u_4 e_4 => ?_)
  obtain ⟨z_4, g_4⟩ := u_4
  rw [e_4, nr_K_mk] at hR
  rw [e_4, nr_KP_mk] at hok
  refine G_istore_n hX dX5_fewest_7 (by decide) rfl rfl ?_
  refine G_iload_n hX dX5_fewest_8 rfl rfl ?_
  refine G_iconst (v := (-1 : Int32)) hX dX5_fewest_9 (by decide) rfl ?_
  refine G_icmp_eq (tg := 18) hX dX5_fewest_10 (by decide) rfl (fun (h_10 : r_4 = (-1 : Int32)) => ?_) (fun (h_10 : ¬ (r_4 = (-1 : Int32))) => ?_)
  · rw [if_pos h_10] at hR
    replace hok := hok.1 h_10
    refine G_iconst (v := (0 : Int32)) hX dX5_fewest_18 (by decide) rfl ?_
    refine G_istore_n hX dX5_fewest_19 (by decide) rfl rfl ?_
    exact nr_sub (by exact ⟨rfl, rfl, trivial⟩) (sp_X5_fewest_20 Γ ρ d K X hX 500 (0 : Int32) z_4 g_4 R0 hR hok)
  · rw [if_neg h_10] at hR
    replace hok := hok.2 h_10
    refine G_bipush (v := (-10 : Int32)) hX dX5_fewest_13 (by decide) rfl ?_
    refine G_iload_n hX dX5_fewest_15 rfl rfl ?_
    refine G_isub hX dX5_fewest_16 rfl ?_
    exact G_iret hX rfl dX5_fewest_17 rfl hR.symm
def T_X5_withRoom (a1 : Int32) (a2 : Int32) (a3 : Int32) (z : Nat → Int32) (g : Nat → Nat → Int32) : Int32 × nr_S := (nr_K (T_X0_become 3 z g) (fun r_8 z_8 g_8 => (nr_K (T_X0_change 3 a1 a2 a3 z_8 g_8) (fun r_18 z_18 g_18 => (0, z_18, g_18)))))
def O_X5_withRoom (a1 : Int32) (a2 : Int32) (a3 : Int32) (z : Nat → Int32) (g : Nat → Nat → Int32) : Prop := (nr_KP (T_X0_become 3 z g) (fun r_8 z_8 g_8 => ((O_X0_change 3 a1 a2 a3 z_8 g_8 ∧ True))))
set_option maxHeartbeats 4000000 in
set_option maxRecDepth 100000 in
theorem sp_X5_withRoom (Γ : nr_M) (ρ : Nat → Nat) (d : Nat) (a1 : Int32) (a2 : Int32) (a3 : Int32) (z : Nat → Int32) (g : Nat → Nat → Int32) (hok : O_X5_withRoom a1 a2 a3 z g) : nr_Sr 3 Γ ρ (d + 2) yX5_withRoom cX5_withRoom 4 (some (.object "NightRounds$House")) [.ref (ρ 0), .int a1, .int a2, .int a3] z g (fun u => (T_X5_withRoom a1 a2 a3 z g) = (0, u)) := by
  refine nr_body_r (lv := [(0, .ref (ρ 0)), (1, .int a1), (2, .int a2), (3, .int a3)]) (by decide +kernel) (Nat.le_of_ble_eq_true rfl) rfl (fun X hX => ?_)
  generalize hR : (T_X5_withRoom a1 a2 a3 z g) = R0
  rw [T_X5_withRoom] at hR
  rw [O_X5_withRoom] at hok
  refine G_aload_n hX dX5_withRoom_0 rfl rfl ?_
  refine G_getr hX dX5_withRoom_1 gt_RX5_16 rfl ?_
  refine G_aload_n hX dX5_withRoom_4 rfl rfl ?_
  refine G_getr hX dX5_withRoom_5 gt_RX5_12 rfl ?_
  refine G_cVv hX dX5_withRoom_8 lv_RX5_117 (sp_X0_become Γ ρ d 3 (Or.inr rfl) z g) (by omega) (nr_is_ho (Or.inr rfl)) rfl rfl (Nat.le_of_ble_eq_true rfl) rfl (fun u_8 e_8 => ?_)
  obtain ⟨z_8, g_8⟩ := u_8
  rw [e_8, nr_K_mk] at hR
  rw [e_8, nr_KP_mk] at hok
  refine G_aload_n hX dX5_withRoom_11 rfl rfl ?_
  refine G_getr hX dX5_withRoom_12 gt_RX5_16 rfl ?_
  refine G_iload_n hX dX5_withRoom_15 rfl rfl ?_
  refine G_iload_n hX dX5_withRoom_16 rfl rfl ?_
  refine G_iload_n hX dX5_withRoom_17 rfl rfl ?_
  obtain ⟨ho_18, hok⟩ := hok
  refine G_cVv hX dX5_withRoom_18 lv_RX5_80 (sp_X0_change Γ ρ d 3 a1 a2 a3 (Or.inr rfl) z_8 g_8 ho_18) (by omega) (nr_is_ho (Or.inr rfl)) rfl rfl (Nat.le_of_ble_eq_true rfl) rfl (fun u_18 e_18 => ?_)
  obtain ⟨z_18, g_18⟩ := u_18
  rw [e_18, nr_K_mk] at hR
  refine G_aload_n hX dX5_withRoom_21 rfl rfl ?_
  refine G_getr hX dX5_withRoom_22 gt_RX5_16 rfl ?_
  exact G_aret hX dX5_withRoom_25 hR.symm
def T_X5_were_16 (K : Nat)  (z : Nat → Int32) (g : Nat → Nat → Int32) : Int32 × nr_S := (nr_K (T_X5_refuse (-2 : Int32) z g) (fun r_19 z_19 g_19 => (r_19, z_19, g_19)))
def O_X5_were_16 (K : Nat)  (z : Nat → Int32) (g : Nat → Nat → Int32) : Prop := True
set_option maxHeartbeats 4000000 in
set_option maxRecDepth 100000 in
theorem sp_X5_were_16 (Γ : nr_M) (ρ : Nat → Nat) (d : Nat) (K : Nat) (X : nr_CX) (hX : nr_Cx Γ ρ X yX5_were cX5_were 4 (some .int) (d + 5 * K + 3))  (z : Nat → Int32) (g : Nat → Nat → Int32) (R0 : Int32 × nr_S) (hR : T_X5_were_16 K  z g = R0) (hok : O_X5_were_16 K  z g) : nr_G Γ ρ X 4 (nr_Qi Γ ρ X (fun x u => R0 = (x, u))) 16 [(0, .ref (ρ 0))] [] z g := by
  rw [T_X5_were_16] at hR
  rw [O_X5_were_16] at hok
  refine G_aload_n hX dX5_were_16 rfl rfl ?_
  refine G_bipush (v := (-2 : Int32)) hX dX5_were_17 (by decide) rfl ?_
  refine G_cVi hX dX5_were_19 lv_RX5_68 (sp_X5_refuse Γ ρ d (-2 : Int32) z g) (by omega) nr_is_0 rfl rfl (Nat.le_of_ble_eq_true rfl) rfl (fun r_19 u_19 e_19 => ?_)
  obtain ⟨z_19, g_19⟩ := u_19
  rw [e_19, nr_K_mk] at hR
  exact G_iret hX rfl dX5_were_22 rfl hR.symm
def T_X5_were (K : Nat) (a1 : Int32) (a2 : Int32) (z : Nat → Int32) (g : Nat → Nat → Int32) : Int32 × nr_S := (if (R_X5_isRoom a1) = 0 then (T_X5_were_16 K  z g) else (if (R_X5_within a2 (0 : Int32) (4 : Int32)) = 0 then (T_X5_were_16 K  z g) else (nr_K (T_X3_read K z g) (fun r_27 z_27 g_27 => (if r_27 = (-1 : Int32) then (nr_K (T_X5_withRoom a1 (0 : Int32) a2 z_27 g_27) (fun r_51 z_51 g_51 => (nr_K (T_X2_walk K 3 16 z_51 g_51) (fun r_58 z_58 g_58 => (r_58, z_58, g_58))))) else (((-10 : Int32) - r_27), z_27, g_27))))))
def O_X5_were (K : Nat) (a1 : Int32) (a2 : Int32) (z : Nat → Int32) (g : Nat → Nat → Int32) : Prop := (((R_X5_isRoom a1) = 0 → (O_X5_were_16 K  z g)) ∧ (¬ ((R_X5_isRoom a1) = 0) → (((R_X5_within a2 (0 : Int32) (4 : Int32)) = 0 → (O_X5_were_16 K  z g)) ∧ (¬ ((R_X5_within a2 (0 : Int32) (4 : Int32)) = 0) → ((O_X3_read K z g ∧ nr_KP (T_X3_read K z g) (fun r_27 z_27 g_27 => ((r_27 = (-1 : Int32) → ((O_X5_withRoom a1 (0 : Int32) a2 z_27 g_27 ∧ nr_KP (T_X5_withRoom a1 (0 : Int32) a2 z_27 g_27) (fun r_51 z_51 g_51 => ((O_X2_walk K 3 16 z_51 g_51 ∧ True)))))) ∧ (¬ (r_27 = (-1 : Int32)) → True)))))))))
set_option maxHeartbeats 4000000 in
set_option maxRecDepth 100000 in
theorem sp_X5_were (Γ : nr_M) (ρ : Nat → Nat) (d : Nat) (K : Nat) (a1 : Int32) (a2 : Int32) (z : Nat → Int32) (g : Nat → Nat → Int32) (hok : O_X5_were K a1 a2 z g) : nr_Si Γ ρ (d + 5 * K + 3) yX5_were cX5_were 4 (some .int) [.ref (ρ 0), .int a1, .int a2] z g (fun x u => (T_X5_were K a1 a2 z g) = (x, u)) := by
  refine nr_body_i (lv := [(0, .ref (ρ 0)), (1, .int a1), (2, .int a2)]) (by decide +kernel) (Nat.le_of_ble_eq_true rfl) rfl (fun X hX => ?_)
  generalize hR : (T_X5_were K a1 a2 z g) = R0
  rw [T_X5_were] at hR
  rw [O_X5_were] at hok
  refine G_iload_n hX dX5_were_0 rfl rfl ?_
  refine G_fSi hX dX5_were_1 ls_RX5_52 (sp_X5_isRoom Γ ρ d a1 z g) (by omega) rfl rfl (Nat.le_of_ble_eq_true rfl) rfl ?_
  refine G_if_eq (tg := 16) hX dX5_were_4 (by decide) rfl (fun (h_4 : (R_X5_isRoom a1) = 0) => ?_) (fun (h_4 : ¬ ((R_X5_isRoom a1) = 0)) => ?_)
  · rw [if_pos h_4] at hR
    replace hok := hok.1 h_4
    exact nr_sub (by exact ⟨rfl, trivial⟩) (sp_X5_were_16 Γ ρ d K X hX z g R0 hR hok)
  · rw [if_neg h_4] at hR
    replace hok := hok.2 h_4
    refine G_iload_n hX dX5_were_7 rfl rfl ?_
    refine G_iconst (v := (0 : Int32)) hX dX5_were_8 (by decide) rfl ?_
    refine G_iconst (v := (4 : Int32)) hX dX5_were_9 (by decide) rfl ?_
    refine G_fSi hX dX5_were_10 ls_RX5_56 (sp_X5_within Γ ρ d a2 (0 : Int32) (4 : Int32) z g) (by omega) rfl rfl (Nat.le_of_ble_eq_true rfl) rfl ?_
    refine G_if_ne (tg := 23) hX dX5_were_13 (by decide) rfl (fun (h_13 : ¬ ((R_X5_within a2 (0 : Int32) (4 : Int32)) = 0)) => ?_) (fun (h_13 : (R_X5_within a2 (0 : Int32) (4 : Int32)) = 0) => ?_)
    · rw [if_neg h_13] at hR
      replace hok := hok.2 h_13
      refine G_aload_n hX dX5_were_23 rfl rfl ?_
      refine G_getr hX dX5_were_24 gt_RX5_29 rfl ?_
      obtain ⟨ho_27, hok⟩ := hok
      refine G_cVi hX dX5_were_27 lv_RX5_110 (sp_X3_read Γ ρ d K z g ho_27) (by omega) nr_is_7 rfl rfl (Nat.le_of_ble_eq_true rfl) rfl (fun r_27 u_27 e_27 => ?_)
      obtain ⟨z_27, g_27⟩ := u_27
      rw [e_27, nr_K_mk] at hR
      rw [e_27, nr_KP_mk] at hok
      refine G_istore_n hX dX5_were_30 (by decide) rfl rfl ?_
      refine G_iload_n hX dX5_were_31 rfl rfl ?_
      refine G_iconst (v := (-1 : Int32)) hX dX5_were_32 (by decide) rfl ?_
      refine G_icmp_eq (tg := 43) hX dX5_were_33 (by decide) rfl (fun (h_33 : r_27 = (-1 : Int32)) => ?_) (fun (h_33 : ¬ (r_27 = (-1 : Int32))) => ?_)
      · rw [if_pos h_33] at hR
        replace hok := hok.1 h_33
        refine G_aload_n hX dX5_were_43 rfl rfl ?_
        refine G_getr hX dX5_were_44 gt_RX5_48 rfl ?_
        refine G_aload_n hX dX5_were_47 rfl rfl ?_
        refine G_iload_n hX dX5_were_48 rfl rfl ?_
        refine G_iconst (v := (0 : Int32)) hX dX5_were_49 (by decide) rfl ?_
        refine G_iload_n hX dX5_were_50 rfl rfl ?_
        obtain ⟨ho_51, hok⟩ := hok
        refine G_cVr hX dX5_were_51 lv_RX5_142 (sp_X5_withRoom Γ ρ d a1 (0 : Int32) a2 z_27 g_27 ho_51) (by omega) nr_is_0 rfl rfl (Nat.le_of_ble_eq_true rfl) rfl (fun u_51 e_51 => ?_)
        obtain ⟨z_51, g_51⟩ := u_51
        rw [e_51, nr_K_mk] at hR
        rw [e_51, nr_KP_mk] at hok
        refine G_aload_n hX dX5_were_54 rfl rfl ?_
        refine G_getr hX dX5_were_55 gt_RX5_40 rfl ?_
        obtain ⟨ho_58, hok⟩ := hok
        refine G_cVi hX dX5_were_58 lv_RX5_113 (sp_X2_walk Γ ρ d K 3 16 z_51 g_51 ho_58) (by omega) nr_is_19 rfl rfl (Nat.le_of_ble_eq_true rfl) rfl (fun r_58 u_58 e_58 => ?_)
        obtain ⟨z_58, g_58⟩ := u_58
        rw [e_58, nr_K_mk] at hR
        exact G_iret hX rfl dX5_were_61 rfl hR.symm
      · rw [if_neg h_33] at hR
        replace hok := hok.2 h_33
        refine G_bipush (v := (-10 : Int32)) hX dX5_were_36 (by decide) rfl ?_
        refine G_iload_n hX dX5_were_38 rfl rfl ?_
        refine G_isub hX dX5_were_39 rfl ?_
        refine G_goto (tg := 61) hX dX5_were_40 (by decide) ?_
        exact G_iret hX rfl dX5_were_61 rfl hR.symm
    · rw [if_pos h_13] at hR
      replace hok := hok.1 h_13
      exact nr_sub (by exact ⟨rfl, trivial⟩) (sp_X5_were_16 Γ ρ d K X hX z g R0 hR hok)
def T_X5_cures_44 (K : Nat) : Nat → Int32 → Int32 → Int32 → (Nat → Int32) → (Nat → Nat → Int32) → Int32 × nr_S
  | 0, _, _, _, z, g => (0, z, g)
  | n + 1, a1, a3, a4, z, g => (if (8 : Int32) ≤ a4 then (a3, z, g) else (nr_K (T_X5_withRoom a4 (R_X5_at 42 a1 z g) (0 : Int32) z g) (fun r_66 z_66 g_66 => (nr_K (T_X2_walk K 3 16 z_66 g_66) (fun r_73 z_73 g_73 => (if r_73 = 0 then (T_X5_cures_44 K n a1 (a3 ||| ((1 : Int32) <<< (a4 &&& 31))) (a4 + (1 : Int32)) z_73 g_73) else (T_X5_cures_44 K n a1 a3 (a4 + (1 : Int32)) z_73 g_73)))))))
def O_X5_cures_44 (K : Nat) : Nat → Int32 → Int32 → Int32 → (Nat → Int32) → (Nat → Nat → Int32) → Prop
  | 0, _, _, _, _, _ => False
  | n + 1, a1, a3, a4, z, g => (((8 : Int32) ≤ a4 → True) ∧ (¬ ((8 : Int32) ≤ a4) → (O_X5_at 42 a1 z g ∧ ((O_X5_withRoom a4 (R_X5_at 42 a1 z g) (0 : Int32) z g ∧ nr_KP (T_X5_withRoom a4 (R_X5_at 42 a1 z g) (0 : Int32) z g) (fun r_66 z_66 g_66 => ((O_X2_walk K 3 16 z_66 g_66 ∧ nr_KP (T_X2_walk K 3 16 z_66 g_66) (fun r_73 z_73 g_73 => ((r_73 = 0 → (O_X5_cures_44 K n a1 (a3 ||| ((1 : Int32) <<< (a4 &&& 31))) (a4 + (1 : Int32)) z_73 g_73)) ∧ (¬ (r_73 = 0) → (O_X5_cures_44 K n a1 a3 (a4 + (1 : Int32)) z_73 g_73))))))))))))
set_option maxHeartbeats 4000000 in
set_option maxRecDepth 100000 in
theorem sp_X5_cures_44 (Γ : nr_M) (ρ : Nat → Nat) (d : Nat) (K : Nat) (X : nr_CX) (hX : nr_Cx Γ ρ X yX5_cures cX5_cures 5 (some .int) (d + 5 * K + 3)) : ∀ (n : Nat) (a1 : Int32) (a3 : Int32) (a4 : Int32) (z : Nat → Int32) (g : Nat → Nat → Int32) (R0 : Int32 × nr_S) (_ : T_X5_cures_44 K n a1 a3 a4 z g = R0) (_ : O_X5_cures_44 K n a1 a3 a4 z g), nr_G Γ ρ X 5 (nr_Qi Γ ρ X (fun x u => R0 = (x, u))) 44 [(0, .ref (ρ 0)), (1, .int a1), (3, .int a3), (4, .int a4)] [] z g := by
  intro n
  induction n with
  | zero => intro a1 a3 a4 z g R0 hR hok; exact False.elim hok
  | succ n ih =>
    intro a1 a3 a4 z g R0 hR hok
    rw [T_X5_cures_44] at hR
    rw [O_X5_cures_44] at hok
    refine G_iload hX dX5_cures_44 rfl rfl ?_
    refine G_bipush (v := (8 : Int32)) hX dX5_cures_46 (by decide) rfl ?_
    refine G_icmp_ge (tg := 92) hX dX5_cures_48 (by decide) rfl (fun (h_48 : (8 : Int32) ≤ a4) => ?_) (fun (h_48 : ¬ ((8 : Int32) ≤ a4)) => ?_)
    · rw [if_pos h_48] at hR
      replace hok := hok.1 h_48
      refine G_iload_n hX dX5_cures_92 rfl rfl ?_
      exact G_iret hX rfl dX5_cures_93 rfl hR.symm
    · rw [if_neg h_48] at hR
      replace hok := hok.2 h_48
      refine G_aload_n hX dX5_cures_51 rfl rfl ?_
      refine G_getr hX dX5_cures_52 gt_RX5_48 rfl ?_
      refine G_aload_n hX dX5_cures_55 rfl rfl ?_
      refine G_iload hX dX5_cures_56 rfl rfl ?_
      refine G_gets (k := 42) hX dX5_cures_58 (by decide) (by decide) wf_RX5_146 rfl ?_
      refine G_iload_n hX dX5_cures_61 rfl rfl ?_
      obtain ⟨ho_62, hok⟩ := hok
      refine G_fSi hX dX5_cures_62 ls_RX5_64 (sp_X5_at Γ ρ d 42 a1 z g ho_62) (by omega) rfl rfl (Nat.le_of_ble_eq_true rfl) rfl ?_
      refine G_iconst (v := (0 : Int32)) hX dX5_cures_65 (by decide) rfl ?_
      obtain ⟨ho_66, hok⟩ := hok
      refine G_cVr hX dX5_cures_66 lv_RX5_142 (sp_X5_withRoom Γ ρ d a4 (R_X5_at 42 a1 z g) (0 : Int32) z g ho_66) (by omega) nr_is_0 rfl rfl (Nat.le_of_ble_eq_true rfl) rfl (fun u_66 e_66 => ?_)
      obtain ⟨z_66, g_66⟩ := u_66
      rw [e_66, nr_K_mk] at hR
      rw [e_66, nr_KP_mk] at hok
      refine G_aload_n hX dX5_cures_69 rfl rfl ?_
      refine G_getr hX dX5_cures_70 gt_RX5_40 rfl ?_
      obtain ⟨ho_73, hok⟩ := hok
      refine G_cVi hX dX5_cures_73 lv_RX5_113 (sp_X2_walk Γ ρ d K 3 16 z_66 g_66 ho_73) (by omega) nr_is_19 rfl rfl (Nat.le_of_ble_eq_true rfl) rfl (fun r_73 u_73 e_73 => ?_)
      obtain ⟨z_73, g_73⟩ := u_73
      rw [e_73, nr_K_mk] at hR
      rw [e_73, nr_KP_mk] at hok
      refine G_if_ne (tg := 86) hX dX5_cures_76 (by decide) rfl (fun (h_76 : ¬ (r_73 = 0)) => ?_) (fun (h_76 : r_73 = 0) => ?_)
      · rw [if_neg h_76] at hR
        replace hok := hok.2 h_76
        refine G_iinc (v := (a4 + (1 : Int32))) hX dX5_cures_86 rfl rfl (by decide) rfl rfl ?_
        refine G_goto (tg := 44) hX dX5_cures_89 (by decide) ?_
        exact nr_sub (by exact ⟨rfl, rfl, rfl, rfl, trivial⟩) (ih a1 a3 (a4 + (1 : Int32)) z_73 g_73 R0 hR hok)
      · rw [if_pos h_76] at hR
        replace hok := hok.1 h_76
        refine G_iload_n hX dX5_cures_79 rfl rfl ?_
        refine G_iconst (v := (1 : Int32)) hX dX5_cures_80 (by decide) rfl ?_
        refine G_iload hX dX5_cures_81 rfl rfl ?_
        refine G_ishl hX dX5_cures_83 rfl ?_
        refine G_ior hX dX5_cures_84 rfl ?_
        refine G_istore_n hX dX5_cures_85 (by decide) rfl rfl ?_
        refine G_iinc (v := (a4 + (1 : Int32))) hX dX5_cures_86 rfl rfl (by decide) rfl rfl ?_
        refine G_goto (tg := 44) hX dX5_cures_89 (by decide) ?_
        exact nr_sub (by exact ⟨rfl, rfl, rfl, rfl, trivial⟩) (ih a1 (a3 ||| ((1 : Int32) <<< (a4 &&& 31))) (a4 + (1 : Int32)) z_73 g_73 R0 hR hok)
def T_X5_cures (K : Nat) (a1 : Int32) (z : Nat → Int32) (g : Nat → Nat → Int32) : Int32 × nr_S := (if (R_X5_within a1 (0 : Int32) ((3 : Int32) - (1 : Int32))) = 0 then (nr_K (T_X5_refuse (-2 : Int32) z g) (fun r_17 z_17 g_17 => (r_17, z_17, g_17))) else (nr_K (T_X3_read K z g) (fun r_25 z_25 g_25 => (if r_25 = (-1 : Int32) then (T_X5_cures_44 K 500 a1 (0 : Int32) (0 : Int32) z_25 g_25) else (((-10 : Int32) - r_25), z_25, g_25)))))
def O_X5_cures (K : Nat) (a1 : Int32) (z : Nat → Int32) (g : Nat → Nat → Int32) : Prop := (((R_X5_within a1 (0 : Int32) ((3 : Int32) - (1 : Int32))) = 0 → True) ∧ (¬ ((R_X5_within a1 (0 : Int32) ((3 : Int32) - (1 : Int32))) = 0) → ((O_X3_read K z g ∧ nr_KP (T_X3_read K z g) (fun r_25 z_25 g_25 => ((r_25 = (-1 : Int32) → (O_X5_cures_44 K 500 a1 (0 : Int32) (0 : Int32) z_25 g_25)) ∧ (¬ (r_25 = (-1 : Int32)) → True)))))))
set_option maxHeartbeats 4000000 in
set_option maxRecDepth 100000 in
theorem sp_X5_cures (Γ : nr_M) (ρ : Nat → Nat) (d : Nat) (K : Nat) (a1 : Int32) (z : Nat → Int32) (g : Nat → Nat → Int32) (hok : O_X5_cures K a1 z g) : nr_Si Γ ρ (d + 5 * K + 3) yX5_cures cX5_cures 5 (some .int) [.ref (ρ 0), .int a1] z g (fun x u => (T_X5_cures K a1 z g) = (x, u)) := by
  refine nr_body_i (lv := [(0, .ref (ρ 0)), (1, .int a1)]) (by decide +kernel) (Nat.le_of_ble_eq_true rfl) rfl (fun X hX => ?_)
  generalize hR : (T_X5_cures K a1 z g) = R0
  rw [T_X5_cures] at hR
  rw [O_X5_cures] at hok
  refine G_iload_n hX dX5_cures_0 rfl rfl ?_
  refine G_iconst (v := (0 : Int32)) hX dX5_cures_1 (by decide) rfl ?_
  refine G_gets (k := 42) hX dX5_cures_2 (by decide) (by decide) wf_RX5_146 rfl ?_
  refine G_slen (k := 42) hX dX5_cures_5 (by decide) (by decide) rfl ?_
  refine G_iconst (v := (1 : Int32)) hX dX5_cures_6 (by decide) rfl ?_
  refine G_isub hX dX5_cures_7 rfl ?_
  refine G_fSi hX dX5_cures_8 ls_RX5_56 (sp_X5_within Γ ρ d a1 (0 : Int32) ((3 : Int32) - (1 : Int32)) z g) (by omega) rfl rfl (Nat.le_of_ble_eq_true rfl) rfl ?_
  refine G_if_ne (tg := 21) hX dX5_cures_11 (by decide) rfl (fun (h_11 : ¬ ((R_X5_within a1 (0 : Int32) ((3 : Int32) - (1 : Int32))) = 0)) => ?_) (fun (h_11 : (R_X5_within a1 (0 : Int32) ((3 : Int32) - (1 : Int32))) = 0) => ?_)
  · rw [if_neg h_11] at hR
    replace hok := hok.2 h_11
    refine G_aload_n hX dX5_cures_21 rfl rfl ?_
    refine G_getr hX dX5_cures_22 gt_RX5_29 rfl ?_
    obtain ⟨ho_25, hok⟩ := hok
    refine G_cVi hX dX5_cures_25 lv_RX5_110 (sp_X3_read Γ ρ d K z g ho_25) (by omega) nr_is_7 rfl rfl (Nat.le_of_ble_eq_true rfl) rfl (fun r_25 u_25 e_25 => ?_)
    obtain ⟨z_25, g_25⟩ := u_25
    rw [e_25, nr_K_mk] at hR
    rw [e_25, nr_KP_mk] at hok
    refine G_istore_n hX dX5_cures_28 (by decide) rfl rfl ?_
    refine G_iload_n hX dX5_cures_29 rfl rfl ?_
    refine G_iconst (v := (-1 : Int32)) hX dX5_cures_30 (by decide) rfl ?_
    refine G_icmp_eq (tg := 39) hX dX5_cures_31 (by decide) rfl (fun (h_31 : r_25 = (-1 : Int32)) => ?_) (fun (h_31 : ¬ (r_25 = (-1 : Int32))) => ?_)
    · rw [if_pos h_31] at hR
      replace hok := hok.1 h_31
      refine G_iconst (v := (0 : Int32)) hX dX5_cures_39 (by decide) rfl ?_
      refine G_istore_n hX dX5_cures_40 (by decide) rfl rfl ?_
      refine G_iconst (v := (0 : Int32)) hX dX5_cures_41 (by decide) rfl ?_
      refine G_istore hX dX5_cures_42 (by decide) rfl rfl ?_
      exact nr_sub (by exact ⟨rfl, rfl, rfl, rfl, trivial⟩) (sp_X5_cures_44 Γ ρ d K X hX 500 a1 (0 : Int32) (0 : Int32) z_25 g_25 R0 hR hok)
    · rw [if_neg h_31] at hR
      replace hok := hok.2 h_31
      refine G_bipush (v := (-10 : Int32)) hX dX5_cures_34 (by decide) rfl ?_
      refine G_iload_n hX dX5_cures_36 rfl rfl ?_
      refine G_isub hX dX5_cures_37 rfl ?_
      exact G_iret hX rfl dX5_cures_38 rfl hR.symm
  · rw [if_pos h_11] at hR
    replace hok := hok.1 h_11
    refine G_aload_n hX dX5_cures_14 rfl rfl ?_
    refine G_bipush (v := (-2 : Int32)) hX dX5_cures_15 (by decide) rfl ?_
    refine G_cVi hX dX5_cures_17 lv_RX5_68 (sp_X5_refuse Γ ρ d (-2 : Int32) z g) (by omega) nr_is_0 rfl rfl (Nat.le_of_ble_eq_true rfl) rfl (fun r_17 u_17 e_17 => ?_)
    obtain ⟨z_17, g_17⟩ := u_17
    rw [e_17, nr_K_mk] at hR
    exact G_iret hX rfl dX5_cures_20 rfl hR.symm
def T_X5_ends_40 (K : Nat) : Nat → Int32 → Int32 → Int32 → (Nat → Int32) → (Nat → Nat → Int32) → Int32 × nr_S
  | 0, _, _, _, z, g => (0, z, g)
  | n + 1, a1, a3, a4, z, g => (if (8 : Int32) ≤ a4 then (a3, z, g) else (nr_K (T_X5_withKeys (nr_sf 41 (a4).toNatClampNeg) z g) (fun r_60 z_60 g_60 => (nr_K (T_X2_walk K 3 16 z_60 g_60) (fun r_67 z_67 g_67 => (if r_67 = a1 then (T_X5_ends_40 K n a1 (a3 + (1 : Int32)) (a4 + (1 : Int32)) z_67 g_67) else (T_X5_ends_40 K n a1 a3 (a4 + (1 : Int32)) z_67 g_67)))))))
def O_X5_ends_40 (K : Nat) : Nat → Int32 → Int32 → Int32 → (Nat → Int32) → (Nat → Nat → Int32) → Prop
  | 0, _, _, _, _, _ => False
  | n + 1, a1, a3, a4, z, g => (((8 : Int32) ≤ a4 → True) ∧ (¬ ((8 : Int32) ≤ a4) → (vp_in a4 8 ∧ (nr_KP (T_X5_withKeys (nr_sf 41 (a4).toNatClampNeg) z g) (fun r_60 z_60 g_60 => ((O_X2_walk K 3 16 z_60 g_60 ∧ nr_KP (T_X2_walk K 3 16 z_60 g_60) (fun r_67 z_67 g_67 => ((r_67 = a1 → (O_X5_ends_40 K n a1 (a3 + (1 : Int32)) (a4 + (1 : Int32)) z_67 g_67)) ∧ (¬ (r_67 = a1) → (O_X5_ends_40 K n a1 a3 (a4 + (1 : Int32)) z_67 g_67)))))))))))
set_option maxHeartbeats 4000000 in
set_option maxRecDepth 100000 in
theorem sp_X5_ends_40 (Γ : nr_M) (ρ : Nat → Nat) (d : Nat) (K : Nat) (X : nr_CX) (hX : nr_Cx Γ ρ X yX5_ends cX5_ends 5 (some .int) (d + 5 * K + 3)) : ∀ (n : Nat) (a1 : Int32) (a3 : Int32) (a4 : Int32) (z : Nat → Int32) (g : Nat → Nat → Int32) (R0 : Int32 × nr_S) (_ : T_X5_ends_40 K n a1 a3 a4 z g = R0) (_ : O_X5_ends_40 K n a1 a3 a4 z g), nr_G Γ ρ X 5 (nr_Qi Γ ρ X (fun x u => R0 = (x, u))) 40 [(0, .ref (ρ 0)), (1, .int a1), (3, .int a3), (4, .int a4)] [] z g := by
  intro n
  induction n with
  | zero => intro a1 a3 a4 z g R0 hR hok; exact False.elim hok
  | succ n ih =>
    intro a1 a3 a4 z g R0 hR hok
    rw [T_X5_ends_40] at hR
    rw [O_X5_ends_40] at hok
    refine G_iload hX dX5_ends_40 rfl rfl ?_
    refine G_gets (k := 41) hX dX5_ends_42 (by decide) (by decide) wf_RX5_135 rfl ?_
    refine G_slen (k := 41) hX dX5_ends_45 (by decide) (by decide) rfl ?_
    refine G_icmp_ge (tg := 83) hX dX5_ends_46 (by decide) rfl (fun (h_46 : (8 : Int32) ≤ a4) => ?_) (fun (h_46 : ¬ ((8 : Int32) ≤ a4)) => ?_)
    · rw [if_pos h_46] at hR
      replace hok := hok.1 h_46
      refine G_iload_n hX dX5_ends_83 rfl rfl ?_
      exact G_iret hX rfl dX5_ends_84 rfl hR.symm
    · rw [if_neg h_46] at hR
      replace hok := hok.2 h_46
      refine G_aload_n hX dX5_ends_49 rfl rfl ?_
      refine G_getr hX dX5_ends_50 gt_RX5_48 rfl ?_
      refine G_aload_n hX dX5_ends_53 rfl rfl ?_
      refine G_gets (k := 41) hX dX5_ends_54 (by decide) (by decide) wf_RX5_135 rfl ?_
      refine G_iload hX dX5_ends_57 rfl rfl ?_
      obtain ⟨hi_59, hok⟩ := hok
      refine G_sald (k := 41) hX dX5_ends_59 (by decide) (by decide) hi_59 rfl ?_
      refine G_cVr hX dX5_ends_60 lv_RX5_138 (sp_X5_withKeys Γ ρ d (nr_sf 41 (a4).toNatClampNeg) z g) (by omega) nr_is_0 rfl rfl (Nat.le_of_ble_eq_true rfl) rfl (fun u_60 e_60 => ?_)
      obtain ⟨z_60, g_60⟩ := u_60
      rw [e_60, nr_K_mk] at hR
      rw [e_60, nr_KP_mk] at hok
      refine G_aload_n hX dX5_ends_63 rfl rfl ?_
      refine G_getr hX dX5_ends_64 gt_RX5_40 rfl ?_
      obtain ⟨ho_67, hok⟩ := hok
      refine G_cVi hX dX5_ends_67 lv_RX5_113 (sp_X2_walk Γ ρ d K 3 16 z_60 g_60 ho_67) (by omega) nr_is_19 rfl rfl (Nat.le_of_ble_eq_true rfl) rfl (fun r_67 u_67 e_67 => ?_)
      obtain ⟨z_67, g_67⟩ := u_67
      rw [e_67, nr_K_mk] at hR
      rw [e_67, nr_KP_mk] at hok
      refine G_iload_n hX dX5_ends_70 rfl rfl ?_
      refine G_icmp_ne (tg := 77) hX dX5_ends_71 (by decide) rfl (fun (h_71 : ¬ (r_67 = a1)) => ?_) (fun (h_71 : r_67 = a1) => ?_)
      · rw [if_neg h_71] at hR
        replace hok := hok.2 h_71
        refine G_iinc (v := (a4 + (1 : Int32))) hX dX5_ends_77 rfl rfl (by decide) rfl rfl ?_
        refine G_goto (tg := 40) hX dX5_ends_80 (by decide) ?_
        exact nr_sub (by exact ⟨rfl, rfl, rfl, rfl, trivial⟩) (ih a1 a3 (a4 + (1 : Int32)) z_67 g_67 R0 hR hok)
      · rw [if_pos h_71] at hR
        replace hok := hok.1 h_71
        refine G_iinc (v := (a3 + (1 : Int32))) hX dX5_ends_74 rfl rfl (by decide) rfl rfl ?_
        refine G_iinc (v := (a4 + (1 : Int32))) hX dX5_ends_77 rfl rfl (by decide) rfl rfl ?_
        refine G_goto (tg := 40) hX dX5_ends_80 (by decide) ?_
        exact nr_sub (by exact ⟨rfl, rfl, rfl, rfl, trivial⟩) (ih a1 (a3 + (1 : Int32)) (a4 + (1 : Int32)) z_67 g_67 R0 hR hok)
def T_X5_ends (K : Nat) (a1 : Int32) (z : Nat → Int32) (g : Nat → Nat → Int32) : Int32 × nr_S := (if (R_X5_within a1 (0 : Int32) (6 : Int32)) = 0 then (nr_K (T_X5_refuse (-2 : Int32) z g) (fun r_13 z_13 g_13 => (r_13, z_13, g_13))) else (nr_K (T_X3_read K z g) (fun r_21 z_21 g_21 => (if r_21 = (-1 : Int32) then (T_X5_ends_40 K 500 a1 (0 : Int32) (0 : Int32) z_21 g_21) else (((-10 : Int32) - r_21), z_21, g_21)))))
def O_X5_ends (K : Nat) (a1 : Int32) (z : Nat → Int32) (g : Nat → Nat → Int32) : Prop := (((R_X5_within a1 (0 : Int32) (6 : Int32)) = 0 → True) ∧ (¬ ((R_X5_within a1 (0 : Int32) (6 : Int32)) = 0) → ((O_X3_read K z g ∧ nr_KP (T_X3_read K z g) (fun r_21 z_21 g_21 => ((r_21 = (-1 : Int32) → (O_X5_ends_40 K 500 a1 (0 : Int32) (0 : Int32) z_21 g_21)) ∧ (¬ (r_21 = (-1 : Int32)) → True)))))))
set_option maxHeartbeats 4000000 in
set_option maxRecDepth 100000 in
theorem sp_X5_ends (Γ : nr_M) (ρ : Nat → Nat) (d : Nat) (K : Nat) (a1 : Int32) (z : Nat → Int32) (g : Nat → Nat → Int32) (hok : O_X5_ends K a1 z g) : nr_Si Γ ρ (d + 5 * K + 3) yX5_ends cX5_ends 5 (some .int) [.ref (ρ 0), .int a1] z g (fun x u => (T_X5_ends K a1 z g) = (x, u)) := by
  refine nr_body_i (lv := [(0, .ref (ρ 0)), (1, .int a1)]) (by decide +kernel) (Nat.le_of_ble_eq_true rfl) rfl (fun X hX => ?_)
  generalize hR : (T_X5_ends K a1 z g) = R0
  rw [T_X5_ends] at hR
  rw [O_X5_ends] at hok
  refine G_iload_n hX dX5_ends_0 rfl rfl ?_
  refine G_iconst (v := (0 : Int32)) hX dX5_ends_1 (by decide) rfl ?_
  refine G_bipush (v := (6 : Int32)) hX dX5_ends_2 (by decide) rfl ?_
  refine G_fSi hX dX5_ends_4 ls_RX5_56 (sp_X5_within Γ ρ d a1 (0 : Int32) (6 : Int32) z g) (by omega) rfl rfl (Nat.le_of_ble_eq_true rfl) rfl ?_
  refine G_if_ne (tg := 17) hX dX5_ends_7 (by decide) rfl (fun (h_7 : ¬ ((R_X5_within a1 (0 : Int32) (6 : Int32)) = 0)) => ?_) (fun (h_7 : (R_X5_within a1 (0 : Int32) (6 : Int32)) = 0) => ?_)
  · rw [if_neg h_7] at hR
    replace hok := hok.2 h_7
    refine G_aload_n hX dX5_ends_17 rfl rfl ?_
    refine G_getr hX dX5_ends_18 gt_RX5_29 rfl ?_
    obtain ⟨ho_21, hok⟩ := hok
    refine G_cVi hX dX5_ends_21 lv_RX5_110 (sp_X3_read Γ ρ d K z g ho_21) (by omega) nr_is_7 rfl rfl (Nat.le_of_ble_eq_true rfl) rfl (fun r_21 u_21 e_21 => ?_)
    obtain ⟨z_21, g_21⟩ := u_21
    rw [e_21, nr_K_mk] at hR
    rw [e_21, nr_KP_mk] at hok
    refine G_istore_n hX dX5_ends_24 (by decide) rfl rfl ?_
    refine G_iload_n hX dX5_ends_25 rfl rfl ?_
    refine G_iconst (v := (-1 : Int32)) hX dX5_ends_26 (by decide) rfl ?_
    refine G_icmp_eq (tg := 35) hX dX5_ends_27 (by decide) rfl (fun (h_27 : r_21 = (-1 : Int32)) => ?_) (fun (h_27 : ¬ (r_21 = (-1 : Int32))) => ?_)
    · rw [if_pos h_27] at hR
      replace hok := hok.1 h_27
      refine G_iconst (v := (0 : Int32)) hX dX5_ends_35 (by decide) rfl ?_
      refine G_istore_n hX dX5_ends_36 (by decide) rfl rfl ?_
      refine G_iconst (v := (0 : Int32)) hX dX5_ends_37 (by decide) rfl ?_
      refine G_istore hX dX5_ends_38 (by decide) rfl rfl ?_
      exact nr_sub (by exact ⟨rfl, rfl, rfl, rfl, trivial⟩) (sp_X5_ends_40 Γ ρ d K X hX 500 a1 (0 : Int32) (0 : Int32) z_21 g_21 R0 hR hok)
    · rw [if_neg h_27] at hR
      replace hok := hok.2 h_27
      refine G_bipush (v := (-10 : Int32)) hX dX5_ends_30 (by decide) rfl ?_
      refine G_iload_n hX dX5_ends_32 rfl rfl ?_
      refine G_isub hX dX5_ends_33 rfl ?_
      exact G_iret hX rfl dX5_ends_34 rfl hR.symm
  · rw [if_pos h_7] at hR
    replace hok := hok.1 h_7
    refine G_aload_n hX dX5_ends_10 rfl rfl ?_
    refine G_bipush (v := (-2 : Int32)) hX dX5_ends_11 (by decide) rfl ?_
    refine G_cVi hX dX5_ends_13 lv_RX5_68 (sp_X5_refuse Γ ρ d (-2 : Int32) z g) (by omega) nr_is_0 rfl rfl (Nat.le_of_ble_eq_true rfl) rfl (fun r_13 u_13 e_13 => ?_)
    obtain ⟨z_13, g_13⟩ := u_13
    rw [e_13, nr_K_mk] at hR
    exact G_iret hX rfl dX5_ends_16 rfl hR.symm
def T_X5_told (K : Nat) (a1 : Int32) (z : Nat → Int32) (g : Nat → Nat → Int32) : Int32 × nr_S := (if (R_X5_within a1 (0 : Int32) (2 : Int32)) = 0 then (nr_K (T_X5_refuse (-2 : Int32) z g) (fun r_12 z_12 g_12 => (r_12, z_12, g_12))) else (nr_K (T_X3_read K z g) (fun r_20 z_20 g_20 => (if r_20 = (-1 : Int32) then (if a1 = (0 : Int32) then ((R_X3_acts z_20 g_20), z_20, g_20) else (if a1 = (1 : Int32) then ((R_X3_deepest z_20 g_20), z_20, g_20) else ((R_X3_roomBits z_20 g_20), z_20, g_20))) else (((-10 : Int32) - r_20), z_20, g_20)))))
def O_X5_told (K : Nat) (a1 : Int32) (z : Nat → Int32) (g : Nat → Nat → Int32) : Prop := (((R_X5_within a1 (0 : Int32) (2 : Int32)) = 0 → True) ∧ (¬ ((R_X5_within a1 (0 : Int32) (2 : Int32)) = 0) → ((O_X3_read K z g ∧ True))))
set_option maxHeartbeats 4000000 in
set_option maxRecDepth 100000 in
theorem sp_X5_told (Γ : nr_M) (ρ : Nat → Nat) (d : Nat) (K : Nat) (a1 : Int32) (z : Nat → Int32) (g : Nat → Nat → Int32) (hok : O_X5_told K a1 z g) : nr_Si Γ ρ (d + 5 * K + 2) yX5_told cX5_told 3 (some .int) [.ref (ρ 0), .int a1] z g (fun x u => (T_X5_told K a1 z g) = (x, u)) := by
  refine nr_body_i (lv := [(0, .ref (ρ 0)), (1, .int a1)]) (by decide +kernel) (Nat.le_of_ble_eq_true rfl) rfl (fun X hX => ?_)
  generalize hR : (T_X5_told K a1 z g) = R0
  rw [T_X5_told] at hR
  rw [O_X5_told] at hok
  refine G_iload_n hX dX5_told_0 rfl rfl ?_
  refine G_iconst (v := (0 : Int32)) hX dX5_told_1 (by decide) rfl ?_
  refine G_iconst (v := (2 : Int32)) hX dX5_told_2 (by decide) rfl ?_
  refine G_fSi hX dX5_told_3 ls_RX5_56 (sp_X5_within Γ ρ d a1 (0 : Int32) (2 : Int32) z g) (by omega) rfl rfl (Nat.le_of_ble_eq_true rfl) rfl ?_
  refine G_if_ne (tg := 16) hX dX5_told_6 (by decide) rfl (fun (h_6 : ¬ ((R_X5_within a1 (0 : Int32) (2 : Int32)) = 0)) => ?_) (fun (h_6 : (R_X5_within a1 (0 : Int32) (2 : Int32)) = 0) => ?_)
  · rw [if_neg h_6] at hR
    replace hok := hok.2 h_6
    refine G_aload_n hX dX5_told_16 rfl rfl ?_
    refine G_getr hX dX5_told_17 gt_RX5_29 rfl ?_
    obtain ⟨ho_20, hok⟩ := hok
    refine G_cVi hX dX5_told_20 lv_RX5_110 (sp_X3_read Γ ρ d K z g ho_20) (by omega) nr_is_7 rfl rfl (Nat.le_of_ble_eq_true rfl) rfl (fun r_20 u_20 e_20 => ?_)
    obtain ⟨z_20, g_20⟩ := u_20
    rw [e_20, nr_K_mk] at hR
    refine G_istore_n hX dX5_told_23 (by decide) rfl rfl ?_
    refine G_iload_n hX dX5_told_24 rfl rfl ?_
    refine G_iconst (v := (-1 : Int32)) hX dX5_told_25 (by decide) rfl ?_
    refine G_icmp_eq (tg := 34) hX dX5_told_26 (by decide) rfl (fun (h_26 : r_20 = (-1 : Int32)) => ?_) (fun (h_26 : ¬ (r_20 = (-1 : Int32))) => ?_)
    · rw [if_pos h_26] at hR
      refine G_iload_n hX dX5_told_34 rfl rfl ?_
      by_cases h_35_0 : a1 = (0 : Int32)
      · rw [if_pos h_35_0] at hR
        refine G_lookup (off := 25) (tg := 60) hX dX5_told_35 (by decide) (by rw [h_35_0]; decide) (by decide) ?_
        refine G_aload_n hX dX5_told_60 rfl rfl ?_
        refine G_getr hX dX5_told_61 gt_RX5_29 rfl ?_
        refine G_fVi hX dX5_told_64 lv_RX5_149 (sp_X3_acts Γ ρ d z_20 g_20) (by omega) nr_is_7 rfl rfl (Nat.le_of_ble_eq_true rfl) rfl ?_
        exact G_iret hX rfl dX5_told_67 rfl hR.symm
      · rw [if_neg h_35_0] at hR
        by_cases h_35_1 : a1 = (1 : Int32)
        · rw [if_pos h_35_1] at hR
          refine G_lookup (off := 33) (tg := 68) hX dX5_told_35 (by decide) (by rw [h_35_1]; decide) (by decide) ?_
          refine G_aload_n hX dX5_told_68 rfl rfl ?_
          refine G_getr hX dX5_told_69 gt_RX5_29 rfl ?_
          refine G_fVi hX dX5_told_72 lv_RX5_152 (sp_X3_deepest Γ ρ d z_20 g_20) (by omega) nr_is_7 rfl rfl (Nat.le_of_ble_eq_true rfl) rfl ?_
          exact G_iret hX rfl dX5_told_75 rfl hR.symm
        · rw [if_neg h_35_1] at hR
          refine G_lookup (off := 41) (tg := 76) hX dX5_told_35 (by decide) (by show Op.lookupswitch.offset [(0, 25), (1, 33)] (41) (a1).toInt = 41; rw [lv_osw (a := 0) h_35_0 (by decide), lv_osw (a := 1) h_35_1 (by decide)]; rfl) (by decide) ?_
          refine G_aload_n hX dX5_told_76 rfl rfl ?_
          refine G_getr hX dX5_told_77 gt_RX5_29 rfl ?_
          refine G_fVi hX dX5_told_80 lv_RX5_155 (sp_X3_roomBits Γ ρ d z_20 g_20) (by omega) nr_is_7 rfl rfl (Nat.le_of_ble_eq_true rfl) rfl ?_
          exact G_iret hX rfl dX5_told_83 rfl hR.symm
    · rw [if_neg h_26] at hR
      refine G_bipush (v := (-10 : Int32)) hX dX5_told_29 (by decide) rfl ?_
      refine G_iload_n hX dX5_told_31 rfl rfl ?_
      refine G_isub hX dX5_told_32 rfl ?_
      exact G_iret hX rfl dX5_told_33 rfl hR.symm
  · rw [if_pos h_6] at hR
    replace hok := hok.1 h_6
    refine G_aload_n hX dX5_told_9 rfl rfl ?_
    refine G_bipush (v := (-2 : Int32)) hX dX5_told_10 (by decide) rfl ?_
    refine G_cVi hX dX5_told_12 lv_RX5_68 (sp_X5_refuse Γ ρ d (-2 : Int32) z g) (by omega) nr_is_0 rfl rfl (Nat.le_of_ble_eq_true rfl) rfl (fun r_12 u_12 e_12 => ?_)
    obtain ⟨z_12, g_12⟩ := u_12
    rw [e_12, nr_K_mk] at hR
    exact G_iret hX rfl dX5_told_15 rfl hR.symm
def T_X5_draw (a1 : Int32) (z : Nat → Int32) (g : Nat → Nat → Int32) : Int32 × nr_S := (if (R_X5_within a1 (0 : Int32) (999999 : Int32)) = 0 then (nr_K (T_X5_refuse (-2 : Int32) z g) (fun r_13 z_13 g_13 => (r_13, z_13, g_13))) else (nr_K (T_X1_keep z g) (fun r_25 z_25 g_25 => (nr_K (T_X0_drawFrom 1 a1 z_25 g_25) (fun r_33 z_33 g_33 => ((0 : Int32), z_33, g_33))))))
def O_X5_draw (a1 : Int32) (z : Nat → Int32) (g : Nat → Nat → Int32) : Prop := (((R_X5_within a1 (0 : Int32) (999999 : Int32)) = 0 → True) ∧ (¬ ((R_X5_within a1 (0 : Int32) (999999 : Int32)) = 0) → ((O_X1_keep z g ∧ nr_KP (T_X1_keep z g) (fun r_25 z_25 g_25 => ((O_X0_drawFrom 1 a1 z_25 g_25 ∧ True)))))))
set_option maxHeartbeats 4000000 in
set_option maxRecDepth 100000 in
theorem sp_X5_draw (Γ : nr_M) (ρ : Nat → Nat) (d : Nat) (a1 : Int32) (z : Nat → Int32) (g : Nat → Nat → Int32) (hok : O_X5_draw a1 z g) : nr_Si Γ ρ (d + 2) yX5_draw cX5_draw 2 (some .int) [.ref (ρ 0), .int a1] z g (fun x u => (T_X5_draw a1 z g) = (x, u)) := by
  refine nr_body_i (lv := [(0, .ref (ρ 0)), (1, .int a1)]) (by decide +kernel) (Nat.le_of_ble_eq_true rfl) rfl (fun X hX => ?_)
  generalize hR : (T_X5_draw a1 z g) = R0
  rw [T_X5_draw] at hR
  rw [O_X5_draw] at hok
  refine G_iload_n hX dX5_draw_0 rfl rfl ?_
  refine G_iconst (v := (0 : Int32)) hX dX5_draw_1 (by decide) rfl ?_
  refine G_ldc (v := (999999 : Int32)) hX dX5_draw_2 wk_RX5_158 rfl ?_
  refine G_fSi hX dX5_draw_4 ls_RX5_56 (sp_X5_within Γ ρ d a1 (0 : Int32) (999999 : Int32) z g) (by omega) rfl rfl (Nat.le_of_ble_eq_true rfl) rfl ?_
  refine G_if_ne (tg := 17) hX dX5_draw_7 (by decide) rfl (fun (h_7 : ¬ ((R_X5_within a1 (0 : Int32) (999999 : Int32)) = 0)) => ?_) (fun (h_7 : (R_X5_within a1 (0 : Int32) (999999 : Int32)) = 0) => ?_)
  · rw [if_neg h_7] at hR
    replace hok := hok.2 h_7
    refine G_aload_n hX dX5_draw_17 rfl rfl ?_
    refine G_getr hX dX5_draw_18 gt_RX5_22 rfl ?_
    refine G_aload_n hX dX5_draw_21 rfl rfl ?_
    refine G_getr hX dX5_draw_22 gt_RX5_12 rfl ?_
    obtain ⟨ho_25, hok⟩ := hok
    refine G_cVv hX dX5_draw_25 lv_RX5_76 (sp_X1_keep Γ ρ d z g ho_25) (by omega) nr_is_5 rfl rfl (Nat.le_of_ble_eq_true rfl) rfl (fun u_25 e_25 => ?_)
    obtain ⟨z_25, g_25⟩ := u_25
    rw [e_25, nr_K_mk] at hR
    rw [e_25, nr_KP_mk] at hok
    refine G_aload_n hX dX5_draw_28 rfl rfl ?_
    refine G_getr hX dX5_draw_29 gt_RX5_12 rfl ?_
    refine G_iload_n hX dX5_draw_32 rfl rfl ?_
    obtain ⟨ho_33, hok⟩ := hok
    refine G_cVv hX dX5_draw_33 lv_RX5_159 (sp_X0_drawFrom Γ ρ d 1 a1 (Or.inl rfl) z_25 g_25 ho_33) (by omega) (nr_is_ho (Or.inl rfl)) rfl rfl (Nat.le_of_ble_eq_true rfl) rfl (fun u_33 e_33 => ?_)
    obtain ⟨z_33, g_33⟩ := u_33
    rw [e_33, nr_K_mk] at hR
    refine G_iconst (v := (0 : Int32)) hX dX5_draw_36 (by decide) rfl ?_
    exact G_iret hX rfl dX5_draw_37 rfl hR.symm
  · rw [if_pos h_7] at hR
    replace hok := hok.1 h_7
    refine G_aload_n hX dX5_draw_10 rfl rfl ?_
    refine G_bipush (v := (-2 : Int32)) hX dX5_draw_11 (by decide) rfl ?_
    refine G_cVi hX dX5_draw_13 lv_RX5_68 (sp_X5_refuse Γ ρ d (-2 : Int32) z g) (by omega) nr_is_0 rfl rfl (Nat.le_of_ble_eq_true rfl) rfl (fun r_13 u_13 e_13 => ?_)
    obtain ⟨z_13, g_13⟩ := u_13
    rw [e_13, nr_K_mk] at hR
    exact G_iret hX rfl dX5_draw_16 rfl hR.symm
def T_X5_back  (z : Nat → Int32) (g : Nat → Nat → Int32) : Int32 × nr_S := (if (R_X1_held z g) = 0 then (nr_K (T_X5_refuse (-3 : Int32) z g) (fun r_13 z_13 g_13 => (r_13, z_13, g_13))) else (nr_K (T_X1_giveBack z g) (fun r_25 z_25 g_25 => ((R_X1_held z_25 g_25), z_25, g_25))))
def O_X5_back  (z : Nat → Int32) (g : Nat → Nat → Int32) : Prop := (((R_X1_held z g) = 0 → True) ∧ (¬ ((R_X1_held z g) = 0) → ((O_X1_giveBack z g ∧ True))))
set_option maxHeartbeats 4000000 in
set_option maxRecDepth 100000 in
theorem sp_X5_back (Γ : nr_M) (ρ : Nat → Nat) (d : Nat) (z : Nat → Int32) (g : Nat → Nat → Int32) (hok : O_X5_back z g) : nr_Si Γ ρ (d + 2) yX5_back cX5_back 1 (some .int) [.ref (ρ 0)] z g (fun x u => (T_X5_back z g) = (x, u)) := by
  refine nr_body_i (lv := [(0, .ref (ρ 0))]) (by decide +kernel) (Nat.le_of_ble_eq_true rfl) rfl (fun X hX => ?_)
  generalize hR : (T_X5_back z g) = R0
  rw [T_X5_back] at hR
  rw [O_X5_back] at hok
  refine G_aload_n hX dX5_back_0 rfl rfl ?_
  refine G_getr hX dX5_back_1 gt_RX5_22 rfl ?_
  refine G_fVi hX dX5_back_4 lv_RX5_162 (sp_X1_held Γ ρ d z g) (by omega) nr_is_5 rfl rfl (Nat.le_of_ble_eq_true rfl) rfl ?_
  refine G_if_ne (tg := 17) hX dX5_back_7 (by decide) rfl (fun (h_7 : ¬ ((R_X1_held z g) = 0)) => ?_) (fun (h_7 : (R_X1_held z g) = 0) => ?_)
  · rw [if_neg h_7] at hR
    replace hok := hok.2 h_7
    refine G_aload_n hX dX5_back_17 rfl rfl ?_
    refine G_getr hX dX5_back_18 gt_RX5_22 rfl ?_
    refine G_aload_n hX dX5_back_21 rfl rfl ?_
    refine G_getr hX dX5_back_22 gt_RX5_12 rfl ?_
    obtain ⟨ho_25, hok⟩ := hok
    refine G_cVv hX dX5_back_25 lv_RX5_165 (sp_X1_giveBack Γ ρ d z g ho_25) (by omega) nr_is_5 rfl rfl (Nat.le_of_ble_eq_true rfl) rfl (fun u_25 e_25 => ?_)
    obtain ⟨z_25, g_25⟩ := u_25
    rw [e_25, nr_K_mk] at hR
    refine G_aload_n hX dX5_back_28 rfl rfl ?_
    refine G_getr hX dX5_back_29 gt_RX5_22 rfl ?_
    refine G_fVi hX dX5_back_32 lv_RX5_162 (sp_X1_held Γ ρ d z_25 g_25) (by omega) nr_is_5 rfl rfl (Nat.le_of_ble_eq_true rfl) rfl ?_
    exact G_iret hX rfl dX5_back_35 rfl hR.symm
  · rw [if_pos h_7] at hR
    replace hok := hok.1 h_7
    refine G_aload_n hX dX5_back_10 rfl rfl ?_
    refine G_bipush (v := (-3 : Int32)) hX dX5_back_11 (by decide) rfl ?_
    refine G_cVi hX dX5_back_13 lv_RX5_68 (sp_X5_refuse Γ ρ d (-3 : Int32) z g) (by omega) nr_is_0 rfl rfl (Nat.le_of_ble_eq_true rfl) rfl (fun r_13 u_13 e_13 => ?_)
    obtain ⟨z_13, g_13⟩ := u_13
    rw [e_13, nr_K_mk] at hR
    exact G_iret hX rfl dX5_back_16 rfl hR.symm
def T_X5_count (a1 : Int32) (z : Nat → Int32) (g : Nat → Nat → Int32) : Int32 × nr_S := (if a1 = (0 : Int32) then ((z 0), z, g) else (if a1 = (1 : Int32) then ((z 1), z, g) else (if a1 = (2 : Int32) then ((z 2), z, g) else (if a1 = (3 : Int32) then ((R_X3_length z g), z, g) else (if a1 = (4 : Int32) then ((R_X1_held z g), z, g) else (if a1 = (5 : Int32) then ((R_X0_keyring 1 z g), z, g) else (if a1 = (6 : Int32) then ((R_X0_sum 1 z g), z, g) else (if a1 = (7 : Int32) then ((R_X0_roomsWith 1 (4 : Int32) z g), z, g) else (if a1 = (8 : Int32) then ((R_X0_roomsWith 1 (5 : Int32) z g), z, g) else (nr_K (T_X5_refuse (-2 : Int32) z g) (fun r_120 z_120 g_120 => (r_120, z_120, g_120))))))))))))
def O_X5_count (a1 : Int32) (z : Nat → Int32) (g : Nat → Nat → Int32) : Prop := ((a1 = (0 : Int32) → True) ∧ (¬ (a1 = (0 : Int32)) → ((a1 = (1 : Int32) → True) ∧ (¬ (a1 = (1 : Int32)) → ((a1 = (2 : Int32) → True) ∧ (¬ (a1 = (2 : Int32)) → ((a1 = (3 : Int32) → True) ∧ (¬ (a1 = (3 : Int32)) → ((a1 = (4 : Int32) → True) ∧ (¬ (a1 = (4 : Int32)) → ((a1 = (5 : Int32) → True) ∧ (¬ (a1 = (5 : Int32)) → ((a1 = (6 : Int32) → True) ∧ (¬ (a1 = (6 : Int32)) → ((a1 = (7 : Int32) → (O_X0_roomsWith 1 (4 : Int32) z g ∧ True)) ∧ (¬ (a1 = (7 : Int32)) → ((a1 = (8 : Int32) → (O_X0_roomsWith 1 (5 : Int32) z g ∧ True)) ∧ (¬ (a1 = (8 : Int32)) → True))))))))))))))))))
set_option maxHeartbeats 4000000 in
set_option maxRecDepth 100000 in
theorem sp_X5_count (Γ : nr_M) (ρ : Nat → Nat) (d : Nat) (a1 : Int32) (z : Nat → Int32) (g : Nat → Nat → Int32) (hok : O_X5_count a1 z g) : nr_Si Γ ρ (d + 2) yX5_count cX5_count 2 (some .int) [.ref (ρ 0), .int a1] z g (fun x u => (T_X5_count a1 z g) = (x, u)) := by
  refine nr_body_i (lv := [(0, .ref (ρ 0)), (1, .int a1)]) (by decide +kernel) (Nat.le_of_ble_eq_true rfl) rfl (fun X hX => ?_)
  generalize hR : (T_X5_count a1 z g) = R0
  rw [T_X5_count] at hR
  rw [O_X5_count] at hok
  refine G_iload_n hX dX5_count_0 rfl rfl ?_
  by_cases h_1_0 : a1 = (0 : Int32)
  · rw [if_pos h_1_0] at hR
    replace hok := hok.1 h_1_0
    refine G_tabIn (off := 51) (tg := 52) hX dX5_count_1 (by rw [h_1_0]; decide) (by rw [h_1_0]; decide) (by rw [h_1_0]; decide) (by decide) ?_
    refine G_aload_n hX dX5_count_52 rfl rfl ?_
    refine G_geti hX dX5_count_53 gt_RX5_168 rfl ?_
    exact G_iret hX rfl dX5_count_56 rfl hR.symm
  · rw [if_neg h_1_0] at hR
    replace hok := hok.2 h_1_0
    by_cases h_1_1 : a1 = (1 : Int32)
    · rw [if_pos h_1_1] at hR
      replace hok := hok.1 h_1_1
      refine G_tabIn (off := 56) (tg := 57) hX dX5_count_1 (by rw [h_1_1]; decide) (by rw [h_1_1]; decide) (by rw [h_1_1]; decide) (by decide) ?_
      refine G_aload_n hX dX5_count_57 rfl rfl ?_
      refine G_geti hX dX5_count_58 gt_RX5_172 rfl ?_
      exact G_iret hX rfl dX5_count_61 rfl hR.symm
    · rw [if_neg h_1_1] at hR
      replace hok := hok.2 h_1_1
      by_cases h_1_2 : a1 = (2 : Int32)
      · rw [if_pos h_1_2] at hR
        replace hok := hok.1 h_1_2
        refine G_tabIn (off := 61) (tg := 62) hX dX5_count_1 (by rw [h_1_2]; decide) (by rw [h_1_2]; decide) (by rw [h_1_2]; decide) (by decide) ?_
        refine G_aload_n hX dX5_count_62 rfl rfl ?_
        refine G_geti hX dX5_count_63 gt_RX5_175 rfl ?_
        exact G_iret hX rfl dX5_count_66 rfl hR.symm
      · rw [if_neg h_1_2] at hR
        replace hok := hok.2 h_1_2
        by_cases h_1_3 : a1 = (3 : Int32)
        · rw [if_pos h_1_3] at hR
          replace hok := hok.1 h_1_3
          refine G_tabIn (off := 66) (tg := 67) hX dX5_count_1 (by rw [h_1_3]; decide) (by rw [h_1_3]; decide) (by rw [h_1_3]; decide) (by decide) ?_
          refine G_aload_n hX dX5_count_67 rfl rfl ?_
          refine G_getr hX dX5_count_68 gt_RX5_29 rfl ?_
          refine G_fVi hX dX5_count_71 lv_RX5_101 (sp_X3_length Γ ρ d z g) (by omega) nr_is_7 rfl rfl (Nat.le_of_ble_eq_true rfl) rfl ?_
          exact G_iret hX rfl dX5_count_74 rfl hR.symm
        · rw [if_neg h_1_3] at hR
          replace hok := hok.2 h_1_3
          by_cases h_1_4 : a1 = (4 : Int32)
          · rw [if_pos h_1_4] at hR
            replace hok := hok.1 h_1_4
            refine G_tabIn (off := 74) (tg := 75) hX dX5_count_1 (by rw [h_1_4]; decide) (by rw [h_1_4]; decide) (by rw [h_1_4]; decide) (by decide) ?_
            refine G_aload_n hX dX5_count_75 rfl rfl ?_
            refine G_getr hX dX5_count_76 gt_RX5_22 rfl ?_
            refine G_fVi hX dX5_count_79 lv_RX5_162 (sp_X1_held Γ ρ d z g) (by omega) nr_is_5 rfl rfl (Nat.le_of_ble_eq_true rfl) rfl ?_
            exact G_iret hX rfl dX5_count_82 rfl hR.symm
          · rw [if_neg h_1_4] at hR
            replace hok := hok.2 h_1_4
            by_cases h_1_5 : a1 = (5 : Int32)
            · rw [if_pos h_1_5] at hR
              replace hok := hok.1 h_1_5
              refine G_tabIn (off := 82) (tg := 83) hX dX5_count_1 (by rw [h_1_5]; decide) (by rw [h_1_5]; decide) (by rw [h_1_5]; decide) (by decide) ?_
              refine G_aload_n hX dX5_count_83 rfl rfl ?_
              refine G_getr hX dX5_count_84 gt_RX5_12 rfl ?_
              refine G_fVi hX dX5_count_87 lv_RX5_87 (sp_X0_keyring Γ ρ d 1 (Or.inl rfl) z g) (by omega) (nr_is_ho (Or.inl rfl)) rfl rfl (Nat.le_of_ble_eq_true rfl) rfl ?_
              exact G_iret hX rfl dX5_count_90 rfl hR.symm
            · rw [if_neg h_1_5] at hR
              replace hok := hok.2 h_1_5
              by_cases h_1_6 : a1 = (6 : Int32)
              · rw [if_pos h_1_6] at hR
                replace hok := hok.1 h_1_6
                refine G_tabIn (off := 90) (tg := 91) hX dX5_count_1 (by rw [h_1_6]; decide) (by rw [h_1_6]; decide) (by rw [h_1_6]; decide) (by decide) ?_
                refine G_aload_n hX dX5_count_91 rfl rfl ?_
                refine G_getr hX dX5_count_92 gt_RX5_12 rfl ?_
                refine G_fVi hX dX5_count_95 lv_RX5_178 (sp_X0_sum Γ ρ d 1 (Or.inl rfl) z g) (by omega) (nr_is_ho (Or.inl rfl)) rfl rfl (Nat.le_of_ble_eq_true rfl) rfl ?_
                exact G_iret hX rfl dX5_count_98 rfl hR.symm
              · rw [if_neg h_1_6] at hR
                replace hok := hok.2 h_1_6
                by_cases h_1_7 : a1 = (7 : Int32)
                · rw [if_pos h_1_7] at hR
                  replace hok := hok.1 h_1_7
                  refine G_tabIn (off := 98) (tg := 99) hX dX5_count_1 (by rw [h_1_7]; decide) (by rw [h_1_7]; decide) (by rw [h_1_7]; decide) (by decide) ?_
                  refine G_aload_n hX dX5_count_99 rfl rfl ?_
                  refine G_getr hX dX5_count_100 gt_RX5_12 rfl ?_
                  refine G_iconst (v := (4 : Int32)) hX dX5_count_103 (by decide) rfl ?_
                  obtain ⟨ho_104, hok⟩ := hok
                  refine G_fVi hX dX5_count_104 lv_RX5_95 (sp_X0_roomsWith Γ ρ d 1 (4 : Int32) (Or.inl rfl) z g ho_104) (by omega) (nr_is_ho (Or.inl rfl)) rfl rfl (Nat.le_of_ble_eq_true rfl) rfl ?_
                  exact G_iret hX rfl dX5_count_107 rfl hR.symm
                · rw [if_neg h_1_7] at hR
                  replace hok := hok.2 h_1_7
                  by_cases h_1_8 : a1 = (8 : Int32)
                  · rw [if_pos h_1_8] at hR
                    replace hok := hok.1 h_1_8
                    refine G_tabIn (off := 107) (tg := 108) hX dX5_count_1 (by rw [h_1_8]; decide) (by rw [h_1_8]; decide) (by rw [h_1_8]; decide) (by decide) ?_
                    refine G_aload_n hX dX5_count_108 rfl rfl ?_
                    refine G_getr hX dX5_count_109 gt_RX5_12 rfl ?_
                    refine G_iconst (v := (5 : Int32)) hX dX5_count_112 (by decide) rfl ?_
                    obtain ⟨ho_113, hok⟩ := hok
                    refine G_fVi hX dX5_count_113 lv_RX5_95 (sp_X0_roomsWith Γ ρ d 1 (5 : Int32) (Or.inl rfl) z g ho_113) (by omega) (nr_is_ho (Or.inl rfl)) rfl rfl (Nat.le_of_ble_eq_true rfl) rfl ?_
                    exact G_iret hX rfl dX5_count_116 rfl hR.symm
                  · rw [if_neg h_1_8] at hR
                    replace hok := hok.2 h_1_8
                    refine G_tabOut (tg := 117) hX dX5_count_1 (by have q0 := lv_neT (a := 0) h_1_0 (by decide); have q1 := lv_neT (a := 1) h_1_1 (by decide); have q2 := lv_neT (a := 2) h_1_2 (by decide); have q3 := lv_neT (a := 3) h_1_3 (by decide); have q4 := lv_neT (a := 4) h_1_4 (by decide); have q5 := lv_neT (a := 5) h_1_5 (by decide); have q6 := lv_neT (a := 6) h_1_6 (by decide); have q7 := lv_neT (a := 7) h_1_7 (by decide); have q8 := lv_neT (a := 8) h_1_8 (by decide); omega) (by decide) ?_
                    refine G_aload_n hX dX5_count_117 rfl rfl ?_
                    refine G_bipush (v := (-2 : Int32)) hX dX5_count_118 (by decide) rfl ?_
                    refine G_cVi hX dX5_count_120 lv_RX5_68 (sp_X5_refuse Γ ρ d (-2 : Int32) z g) (by omega) nr_is_0 rfl rfl (Nat.le_of_ble_eq_true rfl) rfl (fun r_120 u_120 e_120 => ?_)
                    obtain ⟨z_120, g_120⟩ := u_120
                    rw [e_120, nr_K_mk] at hR
                    exact G_iret hX rfl dX5_count_123 rfl hR.symm
def T_X5_digest_129  : Nat → Int64 → Int32 → Int32 → (Nat → Int32) → (Nat → Nat → Int32) → Int64 × nr_S
  | 0, _, _, _, z, g => (0, z, g)
  | n + 1, a1, a3, a4, z, g => (if a3 ≤ a4 then (a1, z, g) else (T_X5_digest_129 n (((31 : Int64) * a1) + ((R_X4_entry 13 a4 z g)).toInt64) a3 (a4 + (1 : Int32)) z g))
def O_X5_digest_129  : Nat → Int64 → Int32 → Int32 → (Nat → Int32) → (Nat → Nat → Int32) → Prop
  | 0, _, _, _, _, _ => False
  | n + 1, a1, a3, a4, z, g => ((a3 ≤ a4 → True) ∧ (¬ (a3 ≤ a4) → (O_X4_entry 13 a4 z g ∧ (O_X5_digest_129 n (((31 : Int64) * a1) + ((R_X4_entry 13 a4 z g)).toInt64) a3 (a4 + (1 : Int32)) z g))))
set_option maxHeartbeats 4000000 in
set_option maxRecDepth 100000 in
theorem sp_X5_digest_129 (Γ : nr_M) (ρ : Nat → Nat) (d : Nat) (X : nr_CX) (hX : nr_Cx Γ ρ X yX5_digest cX5_digest 5 (some .long) (d + 3)) : ∀ (n : Nat) (a1 : Int64) (a3 : Int32) (a4 : Int32) (z : Nat → Int32) (g : Nat → Nat → Int32) (R0 : Int64 × nr_S) (_ : T_X5_digest_129 n a1 a3 a4 z g = R0) (_ : O_X5_digest_129 n a1 a3 a4 z g), nr_G Γ ρ X 5 (nr_Ql Γ ρ X (fun x u => R0 = (x, u))) 129 [(0, .ref (ρ 0)), (1, .long a1), (3, .int a3), (4, .int a4)] [] z g := by
  intro n
  induction n with
  | zero => intro a1 a3 a4 z g R0 hR hok; exact False.elim hok
  | succ n ih =>
    intro a1 a3 a4 z g R0 hR hok
    rw [T_X5_digest_129] at hR
    rw [O_X5_digest_129] at hok
    refine G_iload hX dX5_digest_129 rfl rfl ?_
    refine G_iload_n hX dX5_digest_131 rfl rfl ?_
    refine G_icmp_ge (tg := 158) hX dX5_digest_132 (by decide) rfl (fun (h_132 : a3 ≤ a4) => ?_) (fun (h_132 : ¬ (a3 ≤ a4)) => ?_)
    · rw [if_pos h_132] at hR
      replace hok := hok.1 h_132
      refine G_lload_n hX dX5_digest_158 rfl rfl ?_
      exact G_lret hX dX5_digest_159 hR.symm
    · rw [if_neg h_132] at hR
      replace hok := hok.2 h_132
      refine G_ldc2 (v := (31 : Int64)) hX dX5_digest_135 wk_RX5_183 rfl ?_
      refine G_lload_n hX dX5_digest_138 rfl rfl ?_
      refine G_lmul hX dX5_digest_139 rfl ?_
      refine G_aload_n hX dX5_digest_140 rfl rfl ?_
      refine G_getr hX dX5_digest_141 gt_RX5_36 rfl ?_
      refine G_iload hX dX5_digest_144 rfl rfl ?_
      obtain ⟨ho_146, hok⟩ := hok
      refine G_fVi hX dX5_digest_146 lv_RX5_129 (sp_X4_entry Γ ρ d 13 a4 (Or.inl rfl) z g ho_146) (by omega) (nr_is_ta (Or.inl rfl)) rfl rfl (Nat.le_of_ble_eq_true rfl) rfl ?_
      refine G_i2l hX dX5_digest_149 rfl ?_
      refine G_ladd hX dX5_digest_150 rfl ?_
      refine G_lstore_n hX dX5_digest_151 (by decide) rfl rfl ?_
      refine G_iinc (v := (a4 + (1 : Int32))) hX dX5_digest_152 rfl rfl (by decide) rfl rfl ?_
      refine G_goto (tg := 129) hX dX5_digest_155 (by decide) ?_
      exact nr_sub (by exact ⟨rfl, rfl, rfl, rfl, trivial⟩) (ih (((31 : Int64) * a1) + ((R_X4_entry 13 a4 z g)).toInt64) a3 (a4 + (1 : Int32)) z g R0 hR hok)
def T_X5_digest_81  : Nat → Int64 → Int32 → (Nat → Int32) → (Nat → Nat → Int32) → Int64 × nr_S
  | 0, _, _, z, g => (0, z, g)
  | n + 1, a1, a3, z, g => (if (7 : Int32) < a3 then (T_X5_digest_129 500 (((31 : Int64) * a1) + ((R_X4_written 13 z g)).toInt64) (R_X4_written 13 z g) (0 : Int32) z g) else (T_X5_digest_81 n (((31 : Int64) * a1) + ((R_X4_fact 13 a3 z g)).toInt64) (a3 + (1 : Int32)) z g))
def O_X5_digest_81  : Nat → Int64 → Int32 → (Nat → Int32) → (Nat → Nat → Int32) → Prop
  | 0, _, _, _, _ => False
  | n + 1, a1, a3, z, g => (((7 : Int32) < a3 → (O_X5_digest_129 500 (((31 : Int64) * a1) + ((R_X4_written 13 z g)).toInt64) (R_X4_written 13 z g) (0 : Int32) z g)) ∧ (¬ ((7 : Int32) < a3) → (O_X4_fact 13 a3 z g ∧ (O_X5_digest_81 n (((31 : Int64) * a1) + ((R_X4_fact 13 a3 z g)).toInt64) (a3 + (1 : Int32)) z g))))
set_option maxHeartbeats 4000000 in
set_option maxRecDepth 100000 in
theorem sp_X5_digest_81 (Γ : nr_M) (ρ : Nat → Nat) (d : Nat) (X : nr_CX) (hX : nr_Cx Γ ρ X yX5_digest cX5_digest 5 (some .long) (d + 3)) : ∀ (n : Nat) (a1 : Int64) (a3 : Int32) (z : Nat → Int32) (g : Nat → Nat → Int32) (R0 : Int64 × nr_S) (_ : T_X5_digest_81 n a1 a3 z g = R0) (_ : O_X5_digest_81 n a1 a3 z g), nr_G Γ ρ X 5 (nr_Ql Γ ρ X (fun x u => R0 = (x, u))) 81 [(0, .ref (ρ 0)), (1, .long a1), (3, .int a3)] [] z g := by
  intro n
  induction n with
  | zero => intro a1 a3 z g R0 hR hok; exact False.elim hok
  | succ n ih =>
    intro a1 a3 z g R0 hR hok
    rw [T_X5_digest_81] at hR
    rw [O_X5_digest_81] at hok
    refine G_iload_n hX dX5_digest_81 rfl rfl ?_
    refine G_bipush (v := (7 : Int32)) hX dX5_digest_82 (by decide) rfl ?_
    refine G_icmp_gt (tg := 109) hX dX5_digest_84 (by decide) rfl (fun (h_84 : (7 : Int32) < a3) => ?_) (fun (h_84 : ¬ ((7 : Int32) < a3)) => ?_)
    · rw [if_pos h_84] at hR
      replace hok := hok.1 h_84
      refine G_aload_n hX dX5_digest_109 rfl rfl ?_
      refine G_getr hX dX5_digest_110 gt_RX5_36 rfl ?_
      refine G_fVi hX dX5_digest_113 lv_RX5_126 (sp_X4_written Γ ρ d 13 (Or.inl rfl) z g) (by omega) (nr_is_ta (Or.inl rfl)) rfl rfl (Nat.le_of_ble_eq_true rfl) rfl ?_
      refine G_istore_n hX dX5_digest_116 (by decide) rfl rfl ?_
      refine G_ldc2 (v := (31 : Int64)) hX dX5_digest_117 wk_RX5_183 rfl ?_
      refine G_lload_n hX dX5_digest_120 rfl rfl ?_
      refine G_lmul hX dX5_digest_121 rfl ?_
      refine G_iload_n hX dX5_digest_122 rfl rfl ?_
      refine G_i2l hX dX5_digest_123 rfl ?_
      refine G_ladd hX dX5_digest_124 rfl ?_
      refine G_lstore_n hX dX5_digest_125 (by decide) rfl rfl ?_
      refine G_iconst (v := (0 : Int32)) hX dX5_digest_126 (by decide) rfl ?_
      refine G_istore hX dX5_digest_127 (by decide) rfl rfl ?_
      exact nr_sub (by exact ⟨rfl, rfl, rfl, rfl, trivial⟩) (sp_X5_digest_129 Γ ρ d X hX 500 (((31 : Int64) * a1) + ((R_X4_written 13 z g)).toInt64) (R_X4_written 13 z g) (0 : Int32) z g R0 hR hok)
    · rw [if_neg h_84] at hR
      replace hok := hok.2 h_84
      refine G_ldc2 (v := (31 : Int64)) hX dX5_digest_87 wk_RX5_183 rfl ?_
      refine G_lload_n hX dX5_digest_90 rfl rfl ?_
      refine G_lmul hX dX5_digest_91 rfl ?_
      refine G_aload_n hX dX5_digest_92 rfl rfl ?_
      refine G_getr hX dX5_digest_93 gt_RX5_36 rfl ?_
      refine G_iload_n hX dX5_digest_96 rfl rfl ?_
      obtain ⟨ho_97, hok⟩ := hok
      refine G_fVi hX dX5_digest_97 lv_RX5_120 (sp_X4_fact Γ ρ d 13 a3 (Or.inl rfl) z g ho_97) (by omega) (nr_is_ta (Or.inl rfl)) rfl rfl (Nat.le_of_ble_eq_true rfl) rfl ?_
      refine G_i2l hX dX5_digest_100 rfl ?_
      refine G_ladd hX dX5_digest_101 rfl ?_
      refine G_lstore_n hX dX5_digest_102 (by decide) rfl rfl ?_
      refine G_iinc (v := (a3 + (1 : Int32))) hX dX5_digest_103 rfl rfl (by decide) rfl rfl ?_
      refine G_goto (tg := 81) hX dX5_digest_106 (by decide) ?_
      exact nr_sub (by exact ⟨rfl, rfl, rfl, trivial⟩) (ih (((31 : Int64) * a1) + ((R_X4_fact 13 a3 z g)).toInt64) (a3 + (1 : Int32)) z g R0 hR hok)
def T_X5_digest_42 (kT_33 : Int64 → Int32 → (Nat → Int32) → (Nat → Nat → Int32) → Int64 × nr_S) : Nat → Int64 → Int32 → Int32 → (Nat → Int32) → (Nat → Nat → Int32) → Int64 × nr_S
  | 0, _, _, _, z, g => (0, z, g)
  | n + 1, a1, a3, a4, z, g => (if (6 : Int32) < a4 then (kT_33 a1 (a3 + (1 : Int32)) z g) else (T_X5_digest_42 kT_33 n (((31 : Int64) * a1) + ((R_X0_cell 1 a3 a4 z g)).toInt64) a3 (a4 + (1 : Int32)) z g))
def O_X5_digest_42 (kT_33 : Int64 → Int32 → (Nat → Int32) → (Nat → Nat → Int32) → Int64 × nr_S) (kO_33 : Int64 → Int32 → (Nat → Int32) → (Nat → Nat → Int32) → Prop) : Nat → Int64 → Int32 → Int32 → (Nat → Int32) → (Nat → Nat → Int32) → Prop
  | 0, _, _, _, _, _ => False
  | n + 1, a1, a3, a4, z, g => (((6 : Int32) < a4 → (kO_33 a1 (a3 + (1 : Int32)) z g)) ∧ (¬ ((6 : Int32) < a4) → (O_X0_cell 1 a3 a4 z g ∧ (O_X5_digest_42 kT_33 kO_33 n (((31 : Int64) * a1) + ((R_X0_cell 1 a3 a4 z g)).toInt64) a3 (a4 + (1 : Int32)) z g))))
set_option maxHeartbeats 4000000 in
set_option maxRecDepth 100000 in
theorem sp_X5_digest_42 (Γ : nr_M) (ρ : Nat → Nat) (d : Nat) (kT_33 : Int64 → Int32 → (Nat → Int32) → (Nat → Nat → Int32) → Int64 × nr_S) (kO_33 : Int64 → Int32 → (Nat → Int32) → (Nat → Nat → Int32) → Prop) (X : nr_CX) (hX : nr_Cx Γ ρ X yX5_digest cX5_digest 5 (some .long) (d + 3)) (hk_33 : ∀ (a1 : Int64) (a3 : Int32) (z : Nat → Int32) (g : Nat → Nat → Int32) (R0 : Int64 × nr_S) (_ : kT_33 a1 a3 z g = R0) (_ : kO_33 a1 a3 z g), nr_G Γ ρ X 5 (nr_Ql Γ ρ X (fun x u => R0 = (x, u))) 33 [(0, .ref (ρ 0)), (1, .long a1), (3, .int a3)] [] z g) : ∀ (n : Nat) (a1 : Int64) (a3 : Int32) (a4 : Int32) (z : Nat → Int32) (g : Nat → Nat → Int32) (R0 : Int64 × nr_S) (_ : T_X5_digest_42 kT_33 n a1 a3 a4 z g = R0) (_ : O_X5_digest_42 kT_33 kO_33 n a1 a3 a4 z g), nr_G Γ ρ X 5 (nr_Ql Γ ρ X (fun x u => R0 = (x, u))) 42 [(0, .ref (ρ 0)), (1, .long a1), (3, .int a3), (4, .int a4)] [] z g := by
  intro n
  induction n with
  | zero => intro a1 a3 a4 z g R0 hR hok; exact False.elim hok
  | succ n ih =>
    intro a1 a3 a4 z g R0 hR hok
    rw [T_X5_digest_42] at hR
    rw [O_X5_digest_42] at hok
    refine G_iload hX dX5_digest_42 rfl rfl ?_
    refine G_bipush (v := (6 : Int32)) hX dX5_digest_44 (by decide) rfl ?_
    refine G_icmp_gt (tg := 73) hX dX5_digest_46 (by decide) rfl (fun (h_46 : (6 : Int32) < a4) => ?_) (fun (h_46 : ¬ ((6 : Int32) < a4)) => ?_)
    · rw [if_pos h_46] at hR
      replace hok := hok.1 h_46
      refine G_iinc (v := (a3 + (1 : Int32))) hX dX5_digest_73 rfl rfl (by decide) rfl rfl ?_
      refine G_goto (tg := 33) hX dX5_digest_76 (by decide) ?_
      exact nr_sub (by exact ⟨rfl, rfl, rfl, trivial⟩) (hk_33 a1 (a3 + (1 : Int32)) z g R0 hR hok)
    · rw [if_neg h_46] at hR
      replace hok := hok.2 h_46
      refine G_ldc2 (v := (31 : Int64)) hX dX5_digest_49 wk_RX5_183 rfl ?_
      refine G_lload_n hX dX5_digest_52 rfl rfl ?_
      refine G_lmul hX dX5_digest_53 rfl ?_
      refine G_aload_n hX dX5_digest_54 rfl rfl ?_
      refine G_getr hX dX5_digest_55 gt_RX5_12 rfl ?_
      refine G_iload_n hX dX5_digest_58 rfl rfl ?_
      refine G_iload hX dX5_digest_59 rfl rfl ?_
      obtain ⟨ho_61, hok⟩ := hok
      refine G_fVi hX dX5_digest_61 lv_RX5_72 (sp_X0_cell Γ ρ d 1 a3 a4 (Or.inl rfl) z g ho_61) (by omega) (nr_is_ho (Or.inl rfl)) rfl rfl (Nat.le_of_ble_eq_true rfl) rfl ?_
      refine G_i2l hX dX5_digest_64 rfl ?_
      refine G_ladd hX dX5_digest_65 rfl ?_
      refine G_lstore_n hX dX5_digest_66 (by decide) rfl rfl ?_
      refine G_iinc (v := (a4 + (1 : Int32))) hX dX5_digest_67 rfl rfl (by decide) rfl rfl ?_
      refine G_goto (tg := 42) hX dX5_digest_70 (by decide) ?_
      exact nr_sub (by exact ⟨rfl, rfl, rfl, rfl, trivial⟩) (ih (((31 : Int64) * a1) + ((R_X0_cell 1 a3 a4 z g)).toInt64) a3 (a4 + (1 : Int32)) z g R0 hR hok)
def T_X5_digest_33  : Nat → Int64 → Int32 → (Nat → Int32) → (Nat → Nat → Int32) → Int64 × nr_S
  | 0, _, _, z, g => (0, z, g)
  | n + 1, a1, a3, z, g => (if (8 : Int32) ≤ a3 then (T_X5_digest_81 500 a1 (0 : Int32) z g) else (T_X5_digest_42 (T_X5_digest_33 n) 500 a1 a3 (0 : Int32) z g))
def O_X5_digest_33  : Nat → Int64 → Int32 → (Nat → Int32) → (Nat → Nat → Int32) → Prop
  | 0, _, _, _, _ => False
  | n + 1, a1, a3, z, g => (((8 : Int32) ≤ a3 → (O_X5_digest_81 500 a1 (0 : Int32) z g)) ∧ (¬ ((8 : Int32) ≤ a3) → (O_X5_digest_42 (T_X5_digest_33 n) (O_X5_digest_33 n) 500 a1 a3 (0 : Int32) z g)))
set_option maxHeartbeats 4000000 in
set_option maxRecDepth 100000 in
theorem sp_X5_digest_33 (Γ : nr_M) (ρ : Nat → Nat) (d : Nat) (X : nr_CX) (hX : nr_Cx Γ ρ X yX5_digest cX5_digest 5 (some .long) (d + 3)) : ∀ (n : Nat) (a1 : Int64) (a3 : Int32) (z : Nat → Int32) (g : Nat → Nat → Int32) (R0 : Int64 × nr_S) (_ : T_X5_digest_33 n a1 a3 z g = R0) (_ : O_X5_digest_33 n a1 a3 z g), nr_G Γ ρ X 5 (nr_Ql Γ ρ X (fun x u => R0 = (x, u))) 33 [(0, .ref (ρ 0)), (1, .long a1), (3, .int a3)] [] z g := by
  intro n
  induction n with
  | zero => intro a1 a3 z g R0 hR hok; exact False.elim hok
  | succ n ih =>
    intro a1 a3 z g R0 hR hok
    rw [T_X5_digest_33] at hR
    rw [O_X5_digest_33] at hok
    refine G_iload_n hX dX5_digest_33 rfl rfl ?_
    refine G_bipush (v := (8 : Int32)) hX dX5_digest_34 (by decide) rfl ?_
    refine G_icmp_ge (tg := 79) hX dX5_digest_36 (by decide) rfl (fun (h_36 : (8 : Int32) ≤ a3) => ?_) (fun (h_36 : ¬ ((8 : Int32) ≤ a3)) => ?_)
    · rw [if_pos h_36] at hR
      replace hok := hok.1 h_36
      refine G_iconst (v := (0 : Int32)) hX dX5_digest_79 (by decide) rfl ?_
      refine G_istore_n hX dX5_digest_80 (by decide) rfl rfl ?_
      exact nr_sub (by exact ⟨rfl, rfl, rfl, trivial⟩) (sp_X5_digest_81 Γ ρ d X hX 500 a1 (0 : Int32) z g R0 hR hok)
    · rw [if_neg h_36] at hR
      replace hok := hok.2 h_36
      refine G_iconst (v := (0 : Int32)) hX dX5_digest_39 (by decide) rfl ?_
      refine G_istore hX dX5_digest_40 (by decide) rfl rfl ?_
      exact nr_sub (by exact ⟨rfl, rfl, rfl, rfl, trivial⟩) (sp_X5_digest_42 Γ ρ d (T_X5_digest_33 n) (O_X5_digest_33 n) X hX ih 500 a1 a3 (0 : Int32) z g R0 hR hok)
def T_X5_digest_6  : Nat → Int64 → Int32 → (Nat → Int32) → (Nat → Nat → Int32) → Int64 × nr_S
  | 0, _, _, z, g => (0, z, g)
  | n + 1, a1, a3, z, g => (if (8 : Int32) < a3 then (T_X5_digest_33 500 a1 (0 : Int32) z g) else (nr_K (T_X5_count a3 z g) (fun r_19 z_19 g_19 => (T_X5_digest_6 n (((31 : Int64) * a1) + (r_19).toInt64) (a3 + (1 : Int32)) z_19 g_19))))
def O_X5_digest_6  : Nat → Int64 → Int32 → (Nat → Int32) → (Nat → Nat → Int32) → Prop
  | 0, _, _, _, _ => False
  | n + 1, a1, a3, z, g => (((8 : Int32) < a3 → (O_X5_digest_33 500 a1 (0 : Int32) z g)) ∧ (¬ ((8 : Int32) < a3) → ((O_X5_count a3 z g ∧ nr_KP (T_X5_count a3 z g) (fun r_19 z_19 g_19 => (O_X5_digest_6 n (((31 : Int64) * a1) + (r_19).toInt64) (a3 + (1 : Int32)) z_19 g_19))))))
set_option maxHeartbeats 4000000 in
set_option maxRecDepth 100000 in
theorem sp_X5_digest_6 (Γ : nr_M) (ρ : Nat → Nat) (d : Nat) (X : nr_CX) (hX : nr_Cx Γ ρ X yX5_digest cX5_digest 5 (some .long) (d + 3)) : ∀ (n : Nat) (a1 : Int64) (a3 : Int32) (z : Nat → Int32) (g : Nat → Nat → Int32) (R0 : Int64 × nr_S) (_ : T_X5_digest_6 n a1 a3 z g = R0) (_ : O_X5_digest_6 n a1 a3 z g), nr_G Γ ρ X 5 (nr_Ql Γ ρ X (fun x u => R0 = (x, u))) 6 [(0, .ref (ρ 0)), (1, .long a1), (3, .int a3)] [] z g := by
  intro n
  induction n with
  | zero => intro a1 a3 z g R0 hR hok; exact False.elim hok
  | succ n ih =>
    intro a1 a3 z g R0 hR hok
    rw [T_X5_digest_6] at hR
    rw [O_X5_digest_6] at hok
    refine G_iload_n hX dX5_digest_6 rfl rfl ?_
    refine G_bipush (v := (8 : Int32)) hX dX5_digest_7 (by decide) rfl ?_
    refine G_icmp_gt (tg := 31) hX dX5_digest_9 (by decide) rfl (fun (h_9 : (8 : Int32) < a3) => ?_) (fun (h_9 : ¬ ((8 : Int32) < a3)) => ?_)
    · rw [if_pos h_9] at hR
      replace hok := hok.1 h_9
      refine G_iconst (v := (0 : Int32)) hX dX5_digest_31 (by decide) rfl ?_
      refine G_istore_n hX dX5_digest_32 (by decide) rfl rfl ?_
      exact nr_sub (by exact ⟨rfl, rfl, rfl, trivial⟩) (sp_X5_digest_33 Γ ρ d X hX 500 a1 (0 : Int32) z g R0 hR hok)
    · rw [if_neg h_9] at hR
      replace hok := hok.2 h_9
      refine G_ldc2 (v := (31 : Int64)) hX dX5_digest_12 wk_RX5_183 rfl ?_
      refine G_lload_n hX dX5_digest_15 rfl rfl ?_
      refine G_lmul hX dX5_digest_16 rfl ?_
      refine G_aload_n hX dX5_digest_17 rfl rfl ?_
      refine G_iload_n hX dX5_digest_18 rfl rfl ?_
      obtain ⟨ho_19, hok⟩ := hok
      refine G_cVi hX dX5_digest_19 lv_RX5_185 (sp_X5_count Γ ρ d a3 z g ho_19) (by omega) nr_is_0 rfl rfl (Nat.le_of_ble_eq_true rfl) rfl (fun r_19 u_19 e_19 => ?_)
      obtain ⟨z_19, g_19⟩ := u_19
      rw [e_19, nr_K_mk] at hR
      rw [e_19, nr_KP_mk] at hok
      refine G_i2l hX dX5_digest_22 rfl ?_
      refine G_ladd hX dX5_digest_23 rfl ?_
      refine G_lstore_n hX dX5_digest_24 (by decide) rfl rfl ?_
      refine G_iinc (v := (a3 + (1 : Int32))) hX dX5_digest_25 rfl rfl (by decide) rfl rfl ?_
      refine G_goto (tg := 6) hX dX5_digest_28 (by decide) ?_
      exact nr_sub (by exact ⟨rfl, rfl, rfl, trivial⟩) (ih (((31 : Int64) * a1) + (r_19).toInt64) (a3 + (1 : Int32)) z_19 g_19 R0 hR hok)
def T_X5_digest  (z : Nat → Int32) (g : Nat → Nat → Int32) : Int64 × nr_S := (T_X5_digest_6 500 (1973 : Int64) (0 : Int32) z g)
def O_X5_digest  (z : Nat → Int32) (g : Nat → Nat → Int32) : Prop := (O_X5_digest_6 500 (1973 : Int64) (0 : Int32) z g)
set_option maxHeartbeats 4000000 in
set_option maxRecDepth 100000 in
theorem sp_X5_digest (Γ : nr_M) (ρ : Nat → Nat) (d : Nat) (z : Nat → Int32) (g : Nat → Nat → Int32) (hok : O_X5_digest z g) : nr_Sl Γ ρ (d + 3) yX5_digest cX5_digest 5 (some .long) [.ref (ρ 0)] z g (fun x u => (T_X5_digest z g) = (x, u)) := by
  refine nr_body_l (lv := [(0, .ref (ρ 0))]) (by decide +kernel) (Nat.le_of_ble_eq_true rfl) rfl (fun X hX => ?_)
  generalize hR : (T_X5_digest z g) = R0
  rw [T_X5_digest] at hR
  rw [O_X5_digest] at hok
  refine G_ldc2 (v := (1973 : Int64)) hX dX5_digest_0 wk_RX5_181 rfl ?_
  refine G_lstore_n hX dX5_digest_3 (by decide) rfl rfl ?_
  refine G_iconst (v := (0 : Int32)) hX dX5_digest_4 (by decide) rfl ?_
  refine G_istore_n hX dX5_digest_5 (by decide) rfl rfl ?_
  exact nr_sub (by exact ⟨rfl, rfl, rfl, trivial⟩) (sp_X5_digest_6 Γ ρ d X hX 500 (1973 : Int64) (0 : Int32) z g R0 hR hok)
