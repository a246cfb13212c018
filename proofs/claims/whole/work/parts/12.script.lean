def T_X3_append (a1 : Int32) (z : Nat → Int32) (g : Nat → Nat → Int32) : Int32 × nr_S := (if (100 : Int32) ≤ (z 4) then (0, z, g) else (0, (va_up z 4 ((z 4) + (1 : Int32))), (nr_st g 8 (z 4) a1)))
def O_X3_append (a1 : Int32) (z : Nat → Int32) (g : Nat → Nat → Int32) : Prop := (((100 : Int32) ≤ (z 4) → True) ∧ (¬ ((100 : Int32) ≤ (z 4)) → (vp_in (z 4) 100 ∧ True)))
set_option maxHeartbeats 4000000 in
set_option maxRecDepth 100000 in
theorem sp_X3_append (Γ : nr_M) (ρ : Nat → Nat) (d : Nat) (a1 : Int32) (z : Nat → Int32) (g : Nat → Nat → Int32) (hok : O_X3_append a1 z g) : nr_Sv Γ ρ (d + 0) yX3_append cX3_append 2 none [.ref (ρ 7), .int a1] z g (fun u => (T_X3_append a1 z g) = (0, u)) := by
  refine nr_body_v (lv := [(0, .ref (ρ 7)), (1, .int a1)]) (by decide +kernel) (Nat.le_of_ble_eq_true rfl) rfl (fun X hX => ?_)
  generalize hR : (T_X3_append a1 z g) = R0
  rw [T_X3_append] at hR
  rw [O_X3_append] at hok
  refine G_aload_n hX dX3_append_0 rfl rfl ?_
  refine G_geti hX dX3_append_1 gt_RX3_27 rfl ?_
  refine G_bipush (v := (100 : Int32)) hX dX3_append_4 (by decide) rfl ?_
  refine G_icmp_ge (tg := 29) hX dX3_append_6 (by decide) rfl (fun (h_6 : (100 : Int32) ≤ (z 4)) => ?_) (fun (h_6 : ¬ ((100 : Int32) ≤ (z 4))) => ?_)
  · rw [if_pos h_6] at hR
    replace hok := hok.1 h_6
    exact G_vret hX dX3_append_29 hR.symm
  · rw [if_neg h_6] at hR
    replace hok := hok.2 h_6
    refine G_aload_n hX dX3_append_9 rfl rfl ?_
    refine G_getr hX dX3_append_10 gt_RX3_9 rfl ?_
    refine G_aload_n hX dX3_append_13 rfl rfl ?_
    refine G_geti hX dX3_append_14 gt_RX3_27 rfl ?_
    refine G_iload_n hX dX3_append_17 rfl rfl ?_
    obtain ⟨hi_18, hok⟩ := hok
    refine G_ist hX dX3_append_18 (rfl : nr_il 8 = 100) (by decide) hi_18 rfl ?_
    refine G_aload_n hX dX3_append_19 rfl rfl ?_
    refine G_dup hX dX3_append_20 rfl rfl ?_
    refine G_geti hX dX3_append_21 gt_RX3_27 rfl ?_
    refine G_iconst (v := (1 : Int32)) hX dX3_append_24 (by decide) rfl ?_
    refine G_iadd hX dX3_append_25 rfl ?_
    refine G_put hX dX3_append_26 pt_RX3_27 rfl rfl rfl ?_
    exact G_vret hX dX3_append_29 hR.symm
def R_X3_length  (z : Nat → Int32) (g : Nat → Nat → Int32) : Int32 := (z 4)
set_option maxHeartbeats 4000000 in
set_option maxRecDepth 100000 in
theorem sp_X3_length (Γ : nr_M) (ρ : Nat → Nat) (d : Nat) (z : Nat → Int32) (g : Nat → Nat → Int32) : nr_Si Γ ρ (d + 0) yX3_length cX3_length 1 (some .int) [.ref (ρ 7)] z g (fun x u => x = (R_X3_length z g) ∧ u = (z, g)) := by
  refine nr_body_i (lv := [(0, .ref (ρ 7))]) (by decide +kernel) (Nat.le_of_ble_eq_true rfl) rfl (fun X hX => ?_)
  generalize hR : (R_X3_length z g) = R0
  rw [R_X3_length] at hR
  refine G_aload_n hX dX3_length_0 rfl rfl ?_
  refine G_geti hX dX3_length_1 gt_RX3_27 rfl ?_
  exact G_iret hX rfl dX3_length_4 rfl ⟨hR, rfl⟩
def T_X3_empty  (z : Nat → Int32) (g : Nat → Nat → Int32) : Int32 × nr_S := (0, (va_up z 4 (0 : Int32)), g)
set_option maxHeartbeats 4000000 in
set_option maxRecDepth 100000 in
theorem sp_X3_empty (Γ : nr_M) (ρ : Nat → Nat) (d : Nat) (z : Nat → Int32) (g : Nat → Nat → Int32) : nr_Sv Γ ρ (d + 0) yX3_empty cX3_empty 1 none [.ref (ρ 7)] z g (fun u => (T_X3_empty z g) = (0, u)) := by
  refine nr_body_v (lv := [(0, .ref (ρ 7))]) (by decide +kernel) (Nat.le_of_ble_eq_true rfl) rfl (fun X hX => ?_)
  generalize hR : (T_X3_empty z g) = R0
  rw [T_X3_empty] at hR
  refine G_aload_n hX dX3_empty_0 rfl rfl ?_
  refine G_iconst (v := (0 : Int32)) hX dX3_empty_1 (by decide) rfl ?_
  refine G_put hX dX3_empty_2 pt_RX3_27 rfl rfl rfl ?_
  exact G_vret hX dX3_empty_5 hR.symm
def R_X3_middle (a1 : Int32) (z : Nat → Int32) (g : Nat → Nat → Int32) : Int32 := (R_X5_at 11 a1 z g)
def O_X3_middle (a1 : Int32) (z : Nat → Int32) (g : Nat → Nat → Int32) : Prop := (O_X5_at 11 a1 z g ∧ True)
set_option maxHeartbeats 4000000 in
set_option maxRecDepth 100000 in
theorem sp_X3_middle (Γ : nr_M) (ρ : Nat → Nat) (d : Nat) (a1 : Int32) (z : Nat → Int32) (g : Nat → Nat → Int32) (hok : O_X3_middle a1 z g) : nr_Si Γ ρ (d + 1) yX3_middle cX3_middle 2 (some .int) [.ref (ρ 7), .int a1] z g (fun x u => x = (R_X3_middle a1 z g) ∧ u = (z, g)) := by
  refine nr_body_i (lv := [(0, .ref (ρ 7)), (1, .int a1)]) (by decide +kernel) (Nat.le_of_ble_eq_true rfl) rfl (fun X hX => ?_)
  generalize hR : (R_X3_middle a1 z g) = R0
  rw [R_X3_middle] at hR
  rw [O_X3_middle] at hok
  refine G_aload_n hX dX3_middle_0 rfl rfl ?_
  refine G_getr hX dX3_middle_1 gt_RX3_21 rfl ?_
  refine G_iload_n hX dX3_middle_4 rfl rfl ?_
  obtain ⟨ho_5, hok⟩ := hok
  refine G_fSi hX dX3_middle_5 ls_RX3_40 (sp_X5_at Γ ρ d 11 a1 z g ho_5) (by omega) rfl rfl (Nat.le_of_ble_eq_true rfl) rfl ?_
  exact G_iret hX rfl dX3_middle_8 rfl ⟨hR, rfl⟩
def R_X3_next (a1 : Int32) (z : Nat → Int32) (g : Nat → Nat → Int32) : Int32 := (R_X5_at 12 a1 z g)
def O_X3_next (a1 : Int32) (z : Nat → Int32) (g : Nat → Nat → Int32) : Prop := (O_X5_at 12 a1 z g ∧ True)
set_option maxHeartbeats 4000000 in
set_option maxRecDepth 100000 in
theorem sp_X3_next (Γ : nr_M) (ρ : Nat → Nat) (d : Nat) (a1 : Int32) (z : Nat → Int32) (g : Nat → Nat → Int32) (hok : O_X3_next a1 z g) : nr_Si Γ ρ (d + 1) yX3_next cX3_next 2 (some .int) [.ref (ρ 7), .int a1] z g (fun x u => x = (R_X3_next a1 z g) ∧ u = (z, g)) := by
  refine nr_body_i (lv := [(0, .ref (ρ 7)), (1, .int a1)]) (by decide +kernel) (Nat.le_of_ble_eq_true rfl) rfl (fun X hX => ?_)
  generalize hR : (R_X3_next a1 z g) = R0
  rw [R_X3_next] at hR
  rw [O_X3_next] at hok
  refine G_aload_n hX dX3_next_0 rfl rfl ?_
  refine G_getr hX dX3_next_1 gt_RX3_24 rfl ?_
  refine G_iload_n hX dX3_next_4 rfl rfl ?_
  obtain ⟨ho_5, hok⟩ := hok
  refine G_fSi hX dX3_next_5 ls_RX3_40 (sp_X5_at Γ ρ d 12 a1 z g ho_5) (by omega) rfl rfl (Nat.le_of_ble_eq_true rfl) rfl ?_
  exact G_iret hX rfl dX3_next_8 rfl ⟨hR, rfl⟩
def R_X3_figure (a1 : Int32) (z : Nat → Int32) (g : Nat → Nat → Int32) : Int32 := (R_X5_at 10 a1 z g)
def O_X3_figure (a1 : Int32) (z : Nat → Int32) (g : Nat → Nat → Int32) : Prop := (O_X5_at 10 a1 z g ∧ True)
set_option maxHeartbeats 4000000 in
set_option maxRecDepth 100000 in
theorem sp_X3_figure (Γ : nr_M) (ρ : Nat → Nat) (d : Nat) (a1 : Int32) (z : Nat → Int32) (g : Nat → Nat → Int32) (hok : O_X3_figure a1 z g) : nr_Si Γ ρ (d + 1) yX3_figure cX3_figure 2 (some .int) [.ref (ρ 7), .int a1] z g (fun x u => x = (R_X3_figure a1 z g) ∧ u = (z, g)) := by
  refine nr_body_i (lv := [(0, .ref (ρ 7)), (1, .int a1)]) (by decide +kernel) (Nat.le_of_ble_eq_true rfl) rfl (fun X hX => ?_)
  generalize hR : (R_X3_figure a1 z g) = R0
  rw [R_X3_figure] at hR
  rw [O_X3_figure] at hok
  refine G_aload_n hX dX3_figure_0 rfl rfl ?_
  refine G_getr hX dX3_figure_1 gt_RX3_18 rfl ?_
  refine G_iload_n hX dX3_figure_4 rfl rfl ?_
  obtain ⟨ho_5, hok⟩ := hok
  refine G_fSi hX dX3_figure_5 ls_RX3_40 (sp_X5_at Γ ρ d 10 a1 z g ho_5) (by omega) rfl rfl (Nat.le_of_ble_eq_true rfl) rfl ?_
  exact G_iret hX rfl dX3_figure_8 rfl ⟨hR, rfl⟩
def R_X3_sign (a1 : Int32) (z : Nat → Int32) (g : Nat → Nat → Int32) : Int32 := (R_X5_at 9 a1 z g)
def O_X3_sign (a1 : Int32) (z : Nat → Int32) (g : Nat → Nat → Int32) : Prop := (O_X5_at 9 a1 z g ∧ True)
set_option maxHeartbeats 4000000 in
set_option maxRecDepth 100000 in
theorem sp_X3_sign (Γ : nr_M) (ρ : Nat → Nat) (d : Nat) (a1 : Int32) (z : Nat → Int32) (g : Nat → Nat → Int32) (hok : O_X3_sign a1 z g) : nr_Si Γ ρ (d + 1) yX3_sign cX3_sign 2 (some .int) [.ref (ρ 7), .int a1] z g (fun x u => x = (R_X3_sign a1 z g) ∧ u = (z, g)) := by
  refine nr_body_i (lv := [(0, .ref (ρ 7)), (1, .int a1)]) (by decide +kernel) (Nat.le_of_ble_eq_true rfl) rfl (fun X hX => ?_)
  generalize hR : (R_X3_sign a1 z g) = R0
  rw [R_X3_sign] at hR
  rw [O_X3_sign] at hok
  refine G_aload_n hX dX3_sign_0 rfl rfl ?_
  refine G_getr hX dX3_sign_1 gt_RX3_15 rfl ?_
  refine G_iload_n hX dX3_sign_4 rfl rfl ?_
  obtain ⟨ho_5, hok⟩ := hok
  refine G_fSi hX dX3_sign_5 ls_RX3_40 (sp_X5_at Γ ρ d 9 a1 z g ho_5) (by omega) rfl rfl (Nat.le_of_ble_eq_true rfl) rfl ?_
  exact G_iret hX rfl dX3_sign_8 rfl ⟨hR, rfl⟩
def R_X3_acts  (z : Nat → Int32) (g : Nat → Nat → Int32) : Int32 := (z 5)
set_option maxHeartbeats 4000000 in
set_option maxRecDepth 100000 in
theorem sp_X3_acts (Γ : nr_M) (ρ : Nat → Nat) (d : Nat) (z : Nat → Int32) (g : Nat → Nat → Int32) : nr_Si Γ ρ (d + 0) yX3_acts cX3_acts 1 (some .int) [.ref (ρ 7)] z g (fun x u => x = (R_X3_acts z g) ∧ u = (z, g)) := by
  refine nr_body_i (lv := [(0, .ref (ρ 7))]) (by decide +kernel) (Nat.le_of_ble_eq_true rfl) rfl (fun X hX => ?_)
  generalize hR : (R_X3_acts z g) = R0
  rw [R_X3_acts] at hR
  refine G_aload_n hX dX3_acts_0 rfl rfl ?_
  refine G_geti hX dX3_acts_1 gt_RX3_31 rfl ?_
  exact G_iret hX rfl dX3_acts_4 rfl ⟨hR, rfl⟩
def T_X3_nextSign_38   (z : Nat → Int32) (g : Nat → Nat → Int32) : Int32 × nr_S := (if (z 4) ≤ (z 8) then ((-1 : Int32), z, g) else ((g 8 ((z 8)).toNatClampNeg), z, g))
def O_X3_nextSign_38   (z : Nat → Int32) (g : Nat → Nat → Int32) : Prop := (((z 4) ≤ (z 8) → True) ∧ (¬ ((z 4) ≤ (z 8)) → (vp_in (z 8) 100 ∧ True)))
set_option maxHeartbeats 4000000 in
set_option maxRecDepth 100000 in
theorem sp_X3_nextSign_38 (Γ : nr_M) (ρ : Nat → Nat) (d : Nat) (X : nr_CX) (hX : nr_Cx Γ ρ X yX3_nextSign cX3_nextSign 1 (some .int) (d + 0))  (z : Nat → Int32) (g : Nat → Nat → Int32) (R0 : Int32 × nr_S) (hR : T_X3_nextSign_38  z g = R0) (hok : O_X3_nextSign_38  z g) : nr_G Γ ρ X 1 (nr_Qi Γ ρ X (fun x u => R0 = (x, u))) 38 [(0, .ref (ρ 7))] [] z g := by
  rw [T_X3_nextSign_38] at hR
  rw [O_X3_nextSign_38] at hok
  refine G_aload_n hX dX3_nextSign_38 rfl rfl ?_
  refine G_geti hX dX3_nextSign_39 gt_RX3_44 rfl ?_
  refine G_aload_n hX dX3_nextSign_42 rfl rfl ?_
  refine G_geti hX dX3_nextSign_43 gt_RX3_27 rfl ?_
  refine G_icmp_ge (tg := 61) hX dX3_nextSign_46 (by decide) rfl (fun (h_46 : (z 4) ≤ (z 8)) => ?_) (fun (h_46 : ¬ ((z 4) ≤ (z 8))) => ?_)
  · rw [if_pos h_46] at hR
    replace hok := hok.1 h_46
    refine G_iconst (v := (-1 : Int32)) hX dX3_nextSign_61 (by decide) rfl ?_
    exact G_iret hX rfl dX3_nextSign_62 rfl hR.symm
  · rw [if_neg h_46] at hR
    replace hok := hok.2 h_46
    refine G_aload_n hX dX3_nextSign_49 rfl rfl ?_
    refine G_getr hX dX3_nextSign_50 gt_RX3_9 rfl ?_
    refine G_aload_n hX dX3_nextSign_53 rfl rfl ?_
    refine G_geti hX dX3_nextSign_54 gt_RX3_44 rfl ?_
    obtain ⟨hi_57, hok⟩ := hok
    refine G_iald hX dX3_nextSign_57 (rfl : nr_il 8 = 100) (by decide) hi_57 rfl ?_
    refine G_goto (tg := 62) hX dX3_nextSign_58 (by decide) ?_
    exact G_iret hX rfl dX3_nextSign_62 rfl hR.symm
def T_X3_nextSign_0  : Nat → (Nat → Int32) → (Nat → Nat → Int32) → Int32 × nr_S
  | 0,  z, g => (0, z, g)
  | n + 1, z, g => (if (z 4) ≤ (z 8) then (T_X3_nextSign_38  z g) else (if (g 8 ((z 8)).toNatClampNeg) = (32 : Int32) then (T_X3_nextSign_0 n  (va_up z 8 ((z 8) + (1 : Int32))) g) else (T_X3_nextSign_38  z g)))
def O_X3_nextSign_0  : Nat → (Nat → Int32) → (Nat → Nat → Int32) → Prop
  | 0,  _, _ => False
  | n + 1, z, g => (((z 4) ≤ (z 8) → (O_X3_nextSign_38  z g)) ∧ (¬ ((z 4) ≤ (z 8)) → (vp_in (z 8) 100 ∧ (((g 8 ((z 8)).toNatClampNeg) = (32 : Int32) → (O_X3_nextSign_0 n  (va_up z 8 ((z 8) + (1 : Int32))) g)) ∧ (¬ ((g 8 ((z 8)).toNatClampNeg) = (32 : Int32)) → (O_X3_nextSign_38  z g))))))
set_option maxHeartbeats 4000000 in
set_option maxRecDepth 100000 in
theorem sp_X3_nextSign_0 (Γ : nr_M) (ρ : Nat → Nat) (d : Nat) (X : nr_CX) (hX : nr_Cx Γ ρ X yX3_nextSign cX3_nextSign 1 (some .int) (d + 0)) : ∀ (n : Nat)  (z : Nat → Int32) (g : Nat → Nat → Int32) (R0 : Int32 × nr_S) (_ : T_X3_nextSign_0 n  z g = R0) (_ : O_X3_nextSign_0 n  z g), nr_G Γ ρ X 1 (nr_Qi Γ ρ X (fun x u => R0 = (x, u))) 0 [(0, .ref (ρ 7))] [] z g := by
  intro n
  induction n with
  | zero => intro  z g R0 hR hok; exact False.elim hok
  | succ n ih =>
    intro  z g R0 hR hok
    rw [T_X3_nextSign_0] at hR
    rw [O_X3_nextSign_0] at hok
    refine G_aload_n hX dX3_nextSign_0 rfl rfl ?_
    refine G_geti hX dX3_nextSign_1 gt_RX3_44 rfl ?_
    refine G_aload_n hX dX3_nextSign_4 rfl rfl ?_
    refine G_geti hX dX3_nextSign_5 gt_RX3_27 rfl ?_
    refine G_icmp_ge (tg := 38) hX dX3_nextSign_8 (by decide) rfl (fun (h_8 : (z 4) ≤ (z 8)) => ?_) (fun (h_8 : ¬ ((z 4) ≤ (z 8))) => ?_)
    · rw [if_pos h_8] at hR
      replace hok := hok.1 h_8
      exact nr_sub (by exact ⟨rfl, trivial⟩) (sp_X3_nextSign_38 Γ ρ d X hX z g R0 hR hok)
    · rw [if_neg h_8] at hR
      replace hok := hok.2 h_8
      refine G_aload_n hX dX3_nextSign_11 rfl rfl ?_
      refine G_getr hX dX3_nextSign_12 gt_RX3_9 rfl ?_
      refine G_aload_n hX dX3_nextSign_15 rfl rfl ?_
      refine G_geti hX dX3_nextSign_16 gt_RX3_44 rfl ?_
      obtain ⟨hi_19, hok⟩ := hok
      refine G_iald hX dX3_nextSign_19 (rfl : nr_il 8 = 100) (by decide) hi_19 rfl ?_
      refine G_bipush (v := (32 : Int32)) hX dX3_nextSign_20 (by decide) rfl ?_
      refine G_icmp_ne (tg := 38) hX dX3_nextSign_22 (by decide) rfl (fun (h_22 : ¬ ((g 8 ((z 8)).toNatClampNeg) = (32 : Int32))) => ?_) (fun (h_22 : (g 8 ((z 8)).toNatClampNeg) = (32 : Int32)) => ?_)
      · rw [if_neg h_22] at hR
        replace hok := hok.2 h_22
        exact nr_sub (by exact ⟨rfl, trivial⟩) (sp_X3_nextSign_38 Γ ρ d X hX z g R0 hR hok)
      · rw [if_pos h_22] at hR
        replace hok := hok.1 h_22
        refine G_aload_n hX dX3_nextSign_25 rfl rfl ?_
        refine G_dup hX dX3_nextSign_26 rfl rfl ?_
        refine G_geti hX dX3_nextSign_27 gt_RX3_44 rfl ?_
        refine G_iconst (v := (1 : Int32)) hX dX3_nextSign_30 (by decide) rfl ?_
        refine G_iadd hX dX3_nextSign_31 rfl ?_
        refine G_put hX dX3_nextSign_32 pt_RX3_44 rfl rfl rfl ?_
        refine G_goto (tg := 0) hX dX3_nextSign_35 (by decide) ?_
        exact nr_sub (by exact ⟨rfl, trivial⟩) (ih  (va_up z 8 ((z 8) + (1 : Int32))) g R0 hR hok)
def T_X3_nextSign  (z : Nat → Int32) (g : Nat → Nat → Int32) : Int32 × nr_S := (T_X3_nextSign_0 500  z g)
def O_X3_nextSign  (z : Nat → Int32) (g : Nat → Nat → Int32) : Prop := (O_X3_nextSign_0 500  z g)
set_option maxHeartbeats 4000000 in
set_option maxRecDepth 100000 in
theorem sp_X3_nextSign (Γ : nr_M) (ρ : Nat → Nat) (d : Nat) (z : Nat → Int32) (g : Nat → Nat → Int32) (hok : O_X3_nextSign z g) : nr_Si Γ ρ (d + 0) yX3_nextSign cX3_nextSign 1 (some .int) [.ref (ρ 7)] z g (fun x u => (T_X3_nextSign z g) = (x, u)) := by
  refine nr_body_i (lv := [(0, .ref (ρ 7))]) (by decide +kernel) (Nat.le_of_ble_eq_true rfl) rfl (fun X hX => ?_)
  generalize hR : (T_X3_nextSign z g) = R0
  rw [T_X3_nextSign] at hR
  rw [O_X3_nextSign] at hok
  exact nr_sub (by exact ⟨rfl, trivial⟩) (sp_X3_nextSign_0 Γ ρ d X hX 500 z g R0 hR hok)
def R_X3_isRoomSign (a0 : Int32) : Int32 := (R_X5_within a0 (48 : Int32) (55 : Int32))
set_option maxHeartbeats 4000000 in
set_option maxRecDepth 100000 in
theorem sp_X3_isRoomSign (Γ : nr_M) (ρ : Nat → Nat) (d : Nat) (a0 : Int32) (z : Nat → Int32) (g : Nat → Nat → Int32) : nr_Si Γ ρ (d + 1) yX3_isRoomSign cX3_isRoomSign 1 (some .boolean) [.int a0] z g (fun x u => x = (R_X3_isRoomSign a0) ∧ u = (z, g)) := by
  refine nr_body_i (lv := [(0, .int a0)]) (by decide +kernel) (Nat.le_of_ble_eq_true rfl) rfl (fun X hX => ?_)
  generalize hR : (R_X3_isRoomSign a0) = R0
  rw [R_X3_isRoomSign] at hR
  refine G_iload_n hX dX3_isRoomSign_0 rfl rfl ?_
  refine G_bipush (v := (48 : Int32)) hX dX3_isRoomSign_1 (by decide) rfl ?_
  refine G_bipush (v := (55 : Int32)) hX dX3_isRoomSign_3 (by decide) rfl ?_
  refine G_fSi hX dX3_isRoomSign_5 ls_RX3_95 (sp_X5_within Γ ρ d a0 (48 : Int32) (55 : Int32) z g) (by omega) rfl rfl (Nat.le_of_ble_eq_true rfl) rfl ?_
  exact G_iret hX rfl dX3_isRoomSign_8 (nb_X5_within a0 (48 : Int32) (55 : Int32)) ⟨hR, rfl⟩
theorem nb_X3_isRoomSign (a0 : Int32) : narrow .boolean (.int (R_X3_isRoomSign a0)) = .int (R_X3_isRoomSign a0) := by
  unfold R_X3_isRoomSign; exact nb_X5_within _ _ _
def R_X3_holdsActs (a0 : Int32) : Int32 := (if (R_X3_isRoomSign a0) = 0 then (if a0 = (40 : Int32) then (1 : Int32) else (if a0 = (91 : Int32) then (1 : Int32) else (if a0 = (60 : Int32) then (1 : Int32) else (if a0 = (120 : Int32) then (1 : Int32) else (0 : Int32))))) else (1 : Int32))
set_option maxHeartbeats 4000000 in
set_option maxRecDepth 100000 in
theorem sp_X3_holdsActs (Γ : nr_M) (ρ : Nat → Nat) (d : Nat) (a0 : Int32) (z : Nat → Int32) (g : Nat → Nat → Int32) : nr_Si Γ ρ (d + 2) yX3_holdsActs cX3_holdsActs 1 (some .boolean) [.int a0] z g (fun x u => x = (R_X3_holdsActs a0) ∧ u = (z, g)) := by
  refine nr_body_i (lv := [(0, .int a0)]) (by decide +kernel) (Nat.le_of_ble_eq_true rfl) rfl (fun X hX => ?_)
  generalize hR : (R_X3_holdsActs a0) = R0
  rw [R_X3_holdsActs] at hR
  refine G_iload_n hX dX3_holdsActs_0 rfl rfl ?_
  refine G_fSi hX dX3_holdsActs_1 ls_RX3_74 (sp_X3_isRoomSign Γ ρ d a0 z g) (by omega) rfl rfl (Nat.le_of_ble_eq_true rfl) rfl ?_
  refine G_if_ne (tg := 31) hX dX3_holdsActs_4 (by decide) rfl (fun (h_4 : ¬ ((R_X3_isRoomSign a0) = 0)) => ?_) (fun (h_4 : (R_X3_isRoomSign a0) = 0) => ?_)
  · rw [if_neg h_4] at hR
    refine G_iconst (v := (1 : Int32)) hX dX3_holdsActs_31 (by decide) rfl ?_
    refine G_goto (tg := 36) hX dX3_holdsActs_32 (by decide) ?_
    exact G_iret hX rfl dX3_holdsActs_36 rfl ⟨hR, rfl⟩
  · rw [if_pos h_4] at hR
    refine G_iload_n hX dX3_holdsActs_7 rfl rfl ?_
    refine G_bipush (v := (40 : Int32)) hX dX3_holdsActs_8 (by decide) rfl ?_
    refine G_icmp_eq (tg := 31) hX dX3_holdsActs_10 (by decide) rfl (fun (h_10 : a0 = (40 : Int32)) => ?_) (fun (h_10 : ¬ (a0 = (40 : Int32))) => ?_)
    · rw [if_pos h_10] at hR
      refine G_iconst (v := (1 : Int32)) hX dX3_holdsActs_31 (by decide) rfl ?_
      refine G_goto (tg := 36) hX dX3_holdsActs_32 (by decide) ?_
      exact G_iret hX rfl dX3_holdsActs_36 rfl ⟨hR, rfl⟩
    · rw [if_neg h_10] at hR
      refine G_iload_n hX dX3_holdsActs_13 rfl rfl ?_
      refine G_bipush (v := (91 : Int32)) hX dX3_holdsActs_14 (by decide) rfl ?_
      refine G_icmp_eq (tg := 31) hX dX3_holdsActs_16 (by decide) rfl (fun (h_16 : a0 = (91 : Int32)) => ?_) (fun (h_16 : ¬ (a0 = (91 : Int32))) => ?_)
      · rw [if_pos h_16] at hR
        refine G_iconst (v := (1 : Int32)) hX dX3_holdsActs_31 (by decide) rfl ?_
        refine G_goto (tg := 36) hX dX3_holdsActs_32 (by decide) ?_
        exact G_iret hX rfl dX3_holdsActs_36 rfl ⟨hR, rfl⟩
      · rw [if_neg h_16] at hR
        refine G_iload_n hX dX3_holdsActs_19 rfl rfl ?_
        refine G_bipush (v := (60 : Int32)) hX dX3_holdsActs_20 (by decide) rfl ?_
        refine G_icmp_eq (tg := 31) hX dX3_holdsActs_22 (by decide) rfl (fun (h_22 : a0 = (60 : Int32)) => ?_) (fun (h_22 : ¬ (a0 = (60 : Int32))) => ?_)
        · rw [if_pos h_22] at hR
          refine G_iconst (v := (1 : Int32)) hX dX3_holdsActs_31 (by decide) rfl ?_
          refine G_goto (tg := 36) hX dX3_holdsActs_32 (by decide) ?_
          exact G_iret hX rfl dX3_holdsActs_36 rfl ⟨hR, rfl⟩
        · rw [if_neg h_22] at hR
          refine G_iload_n hX dX3_holdsActs_25 rfl rfl ?_
          refine G_bipush (v := (120 : Int32)) hX dX3_holdsActs_26 (by decide) rfl ?_
          refine G_icmp_ne (tg := 35) hX dX3_holdsActs_28 (by decide) rfl (fun (h_28 : ¬ (a0 = (120 : Int32))) => ?_) (fun (h_28 : a0 = (120 : Int32)) => ?_)
          · rw [if_neg h_28] at hR
            refine G_iconst (v := (0 : Int32)) hX dX3_holdsActs_35 (by decide) rfl ?_
            exact G_iret hX rfl dX3_holdsActs_36 rfl ⟨hR, rfl⟩
          · rw [if_pos h_28] at hR
            refine G_iconst (v := (1 : Int32)) hX dX3_holdsActs_31 (by decide) rfl ?_
            refine G_goto (tg := 36) hX dX3_holdsActs_32 (by decide) ?_
            exact G_iret hX rfl dX3_holdsActs_36 rfl ⟨hR, rfl⟩
theorem nb_X3_holdsActs (a0 : Int32) : narrow .boolean (.int (R_X3_holdsActs a0)) = .int (R_X3_holdsActs a0) := by
  unfold R_X3_holdsActs; repeat' split
  all_goals first | rfl | exact nb_X5_within _ _ _ | exact nb_X6_in _ _ _ | exact nb_X3_isRoomSign _ | exact nb_X3_holdsActs _
def R_X3_beginsAct (a0 : Int32) : Int32 := (if (R_X3_holdsActs a0) = 0 then (if a0 = (108 : Int32) then (1 : Int32) else (if a0 = (107 : Int32) then (1 : Int32) else (if a0 = (119 : Int32) then (1 : Int32) else (if a0 = (98 : Int32) then (1 : Int32) else (if a0 = (43 : Int32) then (1 : Int32) else (if a0 = (33 : Int32) then (1 : Int32) else (0 : Int32))))))) else (1 : Int32))
set_option maxHeartbeats 4000000 in
set_option maxRecDepth 100000 in
theorem sp_X3_beginsAct (Γ : nr_M) (ρ : Nat → Nat) (d : Nat) (a0 : Int32) (z : Nat → Int32) (g : Nat → Nat → Int32) : nr_Si Γ ρ (d + 3) yX3_beginsAct cX3_beginsAct 1 (some .boolean) [.int a0] z g (fun x u => x = (R_X3_beginsAct a0) ∧ u = (z, g)) := by
  refine nr_body_i (lv := [(0, .int a0)]) (by decide +kernel) (Nat.le_of_ble_eq_true rfl) rfl (fun X hX => ?_)
  generalize hR : (R_X3_beginsAct a0) = R0
  rw [R_X3_beginsAct] at hR
  refine G_iload_n hX dX3_beginsAct_0 rfl rfl ?_
  refine G_fSi hX dX3_beginsAct_1 ls_RX3_65 (sp_X3_holdsActs Γ ρ d a0 z g) (by omega) rfl rfl (Nat.le_of_ble_eq_true rfl) rfl ?_
  refine G_if_ne (tg := 43) hX dX3_beginsAct_4 (by decide) rfl (fun (h_4 : ¬ ((R_X3_holdsActs a0) = 0)) => ?_) (fun (h_4 : (R_X3_holdsActs a0) = 0) => ?_)
  · rw [if_neg h_4] at hR
    refine G_iconst (v := (1 : Int32)) hX dX3_beginsAct_43 (by decide) rfl ?_
    refine G_goto (tg := 48) hX dX3_beginsAct_44 (by decide) ?_
    exact G_iret hX rfl dX3_beginsAct_48 rfl ⟨hR, rfl⟩
  · rw [if_pos h_4] at hR
    refine G_iload_n hX dX3_beginsAct_7 rfl rfl ?_
    refine G_bipush (v := (108 : Int32)) hX dX3_beginsAct_8 (by decide) rfl ?_
    refine G_icmp_eq (tg := 43) hX dX3_beginsAct_10 (by decide) rfl (fun (h_10 : a0 = (108 : Int32)) => ?_) (fun (h_10 : ¬ (a0 = (108 : Int32))) => ?_)
    · rw [if_pos h_10] at hR
      refine G_iconst (v := (1 : Int32)) hX dX3_beginsAct_43 (by decide) rfl ?_
      refine G_goto (tg := 48) hX dX3_beginsAct_44 (by decide) ?_
      exact G_iret hX rfl dX3_beginsAct_48 rfl ⟨hR, rfl⟩
    · rw [if_neg h_10] at hR
      refine G_iload_n hX dX3_beginsAct_13 rfl rfl ?_
      refine G_bipush (v := (107 : Int32)) hX dX3_beginsAct_14 (by decide) rfl ?_
      refine G_icmp_eq (tg := 43) hX dX3_beginsAct_16 (by decide) rfl (fun (h_16 : a0 = (107 : Int32)) => ?_) (fun (h_16 : ¬ (a0 = (107 : Int32))) => ?_)
      · rw [if_pos h_16] at hR
        refine G_iconst (v := (1 : Int32)) hX dX3_beginsAct_43 (by decide) rfl ?_
        refine G_goto (tg := 48) hX dX3_beginsAct_44 (by decide) ?_
        exact G_iret hX rfl dX3_beginsAct_48 rfl ⟨hR, rfl⟩
      · rw [if_neg h_16] at hR
        refine G_iload_n hX dX3_beginsAct_19 rfl rfl ?_
        refine G_bipush (v := (119 : Int32)) hX dX3_beginsAct_20 (by decide) rfl ?_
        refine G_icmp_eq (tg := 43) hX dX3_beginsAct_22 (by decide) rfl (fun (h_22 : a0 = (119 : Int32)) => ?_) (fun (h_22 : ¬ (a0 = (119 : Int32))) => ?_)
        · rw [if_pos h_22] at hR
          refine G_iconst (v := (1 : Int32)) hX dX3_beginsAct_43 (by decide) rfl ?_
          refine G_goto (tg := 48) hX dX3_beginsAct_44 (by decide) ?_
          exact G_iret hX rfl dX3_beginsAct_48 rfl ⟨hR, rfl⟩
        · rw [if_neg h_22] at hR
          refine G_iload_n hX dX3_beginsAct_25 rfl rfl ?_
          refine G_bipush (v := (98 : Int32)) hX dX3_beginsAct_26 (by decide) rfl ?_
          refine G_icmp_eq (tg := 43) hX dX3_beginsAct_28 (by decide) rfl (fun (h_28 : a0 = (98 : Int32)) => ?_) (fun (h_28 : ¬ (a0 = (98 : Int32))) => ?_)
          · rw [if_pos h_28] at hR
            refine G_iconst (v := (1 : Int32)) hX dX3_beginsAct_43 (by decide) rfl ?_
            refine G_goto (tg := 48) hX dX3_beginsAct_44 (by decide) ?_
            exact G_iret hX rfl dX3_beginsAct_48 rfl ⟨hR, rfl⟩
          · rw [if_neg h_28] at hR
            refine G_iload_n hX dX3_beginsAct_31 rfl rfl ?_
            refine G_bipush (v := (43 : Int32)) hX dX3_beginsAct_32 (by decide) rfl ?_
            refine G_icmp_eq (tg := 43) hX dX3_beginsAct_34 (by decide) rfl (fun (h_34 : a0 = (43 : Int32)) => ?_) (fun (h_34 : ¬ (a0 = (43 : Int32))) => ?_)
            · rw [if_pos h_34] at hR
              refine G_iconst (v := (1 : Int32)) hX dX3_beginsAct_43 (by decide) rfl ?_
              refine G_goto (tg := 48) hX dX3_beginsAct_44 (by decide) ?_
              exact G_iret hX rfl dX3_beginsAct_48 rfl ⟨hR, rfl⟩
            · rw [if_neg h_34] at hR
              refine G_iload_n hX dX3_beginsAct_37 rfl rfl ?_
              refine G_bipush (v := (33 : Int32)) hX dX3_beginsAct_38 (by decide) rfl ?_
              refine G_icmp_ne (tg := 47) hX dX3_beginsAct_40 (by decide) rfl (fun (h_40 : ¬ (a0 = (33 : Int32))) => ?_) (fun (h_40 : a0 = (33 : Int32)) => ?_)
              · rw [if_neg h_40] at hR
                refine G_iconst (v := (0 : Int32)) hX dX3_beginsAct_47 (by decide) rfl ?_
                exact G_iret hX rfl dX3_beginsAct_48 rfl ⟨hR, rfl⟩
              · rw [if_pos h_40] at hR
                refine G_iconst (v := (1 : Int32)) hX dX3_beginsAct_43 (by decide) rfl ?_
                refine G_goto (tg := 48) hX dX3_beginsAct_44 (by decide) ?_
                exact G_iret hX rfl dX3_beginsAct_48 rfl ⟨hR, rfl⟩
theorem nb_X3_beginsAct (a0 : Int32) : narrow .boolean (.int (R_X3_beginsAct a0)) = .int (R_X3_beginsAct a0) := by
  unfold R_X3_beginsAct; repeat' split
  all_goals first | rfl | exact nb_X5_within _ _ _ | exact nb_X6_in _ _ _ | exact nb_X3_isRoomSign _ | exact nb_X3_holdsActs _
def T_X3_expect (a1 : Int32) (z : Nat → Int32) (g : Nat → Nat → Int32) : Int32 × nr_S := (if (z 9) = (-1 : Int32) then (nr_K (T_X3_nextSign z g) (fun r_10 z_10 g_10 => (if r_10 = a1 then (0, (va_up z_10 8 ((z_10 8) + (1 : Int32))), g_10) else (0, (va_up z_10 9 (z_10 8)), g_10)))) else (0, z, g))
def O_X3_expect (a1 : Int32) (z : Nat → Int32) (g : Nat → Nat → Int32) : Prop := (((z 9) = (-1 : Int32) → ((O_X3_nextSign z g ∧ True))) ∧ (¬ ((z 9) = (-1 : Int32)) → True))
set_option maxHeartbeats 4000000 in
set_option maxRecDepth 100000 in
theorem sp_X3_expect (Γ : nr_M) (ρ : Nat → Nat) (d : Nat) (a1 : Int32) (z : Nat → Int32) (g : Nat → Nat → Int32) (hok : O_X3_expect a1 z g) : nr_Sv Γ ρ (d + 1) yX3_expect cX3_expect 2 none [.ref (ρ 7), .int a1] z g (fun u => (T_X3_expect a1 z g) = (0, u)) := by
  refine nr_body_v (lv := [(0, .ref (ρ 7)), (1, .int a1)]) (by decide +kernel) (Nat.le_of_ble_eq_true rfl) rfl (fun X hX => ?_)
  generalize hR : (T_X3_expect a1 z g) = R0
  rw [T_X3_expect] at hR
  rw [O_X3_expect] at hok
  refine G_aload_n hX dX3_expect_0 rfl rfl ?_
  refine G_geti hX dX3_expect_1 gt_RX3_47 rfl ?_
  refine G_iconst (v := (-1 : Int32)) hX dX3_expect_4 (by decide) rfl ?_
  refine G_icmp_eq (tg := 9) hX dX3_expect_5 (by decide) rfl (fun (h_5 : (z 9) = (-1 : Int32)) => ?_) (fun (h_5 : ¬ ((z 9) = (-1 : Int32))) => ?_)
  · rw [if_pos h_5] at hR
    replace hok := hok.1 h_5
    refine G_aload_n hX dX3_expect_9 rfl rfl ?_
    obtain ⟨ho_10, hok⟩ := hok
    refine G_cVi hX dX3_expect_10 lv_RX3_54 (sp_X3_nextSign Γ ρ d z g ho_10) (by omega) nr_is_7 rfl rfl (Nat.le_of_ble_eq_true rfl) rfl (fun r_10 u_10 e_10 => ?_)
    obtain ⟨z_10, g_10⟩ := u_10
    rw [e_10, nr_K_mk] at hR
    refine G_iload_n hX dX3_expect_13 rfl rfl ?_
    refine G_icmp_ne (tg := 30) hX dX3_expect_14 (by decide) rfl (fun (h_14 : ¬ (r_10 = a1)) => ?_) (fun (h_14 : r_10 = a1) => ?_)
    · rw [if_neg h_14] at hR
      refine G_aload_n hX dX3_expect_30 rfl rfl ?_
      refine G_aload_n hX dX3_expect_31 rfl rfl ?_
      refine G_geti hX dX3_expect_32 gt_RX3_44 rfl ?_
      refine G_put hX dX3_expect_35 pt_RX3_47 rfl rfl rfl ?_
      exact G_vret hX dX3_expect_38 hR.symm
    · rw [if_pos h_14] at hR
      refine G_aload_n hX dX3_expect_17 rfl rfl ?_
      refine G_dup hX dX3_expect_18 rfl rfl ?_
      refine G_geti hX dX3_expect_19 gt_RX3_44 rfl ?_
      refine G_iconst (v := (1 : Int32)) hX dX3_expect_22 (by decide) rfl ?_
      refine G_iadd hX dX3_expect_23 rfl ?_
      refine G_put hX dX3_expect_24 pt_RX3_44 rfl rfl rfl ?_
      refine G_goto (tg := 38) hX dX3_expect_27 (by decide) ?_
      exact G_vret hX dX3_expect_38 hR.symm
  · rw [if_neg h_5] at hR
    replace hok := hok.2 h_5
    exact G_vret hX dX3_expect_8 hR.symm
def T_X3_readFigure  (z : Nat → Int32) (g : Nat → Nat → Int32) : Int32 × nr_S := (nr_K (T_X3_nextSign z g) (fun r_1 z_1 g_1 => (if (R_X5_within r_1 (48 : Int32) (57 : Int32)) = 0 then ((0 : Int32), (va_up z_1 9 (z_1 8)), g_1) else ((r_1 - (48 : Int32)), (va_up z_1 8 ((z_1 8) + (1 : Int32))), g_1))))
def O_X3_readFigure  (z : Nat → Int32) (g : Nat → Nat → Int32) : Prop := ((O_X3_nextSign z g ∧ True))
set_option maxHeartbeats 4000000 in
set_option maxRecDepth 100000 in
theorem sp_X3_readFigure (Γ : nr_M) (ρ : Nat → Nat) (d : Nat) (z : Nat → Int32) (g : Nat → Nat → Int32) (hok : O_X3_readFigure z g) : nr_Si Γ ρ (d + 1) yX3_readFigure cX3_readFigure 2 (some .int) [.ref (ρ 7)] z g (fun x u => (T_X3_readFigure z g) = (x, u)) := by
  refine nr_body_i (lv := [(0, .ref (ρ 7))]) (by decide +kernel) (Nat.le_of_ble_eq_true rfl) rfl (fun X hX => ?_)
  generalize hR : (T_X3_readFigure z g) = R0
  rw [T_X3_readFigure] at hR
  rw [O_X3_readFigure] at hok
  refine G_aload_n hX dX3_readFigure_0 rfl rfl ?_
  obtain ⟨ho_1, hok⟩ := hok
  refine G_cVi hX dX3_readFigure_1 lv_RX3_54 (sp_X3_nextSign Γ ρ d z g ho_1) (by omega) nr_is_7 rfl rfl (Nat.le_of_ble_eq_true rfl) rfl (fun r_1 u_1 e_1 => ?_)
  obtain ⟨z_1, g_1⟩ := u_1
  rw [e_1, nr_K_mk] at hR
  refine G_istore_n hX dX3_readFigure_4 (by decide) rfl rfl ?_
  refine G_iload_n hX dX3_readFigure_5 rfl rfl ?_
  refine G_bipush (v := (48 : Int32)) hX dX3_readFigure_6 (by decide) rfl ?_
  refine G_bipush (v := (57 : Int32)) hX dX3_readFigure_8 (by decide) rfl ?_
  refine G_fSi hX dX3_readFigure_10 ls_RX3_95 (sp_X5_within Γ ρ d r_1 (48 : Int32) (57 : Int32) z_1 g_1) (by omega) rfl rfl (Nat.le_of_ble_eq_true rfl) rfl ?_
  refine G_if_ne (tg := 26) hX dX3_readFigure_13 (by decide) rfl (fun (h_13 : ¬ ((R_X5_within r_1 (48 : Int32) (57 : Int32)) = 0)) => ?_) (fun (h_13 : (R_X5_within r_1 (48 : Int32) (57 : Int32)) = 0) => ?_)
  · rw [if_neg h_13] at hR
    refine G_aload_n hX dX3_readFigure_26 rfl rfl ?_
    refine G_dup hX dX3_readFigure_27 rfl rfl ?_
    refine G_geti hX dX3_readFigure_28 gt_RX3_44 rfl ?_
    refine G_iconst (v := (1 : Int32)) hX dX3_readFigure_31 (by decide) rfl ?_
    refine G_iadd hX dX3_readFigure_32 rfl ?_
    refine G_put hX dX3_readFigure_33 pt_RX3_44 rfl rfl rfl ?_
    refine G_iload_n hX dX3_readFigure_36 rfl rfl ?_
    refine G_bipush (v := (48 : Int32)) hX dX3_readFigure_37 (by decide) rfl ?_
    refine G_isub hX dX3_readFigure_39 rfl ?_
    exact G_iret hX rfl dX3_readFigure_40 rfl hR.symm
  · rw [if_pos h_13] at hR
    refine G_aload_n hX dX3_readFigure_16 rfl rfl ?_
    refine G_aload_n hX dX3_readFigure_17 rfl rfl ?_
    refine G_geti hX dX3_readFigure_18 gt_RX3_44 rfl ?_
    refine G_put hX dX3_readFigure_21 pt_RX3_47 rfl rfl rfl ?_
    refine G_iconst (v := (0 : Int32)) hX dX3_readFigure_24 (by decide) rfl ?_
    exact G_iret hX rfl dX3_readFigure_25 rfl hR.symm
def T_X3_readParts_34 (rc : Int32 → nr_S → Int32 × nr_S) (oc : Int32 → nr_S → Prop) (a3 : Int32) (z : Nat → Int32) (g : Nat → Nat → Int32) : Int32 × nr_S := (nr_K (T_X3_expect a3 z g) (fun r_36 z_36 g_36 => (0, z_36, g_36)))
def O_X3_readParts_34 (rc : Int32 → nr_S → Int32 × nr_S) (oc : Int32 → nr_S → Prop) (a3 : Int32) (z : Nat → Int32) (g : Nat → Nat → Int32) : Prop := ((O_X3_expect a3 z g ∧ True))
set_option maxHeartbeats 4000000 in
set_option maxRecDepth 100000 in
theorem sp_X3_readParts_34 (Γ : nr_M) (ρ : Nat → Nat) (d : Nat) (rc : Int32 → nr_S → Int32 × nr_S) (oc : Int32 → nr_S → Prop) (hA : ∀ (a1 : Int32) (z : Nat → Int32) (g : Nat → Nat → Int32), oc a1 (z, g) → nr_Sv Γ ρ d yX3_readActs cX3_readActs 3 none [.ref (ρ 7), .int a1] z g (fun u => rc a1 (z, g) = (0, u))) (X : nr_CX) (hX : nr_Cx Γ ρ X yX3_readParts cX3_readParts 5 none (d + 2)) (a3 : Int32) (z : Nat → Int32) (g : Nat → Nat → Int32) (R0 : Int32 × nr_S) (hR : T_X3_readParts_34 rc oc a3 z g = R0) (hok : O_X3_readParts_34 rc oc a3 z g) : nr_G Γ ρ X 5 (nr_Qv Γ ρ X (fun u => R0 = (0, u))) 34 [(0, .ref (ρ 7)), (3, .int a3)] [] z g := by
  rw [T_X3_readParts_34] at hR
  rw [O_X3_readParts_34] at hok
  refine G_aload_n hX dX3_readParts_34 rfl rfl ?_
  refine G_iload_n hX dX3_readParts_35 rfl rfl ?_
  obtain ⟨ho_36, hok⟩ := hok
  refine G_cVv hX dX3_readParts_36 lv_RX3_92 (sp_X3_expect Γ ρ d a3 z g ho_36) (by omega) nr_is_7 rfl rfl (Nat.le_of_ble_eq_true rfl) rfl (fun u_36 e_36 => ?_)
  obtain ⟨z_36, g_36⟩ := u_36
  rw [e_36, nr_K_mk] at hR
  exact G_vret hX dX3_readParts_39 hR.symm
def T_X3_readParts (rc : Int32 → nr_S → Int32 × nr_S) (oc : Int32 → nr_S → Prop) (a1 : Int32) (a2 : Int32) (a3 : Int32) (a4 : Int32) (z : Nat → Int32) (g : Nat → Nat → Int32) : Int32 × nr_S := (nr_K (rc a4 (z, g)) (fun r_3 z_3 g_3 => (nr_K (T_X5_put 11 a1 (z_3 5) z_3 g_3) (fun r_15 z_15 g_15 => (if a2 = (-1 : Int32) then (T_X3_readParts_34 rc oc a3 z_15 g_15) else (nr_K (T_X3_expect a2 z_15 g_15) (fun r_25 z_25 g_25 => (nr_K (rc a4 (z_25, g_25)) (fun r_31 z_31 g_31 => (T_X3_readParts_34 rc oc a3 z_31 g_31))))))))))
def O_X3_readParts (rc : Int32 → nr_S → Int32 × nr_S) (oc : Int32 → nr_S → Prop) (a1 : Int32) (a2 : Int32) (a3 : Int32) (a4 : Int32) (z : Nat → Int32) (g : Nat → Nat → Int32) : Prop := ((oc a4 (z, g) ∧ nr_KP (rc a4 (z, g)) (fun r_3 z_3 g_3 => ((O_X5_put 11 a1 (z_3 5) z_3 g_3 ∧ nr_KP (T_X5_put 11 a1 (z_3 5) z_3 g_3) (fun r_15 z_15 g_15 => ((a2 = (-1 : Int32) → (O_X3_readParts_34 rc oc a3 z_15 g_15)) ∧ (¬ (a2 = (-1 : Int32)) → ((O_X3_expect a2 z_15 g_15 ∧ nr_KP (T_X3_expect a2 z_15 g_15) (fun r_25 z_25 g_25 => ((oc a4 (z_25, g_25) ∧ nr_KP (rc a4 (z_25, g_25)) (fun r_31 z_31 g_31 => (O_X3_readParts_34 rc oc a3 z_31 g_31)))))))))))))))
set_option maxHeartbeats 4000000 in
set_option maxRecDepth 100000 in
theorem sp_X3_readParts (Γ : nr_M) (ρ : Nat → Nat) (d : Nat) (rc : Int32 → nr_S → Int32 × nr_S) (oc : Int32 → nr_S → Prop) (hA : ∀ (a1 : Int32) (z : Nat → Int32) (g : Nat → Nat → Int32), oc a1 (z, g) → nr_Sv Γ ρ d yX3_readActs cX3_readActs 3 none [.ref (ρ 7), .int a1] z g (fun u => rc a1 (z, g) = (0, u))) (a1 : Int32) (a2 : Int32) (a3 : Int32) (a4 : Int32) (z : Nat → Int32) (g : Nat → Nat → Int32) (hok : O_X3_readParts rc oc a1 a2 a3 a4 z g) : nr_Sv Γ ρ (d + 2) yX3_readParts cX3_readParts 5 none [.ref (ρ 7), .int a1, .int a2, .int a3, .int a4] z g (fun u => (T_X3_readParts rc oc a1 a2 a3 a4 z g) = (0, u)) := by
  refine nr_body_v (lv := [(0, .ref (ρ 7)), (1, .int a1), (2, .int a2), (3, .int a3), (4, .int a4)]) (by decide +kernel) (Nat.le_of_ble_eq_true rfl) rfl (fun X hX => ?_)
  generalize hR : (T_X3_readParts rc oc a1 a2 a3 a4 z g) = R0
  rw [T_X3_readParts] at hR
  rw [O_X3_readParts] at hok
  refine G_aload_n hX dX3_readParts_0 rfl rfl ?_
  refine G_iload hX dX3_readParts_1 rfl rfl ?_
  obtain ⟨ho_3, hok⟩ := hok
  refine G_cVv hX dX3_readParts_3 lv_RX3_50 (hA a4 z g ho_3) (by omega) nr_is_7 rfl rfl (Nat.le_of_ble_eq_true rfl) rfl (fun u_3 e_3 => ?_)
  obtain ⟨z_3, g_3⟩ := u_3
  rw [e_3, nr_K_mk] at hR
  rw [e_3, nr_KP_mk] at hok
  refine G_aload_n hX dX3_readParts_6 rfl rfl ?_
  refine G_getr hX dX3_readParts_7 gt_RX3_21 rfl ?_
  refine G_iload_n hX dX3_readParts_10 rfl rfl ?_
  refine G_aload_n hX dX3_readParts_11 rfl rfl ?_
  refine G_geti hX dX3_readParts_12 gt_RX3_31 rfl ?_
  obtain ⟨ho_15, hok⟩ := hok
  refine G_cSv hX dX3_readParts_15 ls_RX3_77 (sp_X5_put Γ ρ d 11 a1 (z_3 5) z_3 g_3 ho_15) (by omega) rfl rfl (Nat.le_of_ble_eq_true rfl) rfl (fun u_15 e_15 => ?_)
  obtain ⟨z_15, g_15⟩ := u_15
  rw [e_15, nr_K_mk] at hR
  rw [e_15, nr_KP_mk] at hok
  refine G_iload_n hX dX3_readParts_18 rfl rfl ?_
  refine G_iconst (v := (-1 : Int32)) hX dX3_readParts_19 (by decide) rfl ?_
  refine G_icmp_eq (tg := 34) hX dX3_readParts_20 (by decide) rfl (fun (h_20 : a2 = (-1 : Int32)) => ?_) (fun (h_20 : ¬ (a2 = (-1 : Int32))) => ?_)
  · rw [if_pos h_20] at hR
    replace hok := hok.1 h_20
    exact nr_sub (by exact ⟨rfl, rfl, trivial⟩) (sp_X3_readParts_34 Γ ρ d rc oc hA X hX a3 z_15 g_15 R0 hR hok)
  · rw [if_neg h_20] at hR
    replace hok := hok.2 h_20
    refine G_aload_n hX dX3_readParts_23 rfl rfl ?_
    refine G_iload_n hX dX3_readParts_24 rfl rfl ?_
    obtain ⟨ho_25, hok⟩ := hok
    refine G_cVv hX dX3_readParts_25 lv_RX3_92 (sp_X3_expect Γ ρ d a2 z_15 g_15 ho_25) (by omega) nr_is_7 rfl rfl (Nat.le_of_ble_eq_true rfl) rfl (fun u_25 e_25 => ?_)
    obtain ⟨z_25, g_25⟩ := u_25
    rw [e_25, nr_K_mk] at hR
    rw [e_25, nr_KP_mk] at hok
    refine G_aload_n hX dX3_readParts_28 rfl rfl ?_
    refine G_iload hX dX3_readParts_29 rfl rfl ?_
    obtain ⟨ho_31, hok⟩ := hok
    refine G_cVv hX dX3_readParts_31 lv_RX3_50 (hA a4 z_25 g_25 ho_31) (by omega) nr_is_7 rfl rfl (Nat.le_of_ble_eq_true rfl) rfl (fun u_31 e_31 => ?_)
    obtain ⟨z_31, g_31⟩ := u_31
    rw [e_31, nr_K_mk] at hR
    rw [e_31, nr_KP_mk] at hok
    exact nr_sub (by exact ⟨rfl, rfl, trivial⟩) (sp_X3_readParts_34 Γ ρ d rc oc hA X hX a3 z_31 g_31 R0 hR hok)
def T_X3_readRest (rc : Int32 → nr_S → Int32 × nr_S) (oc : Int32 → nr_S → Prop) (a1 : Int32) (a2 : Int32) (a3 : Int32) (z : Nat → Int32) (g : Nat → Nat → Int32) : Int32 × nr_S := (if a2 = (33 : Int32) then (nr_K (T_X3_readFigure z g) (fun r_58 z_58 g_58 => (nr_K (T_X5_put 10 a1 r_58 z_58 g_58) (fun r_61 z_61 g_61 => (0, z_61, g_61))))) else (if a2 = (40 : Int32) then (nr_K (T_X3_readParts rc oc a1 (47 : Int32) (41 : Int32) a3 z g) (fun r_74 z_74 g_74 => (0, z_74, g_74))) else (if a2 = (60 : Int32) then (nr_K (T_X3_readParts rc oc a1 (-1 : Int32) (62 : Int32) a3 z g) (fun r_99 z_99 g_99 => (0, z_99, g_99))) else (if a2 = (91 : Int32) then (nr_K (T_X3_readParts rc oc a1 (47 : Int32) (93 : Int32) a3 z g) (fun r_87 z_87 g_87 => (0, z_87, g_87))) else (if a2 = (120 : Int32) then (nr_K (T_X3_readFigure z g) (fun r_111 z_111 g_111 => (nr_K (T_X5_put 10 a1 r_111 z_111 g_111) (fun r_114 z_114 g_114 => (nr_K (T_X3_expect (58 : Int32) z_114 g_114) (fun r_120 z_120 g_120 => (nr_K (T_X3_readParts rc oc a1 (-1 : Int32) (59 : Int32) a3 z_120 g_120) (fun r_129 z_129 g_129 => (0, z_129, g_129))))))))) else (if (R_X3_isRoomSign a2) = 0 then (0, z, g) else (nr_K (T_X3_expect (123 : Int32) (va_up z 7 ((z 7) ||| ((1 : Int32) <<< ((a2 - (48 : Int32)) &&& 31)))) g) (fun r_160 z_160 g_160 => (nr_K (T_X3_readParts rc oc a1 (-1 : Int32) (125 : Int32) a3 z_160 g_160) (fun r_169 z_169 g_169 => (0, z_169, g_169)))))))))))
def O_X3_readRest (rc : Int32 → nr_S → Int32 × nr_S) (oc : Int32 → nr_S → Prop) (a1 : Int32) (a2 : Int32) (a3 : Int32) (z : Nat → Int32) (g : Nat → Nat → Int32) : Prop := ((a2 = (33 : Int32) → ((O_X3_readFigure z g ∧ nr_KP (T_X3_readFigure z g) (fun r_58 z_58 g_58 => ((O_X5_put 10 a1 r_58 z_58 g_58 ∧ True)))))) ∧ (¬ (a2 = (33 : Int32)) → ((a2 = (40 : Int32) → ((O_X3_readParts rc oc a1 (47 : Int32) (41 : Int32) a3 z g ∧ True))) ∧ (¬ (a2 = (40 : Int32)) → ((a2 = (60 : Int32) → ((O_X3_readParts rc oc a1 (-1 : Int32) (62 : Int32) a3 z g ∧ True))) ∧ (¬ (a2 = (60 : Int32)) → ((a2 = (91 : Int32) → ((O_X3_readParts rc oc a1 (47 : Int32) (93 : Int32) a3 z g ∧ True))) ∧ (¬ (a2 = (91 : Int32)) → ((a2 = (120 : Int32) → ((O_X3_readFigure z g ∧ nr_KP (T_X3_readFigure z g) (fun r_111 z_111 g_111 => ((O_X5_put 10 a1 r_111 z_111 g_111 ∧ nr_KP (T_X5_put 10 a1 r_111 z_111 g_111) (fun r_114 z_114 g_114 => ((O_X3_expect (58 : Int32) z_114 g_114 ∧ nr_KP (T_X3_expect (58 : Int32) z_114 g_114) (fun r_120 z_120 g_120 => ((O_X3_readParts rc oc a1 (-1 : Int32) (59 : Int32) a3 z_120 g_120 ∧ True)))))))))))) ∧ (¬ (a2 = (120 : Int32)) → (((R_X3_isRoomSign a2) = 0 → True) ∧ (¬ ((R_X3_isRoomSign a2) = 0) → ((O_X3_expect (123 : Int32) (va_up z 7 ((z 7) ||| ((1 : Int32) <<< ((a2 - (48 : Int32)) &&& 31)))) g ∧ nr_KP (T_X3_expect (123 : Int32) (va_up z 7 ((z 7) ||| ((1 : Int32) <<< ((a2 - (48 : Int32)) &&& 31)))) g) (fun r_160 z_160 g_160 => ((O_X3_readParts rc oc a1 (-1 : Int32) (125 : Int32) a3 z_160 g_160 ∧ True)))))))))))))))))
set_option maxHeartbeats 4000000 in
set_option maxRecDepth 100000 in
theorem sp_X3_readRest (Γ : nr_M) (ρ : Nat → Nat) (d : Nat) (rc : Int32 → nr_S → Int32 × nr_S) (oc : Int32 → nr_S → Prop) (hA : ∀ (a1 : Int32) (z : Nat → Int32) (g : Nat → Nat → Int32), oc a1 (z, g) → nr_Sv Γ ρ d yX3_readActs cX3_readActs 3 none [.ref (ρ 7), .int a1] z g (fun u => rc a1 (z, g) = (0, u))) (a1 : Int32) (a2 : Int32) (a3 : Int32) (z : Nat → Int32) (g : Nat → Nat → Int32) (hok : O_X3_readRest rc oc a1 a2 a3 z g) : nr_Sv Γ ρ (d + 3) yX3_readRest cX3_readRest 4 none [.ref (ρ 7), .int a1, .int a2, .int a3] z g (fun u => (T_X3_readRest rc oc a1 a2 a3 z g) = (0, u)) := by
  refine nr_body_v (lv := [(0, .ref (ρ 7)), (1, .int a1), (2, .int a2), (3, .int a3)]) (by decide +kernel) (Nat.le_of_ble_eq_true rfl) rfl (fun X hX => ?_)
  generalize hR : (T_X3_readRest rc oc a1 a2 a3 z g) = R0
  rw [T_X3_readRest] at hR
  rw [O_X3_readRest] at hok
  refine G_iload_n hX dX3_readRest_0 rfl rfl ?_
  by_cases h_1_33 : a2 = (33 : Int32)
  · rw [if_pos h_1_33] at hR
    replace hok := hok.1 h_1_33
    refine G_lookup (off := 51) (tg := 52) hX dX3_readRest_1 (by decide) (by rw [h_1_33]; decide) (by decide) ?_
    refine G_aload_n hX dX3_readRest_52 rfl rfl ?_
    refine G_getr hX dX3_readRest_53 gt_RX3_18 rfl ?_
    refine G_iload_n hX dX3_readRest_56 rfl rfl ?_
    refine G_aload_n hX dX3_readRest_57 rfl rfl ?_
    obtain ⟨ho_58, hok⟩ := hok
    refine G_cVi hX dX3_readRest_58 lv_RX3_85 (sp_X3_readFigure Γ ρ d z g ho_58) (by omega) nr_is_7 rfl rfl (Nat.le_of_ble_eq_true rfl) rfl (fun r_58 u_58 e_58 => ?_)
    obtain ⟨z_58, g_58⟩ := u_58
    rw [e_58, nr_K_mk] at hR
    rw [e_58, nr_KP_mk] at hok
    obtain ⟨ho_61, hok⟩ := hok
    refine G_cSv hX dX3_readRest_61 ls_RX3_77 (sp_X5_put Γ ρ d 10 a1 r_58 z_58 g_58 ho_61) (by omega) rfl rfl (Nat.le_of_ble_eq_true rfl) rfl (fun u_61 e_61 => ?_)
    obtain ⟨z_61, g_61⟩ := u_61
    rw [e_61, nr_K_mk] at hR
    refine G_goto (tg := 172) hX dX3_readRest_64 (by decide) ?_
    exact G_vret hX dX3_readRest_172 hR.symm
  · rw [if_neg h_1_33] at hR
    replace hok := hok.2 h_1_33
    by_cases h_1_40 : a2 = (40 : Int32)
    · rw [if_pos h_1_40] at hR
      replace hok := hok.1 h_1_40
      refine G_lookup (off := 66) (tg := 67) hX dX3_readRest_1 (by decide) (by rw [h_1_40]; decide) (by decide) ?_
      refine G_aload_n hX dX3_readRest_67 rfl rfl ?_
      refine G_iload_n hX dX3_readRest_68 rfl rfl ?_
      refine G_bipush (v := (47 : Int32)) hX dX3_readRest_69 (by decide) rfl ?_
      refine G_bipush (v := (41 : Int32)) hX dX3_readRest_71 (by decide) rfl ?_
      refine G_iload_n hX dX3_readRest_73 rfl rfl ?_
      obtain ⟨ho_74, hok⟩ := hok
      refine G_cVv hX dX3_readRest_74 lv_RX3_88 (sp_X3_readParts Γ ρ d rc oc hA a1 (47 : Int32) (41 : Int32) a3 z g ho_74) (by omega) nr_is_7 rfl rfl (Nat.le_of_ble_eq_true rfl) rfl (fun u_74 e_74 => ?_)
      obtain ⟨z_74, g_74⟩ := u_74
      rw [e_74, nr_K_mk] at hR
      refine G_goto (tg := 172) hX dX3_readRest_77 (by decide) ?_
      exact G_vret hX dX3_readRest_172 hR.symm
    · rw [if_neg h_1_40] at hR
      replace hok := hok.2 h_1_40
      by_cases h_1_60 : a2 = (60 : Int32)
      · rw [if_pos h_1_60] at hR
        replace hok := hok.1 h_1_60
        refine G_lookup (off := 92) (tg := 93) hX dX3_readRest_1 (by decide) (by rw [h_1_60]; decide) (by decide) ?_
        refine G_aload_n hX dX3_readRest_93 rfl rfl ?_
        refine G_iload_n hX dX3_readRest_94 rfl rfl ?_
        refine G_iconst (v := (-1 : Int32)) hX dX3_readRest_95 (by decide) rfl ?_
        refine G_bipush (v := (62 : Int32)) hX dX3_readRest_96 (by decide) rfl ?_
        refine G_iload_n hX dX3_readRest_98 rfl rfl ?_
        obtain ⟨ho_99, hok⟩ := hok
        refine G_cVv hX dX3_readRest_99 lv_RX3_88 (sp_X3_readParts Γ ρ d rc oc hA a1 (-1 : Int32) (62 : Int32) a3 z g ho_99) (by omega) nr_is_7 rfl rfl (Nat.le_of_ble_eq_true rfl) rfl (fun u_99 e_99 => ?_)
        obtain ⟨z_99, g_99⟩ := u_99
        rw [e_99, nr_K_mk] at hR
        refine G_goto (tg := 172) hX dX3_readRest_102 (by decide) ?_
        exact G_vret hX dX3_readRest_172 hR.symm
      · rw [if_neg h_1_60] at hR
        replace hok := hok.2 h_1_60
        by_cases h_1_91 : a2 = (91 : Int32)
        · rw [if_pos h_1_91] at hR
          replace hok := hok.1 h_1_91
          refine G_lookup (off := 79) (tg := 80) hX dX3_readRest_1 (by decide) (by rw [h_1_91]; decide) (by decide) ?_
          refine G_aload_n hX dX3_readRest_80 rfl rfl ?_
          refine G_iload_n hX dX3_readRest_81 rfl rfl ?_
          refine G_bipush (v := (47 : Int32)) hX dX3_readRest_82 (by decide) rfl ?_
          refine G_bipush (v := (93 : Int32)) hX dX3_readRest_84 (by decide) rfl ?_
          refine G_iload_n hX dX3_readRest_86 rfl rfl ?_
          obtain ⟨ho_87, hok⟩ := hok
          refine G_cVv hX dX3_readRest_87 lv_RX3_88 (sp_X3_readParts Γ ρ d rc oc hA a1 (47 : Int32) (93 : Int32) a3 z g ho_87) (by omega) nr_is_7 rfl rfl (Nat.le_of_ble_eq_true rfl) rfl (fun u_87 e_87 => ?_)
          obtain ⟨z_87, g_87⟩ := u_87
          rw [e_87, nr_K_mk] at hR
          refine G_goto (tg := 172) hX dX3_readRest_90 (by decide) ?_
          exact G_vret hX dX3_readRest_172 hR.symm
        · rw [if_neg h_1_91] at hR
          replace hok := hok.2 h_1_91
          by_cases h_1_120 : a2 = (120 : Int32)
          · rw [if_pos h_1_120] at hR
            replace hok := hok.1 h_1_120
            refine G_lookup (off := 104) (tg := 105) hX dX3_readRest_1 (by decide) (by rw [h_1_120]; decide) (by decide) ?_
            refine G_aload_n hX dX3_readRest_105 rfl rfl ?_
            refine G_getr hX dX3_readRest_106 gt_RX3_18 rfl ?_
            refine G_iload_n hX dX3_readRest_109 rfl rfl ?_
            refine G_aload_n hX dX3_readRest_110 rfl rfl ?_
            obtain ⟨ho_111, hok⟩ := hok
            refine G_cVi hX dX3_readRest_111 lv_RX3_85 (sp_X3_readFigure Γ ρ d z g ho_111) (by omega) nr_is_7 rfl rfl (Nat.le_of_ble_eq_true rfl) rfl (fun r_111 u_111 e_111 => ?_)
            obtain ⟨z_111, g_111⟩ := u_111
            rw [e_111, nr_K_mk] at hR
            rw [e_111, nr_KP_mk] at hok
            obtain ⟨ho_114, hok⟩ := hok
            refine G_cSv hX dX3_readRest_114 ls_RX3_77 (sp_X5_put Γ ρ d 10 a1 r_111 z_111 g_111 ho_114) (by omega) rfl rfl (Nat.le_of_ble_eq_true rfl) rfl (fun u_114 e_114 => ?_)
            obtain ⟨z_114, g_114⟩ := u_114
            rw [e_114, nr_K_mk] at hR
            rw [e_114, nr_KP_mk] at hok
            refine G_aload_n hX dX3_readRest_117 rfl rfl ?_
            refine G_bipush (v := (58 : Int32)) hX dX3_readRest_118 (by decide) rfl ?_
            obtain ⟨ho_120, hok⟩ := hok
            refine G_cVv hX dX3_readRest_120 lv_RX3_92 (sp_X3_expect Γ ρ d (58 : Int32) z_114 g_114 ho_120) (by omega) nr_is_7 rfl rfl (Nat.le_of_ble_eq_true rfl) rfl (fun u_120 e_120 => ?_)
            obtain ⟨z_120, g_120⟩ := u_120
            rw [e_120, nr_K_mk] at hR
            rw [e_120, nr_KP_mk] at hok
            refine G_aload_n hX dX3_readRest_123 rfl rfl ?_
            refine G_iload_n hX dX3_readRest_124 rfl rfl ?_
            refine G_iconst (v := (-1 : Int32)) hX dX3_readRest_125 (by decide) rfl ?_
            refine G_bipush (v := (59 : Int32)) hX dX3_readRest_126 (by decide) rfl ?_
            refine G_iload_n hX dX3_readRest_128 rfl rfl ?_
            obtain ⟨ho_129, hok⟩ := hok
            refine G_cVv hX dX3_readRest_129 lv_RX3_88 (sp_X3_readParts Γ ρ d rc oc hA a1 (-1 : Int32) (59 : Int32) a3 z_120 g_120 ho_129) (by omega) nr_is_7 rfl rfl (Nat.le_of_ble_eq_true rfl) rfl (fun u_129 e_129 => ?_)
            obtain ⟨z_129, g_129⟩ := u_129
            rw [e_129, nr_K_mk] at hR
            refine G_goto (tg := 172) hX dX3_readRest_132 (by decide) ?_
            exact G_vret hX dX3_readRest_172 hR.symm
          · rw [if_neg h_1_120] at hR
            replace hok := hok.2 h_1_120
            refine G_lookup (off := 134) (tg := 135) hX dX3_readRest_1 (by decide) (by show Op.lookupswitch.offset [(33, 51), (40, 66), (60, 92), (91, 79), (120, 104)] (134) (a2).toInt = 134; rw [lv_osw (a := 33) h_1_33 (by decide), lv_osw (a := 40) h_1_40 (by decide), lv_osw (a := 60) h_1_60 (by decide), lv_osw (a := 91) h_1_91 (by decide), lv_osw (a := 120) h_1_120 (by decide)]; rfl) (by decide) ?_
            refine G_iload_n hX dX3_readRest_135 rfl rfl ?_
            refine G_fSi hX dX3_readRest_136 ls_RX3_74 (sp_X3_isRoomSign Γ ρ d a2 z g) (by omega) rfl rfl (Nat.le_of_ble_eq_true rfl) rfl ?_
            refine G_if_eq (tg := 172) hX dX3_readRest_139 (by decide) rfl (fun (h_139 : (R_X3_isRoomSign a2) = 0) => ?_) (fun (h_139 : ¬ ((R_X3_isRoomSign a2) = 0)) => ?_)
            · rw [if_pos h_139] at hR
              replace hok := hok.1 h_139
              exact G_vret hX dX3_readRest_172 hR.symm
            · rw [if_neg h_139] at hR
              replace hok := hok.2 h_139
              refine G_aload_n hX dX3_readRest_142 rfl rfl ?_
              refine G_dup hX dX3_readRest_143 rfl rfl ?_
              refine G_geti hX dX3_readRest_144 gt_RX3_37 rfl ?_
              refine G_iconst (v := (1 : Int32)) hX dX3_readRest_147 (by decide) rfl ?_
              refine G_iload_n hX dX3_readRest_148 rfl rfl ?_
              refine G_bipush (v := (48 : Int32)) hX dX3_readRest_149 (by decide) rfl ?_
              refine G_isub hX dX3_readRest_151 rfl ?_
              refine G_ishl hX dX3_readRest_152 rfl ?_
              refine G_ior hX dX3_readRest_153 rfl ?_
              refine G_put hX dX3_readRest_154 pt_RX3_37 rfl rfl rfl ?_
              refine G_aload_n hX dX3_readRest_157 rfl rfl ?_
              refine G_bipush (v := (123 : Int32)) hX dX3_readRest_158 (by decide) rfl ?_
              obtain ⟨ho_160, hok⟩ := hok
              refine G_cVv hX dX3_readRest_160 lv_RX3_92 (sp_X3_expect Γ ρ d (123 : Int32) (va_up z 7 ((z 7) ||| ((1 : Int32) <<< ((a2 - (48 : Int32)) &&& 31)))) g ho_160) (by omega) nr_is_7 rfl rfl (Nat.le_of_ble_eq_true rfl) rfl (fun u_160 e_160 => ?_)
              obtain ⟨z_160, g_160⟩ := u_160
              rw [e_160, nr_K_mk] at hR
              rw [e_160, nr_KP_mk] at hok
              refine G_aload_n hX dX3_readRest_163 rfl rfl ?_
              refine G_iload_n hX dX3_readRest_164 rfl rfl ?_
              refine G_iconst (v := (-1 : Int32)) hX dX3_readRest_165 (by decide) rfl ?_
              refine G_bipush (v := (125 : Int32)) hX dX3_readRest_166 (by decide) rfl ?_
              refine G_iload_n hX dX3_readRest_168 rfl rfl ?_
              obtain ⟨ho_169, hok⟩ := hok
              refine G_cVv hX dX3_readRest_169 lv_RX3_88 (sp_X3_readParts Γ ρ d rc oc hA a1 (-1 : Int32) (125 : Int32) a3 z_160 g_160 ho_169) (by omega) nr_is_7 rfl rfl (Nat.le_of_ble_eq_true rfl) rfl (fun u_169 e_169 => ?_)
              obtain ⟨z_169, g_169⟩ := u_169
              rw [e_169, nr_K_mk] at hR
              exact G_vret hX dX3_readRest_172 hR.symm
def T_X3_readAct_107 (rc : Int32 → nr_S → Int32 × nr_S) (oc : Int32 → nr_S → Prop) (a1 : Int32) (a2 : Int32) (a3 : Int32) (s1 : Int32) (s2 : Int32) (z : Nat → Int32) (g : Nat → Nat → Int32) : Int32 × nr_S := (nr_K (T_X5_put 10 s1 s2 z g) (fun r_107 z_107 g_107 => (nr_K (T_X3_readRest rc oc a3 a2 (a1 + (1 : Int32)) z_107 g_107) (fun r_116 z_116 g_116 => (nr_K (T_X5_put 12 a3 (z_116 5) z_116 g_116) (fun r_128 z_128 g_128 => (0, z_128, g_128)))))))
def O_X3_readAct_107 (rc : Int32 → nr_S → Int32 × nr_S) (oc : Int32 → nr_S → Prop) (a1 : Int32) (a2 : Int32) (a3 : Int32) (s1 : Int32) (s2 : Int32) (z : Nat → Int32) (g : Nat → Nat → Int32) : Prop := ((O_X5_put 10 s1 s2 z g ∧ nr_KP (T_X5_put 10 s1 s2 z g) (fun r_107 z_107 g_107 => ((O_X3_readRest rc oc a3 a2 (a1 + (1 : Int32)) z_107 g_107 ∧ nr_KP (T_X3_readRest rc oc a3 a2 (a1 + (1 : Int32)) z_107 g_107) (fun r_116 z_116 g_116 => ((O_X5_put 12 a3 (z_116 5) z_116 g_116 ∧ True))))))))
set_option maxHeartbeats 4000000 in
set_option maxRecDepth 100000 in
theorem sp_X3_readAct_107 (Γ : nr_M) (ρ : Nat → Nat) (d : Nat) (rc : Int32 → nr_S → Int32 × nr_S) (oc : Int32 → nr_S → Prop) (hA : ∀ (a1 : Int32) (z : Nat → Int32) (g : Nat → Nat → Int32), oc a1 (z, g) → nr_Sv Γ ρ d yX3_readActs cX3_readActs 3 none [.ref (ρ 7), .int a1] z g (fun u => rc a1 (z, g) = (0, u))) (X : nr_CX) (hX : nr_Cx Γ ρ X yX3_readAct cX3_readAct 4 none (d + 4)) (a1 : Int32) (a2 : Int32) (a3 : Int32) (s1 : Int32) (s2 : Int32) (z : Nat → Int32) (g : Nat → Nat → Int32) (R0 : Int32 × nr_S) (hR : T_X3_readAct_107 rc oc a1 a2 a3 s1 s2 z g = R0) (hok : O_X3_readAct_107 rc oc a1 a2 a3 s1 s2 z g) : nr_G Γ ρ X 4 (nr_Qv Γ ρ X (fun u => R0 = (0, u))) 107 [(0, .ref (ρ 7)), (1, .int a1), (2, .int a2), (3, .int a3)] [.int s2, .int s1, .ref (ρ 10)] z g := by
  rw [T_X3_readAct_107] at hR
  rw [O_X3_readAct_107] at hok
  obtain ⟨ho_107, hok⟩ := hok
  refine G_cSv hX dX3_readAct_107 ls_RX3_77 (sp_X5_put Γ ρ d 10 s1 s2 z g ho_107) (by omega) rfl rfl (Nat.le_of_ble_eq_true rfl) rfl (fun u_107 e_107 => ?_)
  obtain ⟨z_107, g_107⟩ := u_107
  rw [e_107, nr_K_mk] at hR
  rw [e_107, nr_KP_mk] at hok
  refine G_aload_n hX dX3_readAct_110 rfl rfl ?_
  refine G_iload_n hX dX3_readAct_111 rfl rfl ?_
  refine G_iload_n hX dX3_readAct_112 rfl rfl ?_
  refine G_iload_n hX dX3_readAct_113 rfl rfl ?_
  refine G_iconst (v := (1 : Int32)) hX dX3_readAct_114 (by decide) rfl ?_
  refine G_iadd hX dX3_readAct_115 rfl ?_
  obtain ⟨ho_116, hok⟩ := hok
  refine G_cVv hX dX3_readAct_116 lv_RX3_81 (sp_X3_readRest Γ ρ d rc oc hA a3 a2 (a1 + (1 : Int32)) z_107 g_107 ho_116) (by omega) nr_is_7 rfl rfl (Nat.le_of_ble_eq_true rfl) rfl (fun u_116 e_116 => ?_)
  obtain ⟨z_116, g_116⟩ := u_116
  rw [e_116, nr_K_mk] at hR
  rw [e_116, nr_KP_mk] at hok
  refine G_aload_n hX dX3_readAct_119 rfl rfl ?_
  refine G_getr hX dX3_readAct_120 gt_RX3_24 rfl ?_
  refine G_iload_n hX dX3_readAct_123 rfl rfl ?_
  refine G_aload_n hX dX3_readAct_124 rfl rfl ?_
  refine G_geti hX dX3_readAct_125 gt_RX3_31 rfl ?_
  obtain ⟨ho_128, hok⟩ := hok
  refine G_cSv hX dX3_readAct_128 ls_RX3_77 (sp_X5_put Γ ρ d 12 a3 (z_116 5) z_116 g_116 ho_128) (by omega) rfl rfl (Nat.le_of_ble_eq_true rfl) rfl (fun u_128 e_128 => ?_)
  obtain ⟨z_128, g_128⟩ := u_128
  rw [e_128, nr_K_mk] at hR
  exact G_vret hX dX3_readAct_131 hR.symm
def T_X3_readAct_84 (rc : Int32 → nr_S → Int32 × nr_S) (oc : Int32 → nr_S → Prop) (a1 : Int32) (a2 : Int32) (a3 : Int32) (s1 : Int32) (s2 : Int32) (z : Nat → Int32) (g : Nat → Nat → Int32) : Int32 × nr_S := (nr_K (T_X5_put 9 s1 s2 z g) (fun r_84 z_84 g_84 => (if (R_X3_isRoomSign a2) = 0 then (T_X3_readAct_107 rc oc a1 a2 a3 a3 (0 : Int32) z_84 g_84) else (T_X3_readAct_107 rc oc a1 a2 a3 a3 (a2 - (48 : Int32)) z_84 g_84))))
def O_X3_readAct_84 (rc : Int32 → nr_S → Int32 × nr_S) (oc : Int32 → nr_S → Prop) (a1 : Int32) (a2 : Int32) (a3 : Int32) (s1 : Int32) (s2 : Int32) (z : Nat → Int32) (g : Nat → Nat → Int32) : Prop := ((O_X5_put 9 s1 s2 z g ∧ nr_KP (T_X5_put 9 s1 s2 z g) (fun r_84 z_84 g_84 => (((R_X3_isRoomSign a2) = 0 → (O_X3_readAct_107 rc oc a1 a2 a3 a3 (0 : Int32) z_84 g_84)) ∧ (¬ ((R_X3_isRoomSign a2) = 0) → (O_X3_readAct_107 rc oc a1 a2 a3 a3 (a2 - (48 : Int32)) z_84 g_84))))))
set_option maxHeartbeats 4000000 in
set_option maxRecDepth 100000 in
theorem sp_X3_readAct_84 (Γ : nr_M) (ρ : Nat → Nat) (d : Nat) (rc : Int32 → nr_S → Int32 × nr_S) (oc : Int32 → nr_S → Prop) (hA : ∀ (a1 : Int32) (z : Nat → Int32) (g : Nat → Nat → Int32), oc a1 (z, g) → nr_Sv Γ ρ d yX3_readActs cX3_readActs 3 none [.ref (ρ 7), .int a1] z g (fun u => rc a1 (z, g) = (0, u))) (X : nr_CX) (hX : nr_Cx Γ ρ X yX3_readAct cX3_readAct 4 none (d + 4)) (a1 : Int32) (a2 : Int32) (a3 : Int32) (s1 : Int32) (s2 : Int32) (z : Nat → Int32) (g : Nat → Nat → Int32) (R0 : Int32 × nr_S) (hR : T_X3_readAct_84 rc oc a1 a2 a3 s1 s2 z g = R0) (hok : O_X3_readAct_84 rc oc a1 a2 a3 s1 s2 z g) : nr_G Γ ρ X 4 (nr_Qv Γ ρ X (fun u => R0 = (0, u))) 84 [(0, .ref (ρ 7)), (1, .int a1), (2, .int a2), (3, .int a3)] [.int s2, .int s1, .ref (ρ 9)] z g := by
  rw [T_X3_readAct_84] at hR
  rw [O_X3_readAct_84] at hok
  obtain ⟨ho_84, hok⟩ := hok
  refine G_cSv hX dX3_readAct_84 ls_RX3_77 (sp_X5_put Γ ρ d 9 s1 s2 z g ho_84) (by omega) rfl rfl (Nat.le_of_ble_eq_true rfl) rfl (fun u_84 e_84 => ?_)
  obtain ⟨z_84, g_84⟩ := u_84
  rw [e_84, nr_K_mk] at hR
  rw [e_84, nr_KP_mk] at hok
  refine G_aload_n hX dX3_readAct_87 rfl rfl ?_
  refine G_getr hX dX3_readAct_88 gt_RX3_18 rfl ?_
  refine G_iload_n hX dX3_readAct_91 rfl rfl ?_
  refine G_iload_n hX dX3_readAct_92 rfl rfl ?_
  refine G_fSi hX dX3_readAct_93 ls_RX3_74 (sp_X3_isRoomSign Γ ρ d a2 z_84 g_84) (by omega) rfl rfl (Nat.le_of_ble_eq_true rfl) rfl ?_
  refine G_if_eq (tg := 106) hX dX3_readAct_96 (by decide) rfl (fun (h_96 : (R_X3_isRoomSign a2) = 0) => ?_) (fun (h_96 : ¬ ((R_X3_isRoomSign a2) = 0)) => ?_)
  · rw [if_pos h_96] at hR
    replace hok := hok.1 h_96
    refine G_iconst (v := (0 : Int32)) hX dX3_readAct_106 (by decide) rfl ?_
    exact nr_sub (by exact ⟨rfl, rfl, rfl, rfl, trivial⟩) (sp_X3_readAct_107 Γ ρ d rc oc hA X hX a1 a2 a3 a3 (0 : Int32) z_84 g_84 R0 hR hok)
  · rw [if_neg h_96] at hR
    replace hok := hok.2 h_96
    refine G_iload_n hX dX3_readAct_99 rfl rfl ?_
    refine G_bipush (v := (48 : Int32)) hX dX3_readAct_100 (by decide) rfl ?_
    refine G_isub hX dX3_readAct_102 rfl ?_
    refine G_goto (tg := 107) hX dX3_readAct_103 (by decide) ?_
    exact nr_sub (by exact ⟨rfl, rfl, rfl, rfl, trivial⟩) (sp_X3_readAct_107 Γ ρ d rc oc hA X hX a1 a2 a3 a3 (a2 - (48 : Int32)) z_84 g_84 R0 hR hok)
def T_X3_readAct_41 (rc : Int32 → nr_S → Int32 × nr_S) (oc : Int32 → nr_S → Prop) (a1 : Int32) (a2 : Int32) (z : Nat → Int32) (g : Nat → Nat → Int32) : Int32 × nr_S := (if (R_X3_isRoomSign a2) = 0 then (T_X3_readAct_84 rc oc a1 a2 (z 5) (z 5) a2 (va_up (va_up z 5 ((z 5) + (1 : Int32))) 8 ((z 8) + (1 : Int32))) g) else (T_X3_readAct_84 rc oc a1 a2 (z 5) (z 5) (82 : Int32) (va_up (va_up z 5 ((z 5) + (1 : Int32))) 8 ((z 8) + (1 : Int32))) g))
def O_X3_readAct_41 (rc : Int32 → nr_S → Int32 × nr_S) (oc : Int32 → nr_S → Prop) (a1 : Int32) (a2 : Int32) (z : Nat → Int32) (g : Nat → Nat → Int32) : Prop := (((R_X3_isRoomSign a2) = 0 → (O_X3_readAct_84 rc oc a1 a2 (z 5) (z 5) a2 (va_up (va_up z 5 ((z 5) + (1 : Int32))) 8 ((z 8) + (1 : Int32))) g)) ∧ (¬ ((R_X3_isRoomSign a2) = 0) → (O_X3_readAct_84 rc oc a1 a2 (z 5) (z 5) (82 : Int32) (va_up (va_up z 5 ((z 5) + (1 : Int32))) 8 ((z 8) + (1 : Int32))) g)))
set_option maxHeartbeats 4000000 in
set_option maxRecDepth 100000 in
theorem sp_X3_readAct_41 (Γ : nr_M) (ρ : Nat → Nat) (d : Nat) (rc : Int32 → nr_S → Int32 × nr_S) (oc : Int32 → nr_S → Prop) (hA : ∀ (a1 : Int32) (z : Nat → Int32) (g : Nat → Nat → Int32), oc a1 (z, g) → nr_Sv Γ ρ d yX3_readActs cX3_readActs 3 none [.ref (ρ 7), .int a1] z g (fun u => rc a1 (z, g) = (0, u))) (X : nr_CX) (hX : nr_Cx Γ ρ X yX3_readAct cX3_readAct 4 none (d + 4)) (a1 : Int32) (a2 : Int32) (z : Nat → Int32) (g : Nat → Nat → Int32) (R0 : Int32 × nr_S) (hR : T_X3_readAct_41 rc oc a1 a2 z g = R0) (hok : O_X3_readAct_41 rc oc a1 a2 z g) : nr_G Γ ρ X 4 (nr_Qv Γ ρ X (fun u => R0 = (0, u))) 41 [(0, .ref (ρ 7)), (1, .int a1), (2, .int a2)] [] z g := by
  rw [T_X3_readAct_41] at hR
  rw [O_X3_readAct_41] at hok
  refine G_aload_n hX dX3_readAct_41 rfl rfl ?_
  refine G_geti hX dX3_readAct_42 gt_RX3_31 rfl ?_
  refine G_istore_n hX dX3_readAct_45 (by decide) rfl rfl ?_
  refine G_aload_n hX dX3_readAct_46 rfl rfl ?_
  refine G_dup hX dX3_readAct_47 rfl rfl ?_
  refine G_geti hX dX3_readAct_48 gt_RX3_31 rfl ?_
  refine G_iconst (v := (1 : Int32)) hX dX3_readAct_51 (by decide) rfl ?_
  refine G_iadd hX dX3_readAct_52 rfl ?_
  refine G_put hX dX3_readAct_53 pt_RX3_31 rfl rfl rfl ?_
  refine G_aload_n hX dX3_readAct_56 rfl rfl ?_
  refine G_dup hX dX3_readAct_57 rfl rfl ?_
  refine G_geti hX dX3_readAct_58 gt_RX3_44 rfl ?_
  refine G_iconst (v := (1 : Int32)) hX dX3_readAct_61 (by decide) rfl ?_
  refine G_iadd hX dX3_readAct_62 rfl ?_
  refine G_put hX dX3_readAct_63 pt_RX3_44 rfl rfl rfl ?_
  refine G_aload_n hX dX3_readAct_66 rfl rfl ?_
  refine G_getr hX dX3_readAct_67 gt_RX3_15 rfl ?_
  refine G_iload_n hX dX3_readAct_70 rfl rfl ?_
  refine G_iload_n hX dX3_readAct_71 rfl rfl ?_
  refine G_fSi hX dX3_readAct_72 ls_RX3_74 (sp_X3_isRoomSign Γ ρ d a2 (va_up (va_up z 5 ((z 5) + (1 : Int32))) 8 ((z 8) + (1 : Int32))) g) (by omega) rfl rfl (Nat.le_of_ble_eq_true rfl) rfl ?_
  refine G_if_eq (tg := 83) hX dX3_readAct_75 (by decide) rfl (fun (h_75 : (R_X3_isRoomSign a2) = 0) => ?_) (fun (h_75 : ¬ ((R_X3_isRoomSign a2) = 0)) => ?_)
  · rw [if_pos h_75] at hR
    replace hok := hok.1 h_75
    refine G_iload_n hX dX3_readAct_83 rfl rfl ?_
    exact nr_sub (by exact ⟨rfl, rfl, rfl, rfl, trivial⟩) (sp_X3_readAct_84 Γ ρ d rc oc hA X hX a1 a2 (z 5) (z 5) a2 (va_up (va_up z 5 ((z 5) + (1 : Int32))) 8 ((z 8) + (1 : Int32))) g R0 hR hok)
  · rw [if_neg h_75] at hR
    replace hok := hok.2 h_75
    refine G_bipush (v := (82 : Int32)) hX dX3_readAct_78 (by decide) rfl ?_
    refine G_goto (tg := 84) hX dX3_readAct_80 (by decide) ?_
    exact nr_sub (by exact ⟨rfl, rfl, rfl, rfl, trivial⟩) (sp_X3_readAct_84 Γ ρ d rc oc hA X hX a1 a2 (z 5) (z 5) (82 : Int32) (va_up (va_up z 5 ((z 5) + (1 : Int32))) 8 ((z 8) + (1 : Int32))) g R0 hR hok)
def T_X3_readAct (rc : Int32 → nr_S → Int32 × nr_S) (oc : Int32 → nr_S → Prop) (a1 : Int32) (z : Nat → Int32) (g : Nat → Nat → Int32) : Int32 × nr_S := (nr_K (T_X3_nextSign z g) (fun r_1 z_1 g_1 => (if (R_X3_holdsActs r_1) = 0 then (T_X3_readAct_41 rc oc a1 r_1 z_1 g_1) else (if a1 < (8 : Int32) then (T_X3_readAct_41 rc oc a1 r_1 (va_up z_1 6 (if (z_1 6) < (a1 + (1 : Int32)) then (a1 + (1 : Int32)) else (z_1 6))) g_1) else (0, (va_up z_1 9 (z_1 8)), g_1)))))
def O_X3_readAct (rc : Int32 → nr_S → Int32 × nr_S) (oc : Int32 → nr_S → Prop) (a1 : Int32) (z : Nat → Int32) (g : Nat → Nat → Int32) : Prop := ((O_X3_nextSign z g ∧ nr_KP (T_X3_nextSign z g) (fun r_1 z_1 g_1 => (((R_X3_holdsActs r_1) = 0 → (O_X3_readAct_41 rc oc a1 r_1 z_1 g_1)) ∧ (¬ ((R_X3_holdsActs r_1) = 0) → ((a1 < (8 : Int32) → (O_X3_readAct_41 rc oc a1 r_1 (va_up z_1 6 (if (z_1 6) < (a1 + (1 : Int32)) then (a1 + (1 : Int32)) else (z_1 6))) g_1)) ∧ (¬ (a1 < (8 : Int32)) → True)))))))
set_option maxHeartbeats 4000000 in
set_option maxRecDepth 100000 in
theorem sp_X3_readAct (Γ : nr_M) (ρ : Nat → Nat) (d : Nat) (rc : Int32 → nr_S → Int32 × nr_S) (oc : Int32 → nr_S → Prop) (hA : ∀ (a1 : Int32) (z : Nat → Int32) (g : Nat → Nat → Int32), oc a1 (z, g) → nr_Sv Γ ρ d yX3_readActs cX3_readActs 3 none [.ref (ρ 7), .int a1] z g (fun u => rc a1 (z, g) = (0, u))) (a1 : Int32) (z : Nat → Int32) (g : Nat → Nat → Int32) (hok : O_X3_readAct rc oc a1 z g) : nr_Sv Γ ρ (d + 4) yX3_readAct cX3_readAct 4 none [.ref (ρ 7), .int a1] z g (fun u => (T_X3_readAct rc oc a1 z g) = (0, u)) := by
  refine nr_body_v (lv := [(0, .ref (ρ 7)), (1, .int a1)]) (by decide +kernel) (Nat.le_of_ble_eq_true rfl) rfl (fun X hX => ?_)
  generalize hR : (T_X3_readAct rc oc a1 z g) = R0
  rw [T_X3_readAct] at hR
  rw [O_X3_readAct] at hok
  refine G_aload_n hX dX3_readAct_0 rfl rfl ?_
  obtain ⟨ho_1, hok⟩ := hok
  refine G_cVi hX dX3_readAct_1 lv_RX3_54 (sp_X3_nextSign Γ ρ d z g ho_1) (by omega) nr_is_7 rfl rfl (Nat.le_of_ble_eq_true rfl) rfl (fun r_1 u_1 e_1 => ?_)
  obtain ⟨z_1, g_1⟩ := u_1
  rw [e_1, nr_K_mk] at hR
  rw [e_1, nr_KP_mk] at hok
  refine G_istore_n hX dX3_readAct_4 (by decide) rfl rfl ?_
  refine G_iload_n hX dX3_readAct_5 rfl rfl ?_
  refine G_fSi hX dX3_readAct_6 ls_RX3_65 (sp_X3_holdsActs Γ ρ d r_1 z_1 g_1) (by omega) rfl rfl (Nat.le_of_ble_eq_true rfl) rfl ?_
  refine G_if_eq (tg := 41) hX dX3_readAct_9 (by decide) rfl (fun (h_9 : (R_X3_holdsActs r_1) = 0) => ?_) (fun (h_9 : ¬ ((R_X3_holdsActs r_1) = 0)) => ?_)
  · rw [if_pos h_9] at hR
    replace hok := hok.1 h_9
    exact nr_sub (by exact ⟨rfl, rfl, rfl, trivial⟩) (sp_X3_readAct_41 Γ ρ d rc oc hA X hX a1 r_1 z_1 g_1 R0 hR hok)
  · rw [if_neg h_9] at hR
    replace hok := hok.2 h_9
    refine G_iload_n hX dX3_readAct_12 rfl rfl ?_
    refine G_bipush (v := (8 : Int32)) hX dX3_readAct_13 (by decide) rfl ?_
    refine G_icmp_lt (tg := 27) hX dX3_readAct_15 (by decide) rfl (fun (h_15 : a1 < (8 : Int32)) => ?_) (fun (h_15 : ¬ (a1 < (8 : Int32))) => ?_)
    · rw [if_pos h_15] at hR
      replace hok := hok.1 h_15
      refine G_aload_n hX dX3_readAct_27 rfl rfl ?_
      refine G_aload_n hX dX3_readAct_28 rfl rfl ?_
      refine G_geti hX dX3_readAct_29 gt_RX3_34 rfl ?_
      refine G_iload_n hX dX3_readAct_32 rfl rfl ?_
      refine G_iconst (v := (1 : Int32)) hX dX3_readAct_33 (by decide) rfl ?_
      refine G_iadd hX dX3_readAct_34 rfl ?_
      refine G_max hX dX3_readAct_35 wm_RX3_68 (by omega) (Nat.le_of_ble_eq_true rfl) rfl ?_
      refine G_put hX dX3_readAct_38 pt_RX3_34 rfl rfl rfl ?_
      exact nr_sub (by exact ⟨rfl, rfl, rfl, trivial⟩) (sp_X3_readAct_41 Γ ρ d rc oc hA X hX a1 r_1 (va_up z_1 6 (if (z_1 6) < (a1 + (1 : Int32)) then (a1 + (1 : Int32)) else (z_1 6))) g_1 R0 hR hok)
    · rw [if_neg h_15] at hR
      replace hok := hok.2 h_15
      refine G_aload_n hX dX3_readAct_18 rfl rfl ?_
      refine G_aload_n hX dX3_readAct_19 rfl rfl ?_
      refine G_geti hX dX3_readAct_20 gt_RX3_44 rfl ?_
      refine G_put hX dX3_readAct_23 pt_RX3_47 rfl rfl rfl ?_
      exact G_vret hX dX3_readAct_26 hR.symm
def T_X3_readActs_2 (rc : Int32 → nr_S → Int32 × nr_S) (oc : Int32 → nr_S → Prop) : Nat → Int32 → Int32 → (Nat → Int32) → (Nat → Nat → Int32) → Int32 × nr_S
  | 0, _, _, z, g => (0, z, g)
  | n + 1, a1, a2, z, g => (if (100 : Int32) ≤ a2 then (0, z, g) else (if (z 9) = (-1 : Int32) then (nr_K (T_X3_nextSign z g) (fun r_17 z_17 g_17 => (if (R_X3_beginsAct r_17) = 0 then (0, z_17, g_17) else (nr_K (T_X3_readAct rc oc a1 z_17 g_17) (fun r_28 z_28 g_28 => (T_X3_readActs_2 rc oc n a1 (a2 + (1 : Int32)) z_28 g_28)))))) else (0, z, g)))
def O_X3_readActs_2 (rc : Int32 → nr_S → Int32 × nr_S) (oc : Int32 → nr_S → Prop) : Nat → Int32 → Int32 → (Nat → Int32) → (Nat → Nat → Int32) → Prop
  | 0, _, _, _, _ => False
  | n + 1, a1, a2, z, g => (((100 : Int32) ≤ a2 → True) ∧ (¬ ((100 : Int32) ≤ a2) → (((z 9) = (-1 : Int32) → ((O_X3_nextSign z g ∧ nr_KP (T_X3_nextSign z g) (fun r_17 z_17 g_17 => (((R_X3_beginsAct r_17) = 0 → True) ∧ (¬ ((R_X3_beginsAct r_17) = 0) → ((O_X3_readAct rc oc a1 z_17 g_17 ∧ nr_KP (T_X3_readAct rc oc a1 z_17 g_17) (fun r_28 z_28 g_28 => (O_X3_readActs_2 rc oc n a1 (a2 + (1 : Int32)) z_28 g_28)))))))))) ∧ (¬ ((z 9) = (-1 : Int32)) → True))))
set_option maxHeartbeats 4000000 in
set_option maxRecDepth 100000 in
theorem sp_X3_readActs_2 (Γ : nr_M) (ρ : Nat → Nat) (d : Nat) (rc : Int32 → nr_S → Int32 × nr_S) (oc : Int32 → nr_S → Prop) (hA : ∀ (a1 : Int32) (z : Nat → Int32) (g : Nat → Nat → Int32), oc a1 (z, g) → nr_Sv Γ ρ d yX3_readActs cX3_readActs 3 none [.ref (ρ 7), .int a1] z g (fun u => rc a1 (z, g) = (0, u))) (X : nr_CX) (hX : nr_Cx Γ ρ X yX3_readActs cX3_readActs 3 none (d + 5)) : ∀ (n : Nat) (a1 : Int32) (a2 : Int32) (z : Nat → Int32) (g : Nat → Nat → Int32) (R0 : Int32 × nr_S) (_ : T_X3_readActs_2 rc oc n a1 a2 z g = R0) (_ : O_X3_readActs_2 rc oc n a1 a2 z g), nr_G Γ ρ X 3 (nr_Qv Γ ρ X (fun u => R0 = (0, u))) 2 [(0, .ref (ρ 7)), (1, .int a1), (2, .int a2)] [] z g := by
  intro n
  induction n with
  | zero => intro a1 a2 z g R0 hR hok; exact False.elim hok
  | succ n ih =>
    intro a1 a2 z g R0 hR hok
    rw [T_X3_readActs_2] at hR
    rw [O_X3_readActs_2] at hok
    refine G_iload_n hX dX3_readActs_2 rfl rfl ?_
    refine G_bipush (v := (100 : Int32)) hX dX3_readActs_3 (by decide) rfl ?_
    refine G_icmp_ge (tg := 37) hX dX3_readActs_5 (by decide) rfl (fun (h_5 : (100 : Int32) ≤ a2) => ?_) (fun (h_5 : ¬ ((100 : Int32) ≤ a2)) => ?_)
    · rw [if_pos h_5] at hR
      replace hok := hok.1 h_5
      exact G_vret hX dX3_readActs_37 hR.symm
    · rw [if_neg h_5] at hR
      replace hok := hok.2 h_5
      refine G_aload_n hX dX3_readActs_8 rfl rfl ?_
      refine G_geti hX dX3_readActs_9 gt_RX3_47 rfl ?_
      refine G_iconst (v := (-1 : Int32)) hX dX3_readActs_12 (by decide) rfl ?_
      refine G_icmp_ne (tg := 37) hX dX3_readActs_13 (by decide) rfl (fun (h_13 : ¬ ((z 9) = (-1 : Int32))) => ?_) (fun (h_13 : (z 9) = (-1 : Int32)) => ?_)
      · rw [if_neg h_13] at hR
        replace hok := hok.2 h_13
        exact G_vret hX dX3_readActs_37 hR.symm
      · rw [if_pos h_13] at hR
        replace hok := hok.1 h_13
        refine G_aload_n hX dX3_readActs_16 rfl rfl ?_
        obtain ⟨ho_17, hok⟩ := hok
        refine G_cVi hX dX3_readActs_17 lv_RX3_54 (sp_X3_nextSign Γ ρ d z g ho_17) (by omega) nr_is_7 rfl rfl (Nat.le_of_ble_eq_true rfl) rfl (fun r_17 u_17 e_17 => ?_)
        obtain ⟨z_17, g_17⟩ := u_17
        rw [e_17, nr_K_mk] at hR
        rw [e_17, nr_KP_mk] at hok
        refine G_fSi hX dX3_readActs_20 ls_RX3_58 (sp_X3_beginsAct Γ ρ d r_17 z_17 g_17) (by omega) rfl rfl (Nat.le_of_ble_eq_true rfl) rfl ?_
        refine G_if_eq (tg := 37) hX dX3_readActs_23 (by decide) rfl (fun (h_23 : (R_X3_beginsAct r_17) = 0) => ?_) (fun (h_23 : ¬ ((R_X3_beginsAct r_17) = 0)) => ?_)
        · rw [if_pos h_23] at hR
          replace hok := hok.1 h_23
          exact G_vret hX dX3_readActs_37 hR.symm
        · rw [if_neg h_23] at hR
          replace hok := hok.2 h_23
          refine G_aload_n hX dX3_readActs_26 rfl rfl ?_
          refine G_iload_n hX dX3_readActs_27 rfl rfl ?_
          obtain ⟨ho_28, hok⟩ := hok
          refine G_cVv hX dX3_readActs_28 lv_RX3_62 (sp_X3_readAct Γ ρ d rc oc hA a1 z_17 g_17 ho_28) (by omega) nr_is_7 rfl rfl (Nat.le_of_ble_eq_true rfl) rfl (fun u_28 e_28 => ?_)
          obtain ⟨z_28, g_28⟩ := u_28
          rw [e_28, nr_K_mk] at hR
          rw [e_28, nr_KP_mk] at hok
          refine G_iinc (v := (a2 + (1 : Int32))) hX dX3_readActs_31 rfl rfl (by decide) rfl rfl ?_
          refine G_goto (tg := 2) hX dX3_readActs_34 (by decide) ?_
          exact nr_sub (by exact ⟨rfl, rfl, rfl, trivial⟩) (ih a1 (a2 + (1 : Int32)) z_28 g_28 R0 hR hok)
def T_X3_readActs (rc : Int32 → nr_S → Int32 × nr_S) (oc : Int32 → nr_S → Prop) (a1 : Int32) (z : Nat → Int32) (g : Nat → Nat → Int32) : Int32 × nr_S := (T_X3_readActs_2 rc oc 500 a1 (0 : Int32) z g)
def O_X3_readActs (rc : Int32 → nr_S → Int32 × nr_S) (oc : Int32 → nr_S → Prop) (a1 : Int32) (z : Nat → Int32) (g : Nat → Nat → Int32) : Prop := (O_X3_readActs_2 rc oc 500 a1 (0 : Int32) z g)
set_option maxHeartbeats 4000000 in
set_option maxRecDepth 100000 in
theorem sp_X3_readActs (Γ : nr_M) (ρ : Nat → Nat) (d : Nat) (rc : Int32 → nr_S → Int32 × nr_S) (oc : Int32 → nr_S → Prop) (hA : ∀ (a1 : Int32) (z : Nat → Int32) (g : Nat → Nat → Int32), oc a1 (z, g) → nr_Sv Γ ρ d yX3_readActs cX3_readActs 3 none [.ref (ρ 7), .int a1] z g (fun u => rc a1 (z, g) = (0, u))) (a1 : Int32) (z : Nat → Int32) (g : Nat → Nat → Int32) (hok : O_X3_readActs rc oc a1 z g) : nr_Sv Γ ρ (d + 5) yX3_readActs cX3_readActs 3 none [.ref (ρ 7), .int a1] z g (fun u => (T_X3_readActs rc oc a1 z g) = (0, u)) := by
  refine nr_body_v (lv := [(0, .ref (ρ 7)), (1, .int a1)]) (by decide +kernel) (Nat.le_of_ble_eq_true rfl) rfl (fun X hX => ?_)
  generalize hR : (T_X3_readActs rc oc a1 z g) = R0
  rw [T_X3_readActs] at hR
  rw [O_X3_readActs] at hok
  refine G_iconst (v := (0 : Int32)) hX dX3_readActs_0 (by decide) rfl ?_
  refine G_istore_n hX dX3_readActs_1 (by decide) rfl rfl ?_
  exact nr_sub (by exact ⟨rfl, rfl, rfl, trivial⟩) (sp_X3_readActs_2 Γ ρ d rc oc hA X hX 500 a1 (0 : Int32) z g R0 hR hok)
/-- the reader's group tied: k levels of readActs -/
def nA : Nat → (Int32 → nr_S → Int32 × nr_S) × (Int32 → nr_S → Prop)
  | 0 => (fun _ u => (0, u), fun _ _ => False)
  | k + 1 => (fun a u => T_X3_readActs (nA k).1 (nA k).2 a u.1 u.2, fun a u => O_X3_readActs (nA k).1 (nA k).2 a u.1 u.2)
theorem sp_nA (Γ : nr_M) (ρ : Nat → Nat) (d : Nat) : ∀ (k : Nat) (a1 : Int32) (z : Nat → Int32) (g : Nat → Nat → Int32), (nA k).2 a1 (z, g) → nr_Sv Γ ρ (d + 5 * k) yX3_readActs cX3_readActs 3 none [.ref (ρ 7), .int a1] z g (fun u => (nA k).1 a1 (z, g) = (0, u))
  | 0, _, _, _, hq => False.elim hq
  | k + 1, a1, z, g, hq => sp_X3_readActs Γ ρ (d + 5 * k) (nA k).1 (nA k).2 (sp_nA Γ ρ d k) a1 z g hq
def T_X3_read_54 (K : Nat)  (z : Nat → Int32) (g : Nat → Nat → Int32) : Int32 × nr_S := ((z 9), z, g)
def O_X3_read_54 (K : Nat)  (z : Nat → Int32) (g : Nat → Nat → Int32) : Prop := True
set_option maxHeartbeats 4000000 in
set_option maxRecDepth 100000 in
theorem sp_X3_read_54 (Γ : nr_M) (ρ : Nat → Nat) (d : Nat) (K : Nat) (X : nr_CX) (hX : nr_Cx Γ ρ X yX3_read cX3_read 1 (some .int) (d + 5 * K + 1))  (z : Nat → Int32) (g : Nat → Nat → Int32) (R0 : Int32 × nr_S) (hR : T_X3_read_54 K  z g = R0) (hok : O_X3_read_54 K  z g) : nr_G Γ ρ X 1 (nr_Qi Γ ρ X (fun x u => R0 = (x, u))) 54 [(0, .ref (ρ 7))] [] z g := by
  rw [T_X3_read_54] at hR
  rw [O_X3_read_54] at hok
  refine G_aload_n hX dX3_read_54 rfl rfl ?_
  refine G_geti hX dX3_read_55 gt_RX3_47 rfl ?_
  exact G_iret hX rfl dX3_read_58 rfl hR.symm
def T_X3_read (K : Nat) (z : Nat → Int32) (g : Nat → Nat → Int32) : Int32 × nr_S := (nr_K ((nA K).1 (0 : Int32) ((va_up (va_up (va_up (va_up (va_up z 5 (0 : Int32)) 6 (0 : Int32)) 7 (0 : Int32)) 8 (0 : Int32)) 9 (-1 : Int32)), g)) (fun r_27 z_27 g_27 => (if (z_27 9) = (-1 : Int32) then (nr_K (T_X3_nextSign z_27 g_27) (fun r_39 z_39 g_39 => (if r_39 = (-1 : Int32) then (T_X3_read_54 K  z_39 g_39) else (T_X3_read_54 K  (va_up z_39 9 (z_39 8)) g_39)))) else (T_X3_read_54 K  z_27 g_27))))
def O_X3_read (K : Nat) (z : Nat → Int32) (g : Nat → Nat → Int32) : Prop := (((nA K).2 (0 : Int32) ((va_up (va_up (va_up (va_up (va_up z 5 (0 : Int32)) 6 (0 : Int32)) 7 (0 : Int32)) 8 (0 : Int32)) 9 (-1 : Int32)), g) ∧ nr_KP ((nA K).1 (0 : Int32) ((va_up (va_up (va_up (va_up (va_up z 5 (0 : Int32)) 6 (0 : Int32)) 7 (0 : Int32)) 8 (0 : Int32)) 9 (-1 : Int32)), g)) (fun r_27 z_27 g_27 => (((z_27 9) = (-1 : Int32) → ((O_X3_nextSign z_27 g_27 ∧ nr_KP (T_X3_nextSign z_27 g_27) (fun r_39 z_39 g_39 => ((r_39 = (-1 : Int32) → (O_X3_read_54 K  z_39 g_39)) ∧ (¬ (r_39 = (-1 : Int32)) → (O_X3_read_54 K  (va_up z_39 9 (z_39 8)) g_39))))))) ∧ (¬ ((z_27 9) = (-1 : Int32)) → (O_X3_read_54 K  z_27 g_27))))))
set_option maxHeartbeats 4000000 in
set_option maxRecDepth 100000 in
theorem sp_X3_read (Γ : nr_M) (ρ : Nat → Nat) (d : Nat) (K : Nat) (z : Nat → Int32) (g : Nat → Nat → Int32) (hok : O_X3_read K z g) : nr_Si Γ ρ (d + 5 * K + 1) yX3_read cX3_read 1 (some .int) [.ref (ρ 7)] z g (fun x u => (T_X3_read K z g) = (x, u)) := by
  refine nr_body_i (lv := [(0, .ref (ρ 7))]) (by decide +kernel) (Nat.le_of_ble_eq_true rfl) rfl (fun X hX => ?_)
  generalize hR : (T_X3_read K z g) = R0
  rw [T_X3_read] at hR
  rw [O_X3_read] at hok
  refine G_aload_n hX dX3_read_0 rfl rfl ?_
  refine G_iconst (v := (0 : Int32)) hX dX3_read_1 (by decide) rfl ?_
  refine G_put hX dX3_read_2 pt_RX3_31 rfl rfl rfl ?_
  refine G_aload_n hX dX3_read_5 rfl rfl ?_
  refine G_iconst (v := (0 : Int32)) hX dX3_read_6 (by decide) rfl ?_
  refine G_put hX dX3_read_7 pt_RX3_34 rfl rfl rfl ?_
  refine G_aload_n hX dX3_read_10 rfl rfl ?_
  refine G_iconst (v := (0 : Int32)) hX dX3_read_11 (by decide) rfl ?_
  refine G_put hX dX3_read_12 pt_RX3_37 rfl rfl rfl ?_
  refine G_aload_n hX dX3_read_15 rfl rfl ?_
  refine G_iconst (v := (0 : Int32)) hX dX3_read_16 (by decide) rfl ?_
  refine G_put hX dX3_read_17 pt_RX3_44 rfl rfl rfl ?_
  refine G_aload_n hX dX3_read_20 rfl rfl ?_
  refine G_iconst (v := (-1 : Int32)) hX dX3_read_21 (by decide) rfl ?_
  refine G_put hX dX3_read_22 pt_RX3_47 rfl rfl rfl ?_
  refine G_aload_n hX dX3_read_25 rfl rfl ?_
  refine G_iconst (v := (0 : Int32)) hX dX3_read_26 (by decide) rfl ?_
  obtain ⟨ho_27, hok⟩ := hok
  refine G_cVv hX dX3_read_27 lv_RX3_50 (sp_nA Γ ρ d K (0 : Int32) (va_up (va_up (va_up (va_up (va_up z 5 (0 : Int32)) 6 (0 : Int32)) 7 (0 : Int32)) 8 (0 : Int32)) 9 (-1 : Int32)) g ho_27) (by omega) nr_is_7 rfl rfl (Nat.le_of_ble_eq_true rfl) rfl (fun u_27 e_27 => ?_)
  obtain ⟨z_27, g_27⟩ := u_27
  rw [e_27, nr_K_mk] at hR
  rw [e_27, nr_KP_mk] at hok
  refine G_aload_n hX dX3_read_30 rfl rfl ?_
  refine G_geti hX dX3_read_31 gt_RX3_47 rfl ?_
  refine G_iconst (v := (-1 : Int32)) hX dX3_read_34 (by decide) rfl ?_
  refine G_icmp_ne (tg := 54) hX dX3_read_35 (by decide) rfl (fun (h_35 : ¬ ((z_27 9) = (-1 : Int32))) => ?_) (fun (h_35 : (z_27 9) = (-1 : Int32)) => ?_)
  · rw [if_neg h_35] at hR
    replace hok := hok.2 h_35
    exact nr_sub (by exact ⟨rfl, trivial⟩) (sp_X3_read_54 Γ ρ d K X hX z_27 g_27 R0 hR hok)
  · rw [if_pos h_35] at hR
    replace hok := hok.1 h_35
    refine G_aload_n hX dX3_read_38 rfl rfl ?_
    obtain ⟨ho_39, hok⟩ := hok
    refine G_cVi hX dX3_read_39 lv_RX3_54 (sp_X3_nextSign Γ ρ d z_27 g_27 ho_39) (by omega) nr_is_7 rfl rfl (Nat.le_of_ble_eq_true rfl) rfl (fun r_39 u_39 e_39 => ?_)
    obtain ⟨z_39, g_39⟩ := u_39
    rw [e_39, nr_K_mk] at hR
    rw [e_39, nr_KP_mk] at hok
    refine G_iconst (v := (-1 : Int32)) hX dX3_read_42 (by decide) rfl ?_
    refine G_icmp_eq (tg := 54) hX dX3_read_43 (by decide) rfl (fun (h_43 : r_39 = (-1 : Int32)) => ?_) (fun (h_43 : ¬ (r_39 = (-1 : Int32))) => ?_)
    · rw [if_pos h_43] at hR
      replace hok := hok.1 h_43
      exact nr_sub (by exact ⟨rfl, trivial⟩) (sp_X3_read_54 Γ ρ d K X hX z_39 g_39 R0 hR hok)
    · rw [if_neg h_43] at hR
      replace hok := hok.2 h_43
      refine G_aload_n hX dX3_read_46 rfl rfl ?_
      refine G_aload_n hX dX3_read_47 rfl rfl ?_
      refine G_geti hX dX3_read_48 gt_RX3_44 rfl ?_
      refine G_put hX dX3_read_51 pt_RX3_47 rfl rfl rfl ?_
      exact nr_sub (by exact ⟨rfl, trivial⟩) (sp_X3_read_54 Γ ρ d K X hX (va_up z_39 9 (z_39 8)) g_39 R0 hR hok)
def R_X3_deepest  (z : Nat → Int32) (g : Nat → Nat → Int32) : Int32 := (z 6)
set_option maxHeartbeats 4000000 in
set_option maxRecDepth 100000 in
theorem sp_X3_deepest (Γ : nr_M) (ρ : Nat → Nat) (d : Nat) (z : Nat → Int32) (g : Nat → Nat → Int32) : nr_Si Γ ρ (d + 0) yX3_deepest cX3_deepest 1 (some .int) [.ref (ρ 7)] z g (fun x u => x = (R_X3_deepest z g) ∧ u = (z, g)) := by
  refine nr_body_i (lv := [(0, .ref (ρ 7))]) (by decide +kernel) (Nat.le_of_ble_eq_true rfl) rfl (fun X hX => ?_)
  generalize hR : (R_X3_deepest z g) = R0
  rw [R_X3_deepest] at hR
  refine G_aload_n hX dX3_deepest_0 rfl rfl ?_
  refine G_geti hX dX3_deepest_1 gt_RX3_34 rfl ?_
  exact G_iret hX rfl dX3_deepest_4 rfl ⟨hR, rfl⟩
def R_X3_roomBits  (z : Nat → Int32) (g : Nat → Nat → Int32) : Int32 := (z 7)
set_option maxHeartbeats 4000000 in
set_option maxRecDepth 100000 in
theorem sp_X3_roomBits (Γ : nr_M) (ρ : Nat → Nat) (d : Nat) (z : Nat → Int32) (g : Nat → Nat → Int32) : nr_Si Γ ρ (d + 0) yX3_roomBits cX3_roomBits 1 (some .int) [.ref (ρ 7)] z g (fun x u => x = (R_X3_roomBits z g) ∧ u = (z, g)) := by
  refine nr_body_i (lv := [(0, .ref (ρ 7))]) (by decide +kernel) (Nat.le_of_ble_eq_true rfl) rfl (fun X hX => ?_)
  generalize hR : (R_X3_roomBits z g) = R0
  rw [R_X3_roomBits] at hR
  refine G_aload_n hX dX3_roomBits_0 rfl rfl ?_
  refine G_geti hX dX3_roomBits_1 gt_RX3_37 rfl ?_
  exact G_iret hX rfl dX3_roomBits_4 rfl ⟨hR, rfl⟩
