def R_X6_at (a1 : Int32) (a2 : Int32) (z : Nat → Int32) (g : Nat → Nat → Int32) : Int32 := (g 21 ((((7 : Int32) * a1) + a2)).toNatClampNeg)
def O_X6_at (a1 : Int32) (a2 : Int32) (z : Nat → Int32) (g : Nat → Nat → Int32) : Prop := (vp_in (((7 : Int32) * a1) + a2) 58 ∧ True)
set_option maxHeartbeats 4000000 in
set_option maxRecDepth 100000 in
theorem sp_X6_at (Γ : nr_M) (ρ : Nat → Nat) (d : Nat) (a1 : Int32) (a2 : Int32) (z : Nat → Int32) (g : Nat → Nat → Int32) (hok : O_X6_at a1 a2 z g) : nr_Si Γ ρ (d + 0) yX6_at cX6_at 3 (some .int) [.ref (ρ 20), .int a1, .int a2] z g (fun x u => x = (R_X6_at a1 a2 z g) ∧ u = (z, g)) := by
  refine nr_body_i (lv := [(0, .ref (ρ 20)), (1, .int a1), (2, .int a2)]) (by decide +kernel) (Nat.le_of_ble_eq_true rfl) rfl (fun X hX => ?_)
  generalize hR : (R_X6_at a1 a2 z g) = R0
  rw [R_X6_at] at hR
  rw [O_X6_at] at hok
  refine G_aload_n hX dX6_at_0 rfl rfl ?_
  refine G_getr hX dX6_at_1 gt_RX6_7 rfl ?_
  refine G_bipush (v := (7 : Int32)) hX dX6_at_4 (by decide) rfl ?_
  refine G_iload_n hX dX6_at_6 rfl rfl ?_
  refine G_imul hX dX6_at_7 rfl ?_
  refine G_iload_n hX dX6_at_8 rfl rfl ?_
  refine G_iadd hX dX6_at_9 rfl ?_
  obtain ⟨hi_10, hok⟩ := hok
  refine G_iald hX dX6_at_10 (rfl : nr_il 21 = 58) (by decide) hi_10 rfl ?_
  exact G_iret hX rfl dX6_at_11 rfl ⟨hR, rfl⟩
def T_X6_put (a1 : Int32) (a2 : Int32) (a3 : Int32) (z : Nat → Int32) (g : Nat → Nat → Int32) : Int32 × nr_S := (0, z, (nr_st g 21 (((7 : Int32) * a1) + a2) a3))
def O_X6_put (a1 : Int32) (a2 : Int32) (a3 : Int32) (z : Nat → Int32) (g : Nat → Nat → Int32) : Prop := (vp_in (((7 : Int32) * a1) + a2) 58 ∧ True)
set_option maxHeartbeats 4000000 in
set_option maxRecDepth 100000 in
theorem sp_X6_put (Γ : nr_M) (ρ : Nat → Nat) (d : Nat) (a1 : Int32) (a2 : Int32) (a3 : Int32) (z : Nat → Int32) (g : Nat → Nat → Int32) (hok : O_X6_put a1 a2 a3 z g) : nr_Sv Γ ρ (d + 0) yX6_put cX6_put 4 none [.ref (ρ 20), .int a1, .int a2, .int a3] z g (fun u => (T_X6_put a1 a2 a3 z g) = (0, u)) := by
  refine nr_body_v (lv := [(0, .ref (ρ 20)), (1, .int a1), (2, .int a2), (3, .int a3)]) (by decide +kernel) (Nat.le_of_ble_eq_true rfl) rfl (fun X hX => ?_)
  generalize hR : (T_X6_put a1 a2 a3 z g) = R0
  rw [T_X6_put] at hR
  rw [O_X6_put] at hok
  refine G_aload_n hX dX6_put_0 rfl rfl ?_
  refine G_getr hX dX6_put_1 gt_RX6_7 rfl ?_
  refine G_bipush (v := (7 : Int32)) hX dX6_put_4 (by decide) rfl ?_
  refine G_iload_n hX dX6_put_6 rfl rfl ?_
  refine G_imul hX dX6_put_7 rfl ?_
  refine G_iload_n hX dX6_put_8 rfl rfl ?_
  refine G_iadd hX dX6_put_9 rfl ?_
  refine G_iload_n hX dX6_put_10 rfl rfl ?_
  obtain ⟨hi_11, hok⟩ := hok
  refine G_ist hX dX6_put_11 (rfl : nr_il 21 = 58) (by decide) hi_11 rfl ?_
  exact G_vret hX dX6_put_12 hR.symm
def R_X6_loudAs (a0 : Int32) (a1 : Int32) : Int32 := (if a0 = 0 then (0 : Int32) else (if a0 = (1 : Int32) then (2 : Int32) else (if a0 = (2 : Int32) then ((2 : Int32) + (nr_rem a1 (3 : Int32))) else (if a0 = (3 : Int32) then (if a1 ≤ (2 : Int32) then (2 : Int32) else (0 : Int32)) else ((2 : Int32) * ((2 : Int32) + (nr_rem a1 (3 : Int32))))))))
set_option maxHeartbeats 4000000 in
set_option maxRecDepth 100000 in
theorem sp_X6_loudAs (Γ : nr_M) (ρ : Nat → Nat) (d : Nat) (a0 : Int32) (a1 : Int32) (z : Nat → Int32) (g : Nat → Nat → Int32) : nr_Si Γ ρ (d + 0) yX6_loudAs cX6_loudAs 4 (some .int) [.int a0, .int a1] z g (fun x u => x = (R_X6_loudAs a0 a1) ∧ u = (z, g)) := by
  refine nr_body_i (lv := [(0, .int a0), (1, .int a1)]) (by decide +kernel) (Nat.le_of_ble_eq_true rfl) rfl (fun X hX => ?_)
  generalize hR : (R_X6_loudAs a0 a1) = R0
  rw [R_X6_loudAs] at hR
  refine G_iconst (v := (2 : Int32)) hX dX6_loudAs_0 (by decide) rfl ?_
  refine G_istore_n hX dX6_loudAs_1 (by decide) rfl rfl ?_
  refine G_iload_n hX dX6_loudAs_2 rfl rfl ?_
  refine G_iload_n hX dX6_loudAs_3 rfl rfl ?_
  refine G_iconst (v := (3 : Int32)) hX dX6_loudAs_4 (by decide) rfl ?_
  refine G_irem hX dX6_loudAs_5 (by decide) rfl ?_
  refine G_iadd hX dX6_loudAs_6 rfl ?_
  refine G_istore_n hX dX6_loudAs_7 (by decide) rfl rfl ?_
  refine G_iload_n hX dX6_loudAs_8 rfl rfl ?_
  refine G_if_ne (tg := 16) hX dX6_loudAs_9 (by decide) rfl (fun (h_9 : ¬ (a0 = 0)) => ?_) (fun (h_9 : a0 = 0) => ?_)
  · rw [if_neg h_9] at hR
    refine G_iload_n hX dX6_loudAs_16 rfl rfl ?_
    refine G_iconst (v := (1 : Int32)) hX dX6_loudAs_17 (by decide) rfl ?_
    refine G_icmp_ne (tg := 25) hX dX6_loudAs_18 (by decide) rfl (fun (h_18 : ¬ (a0 = (1 : Int32))) => ?_) (fun (h_18 : a0 = (1 : Int32)) => ?_)
    · rw [if_neg h_18] at hR
      refine G_iload_n hX dX6_loudAs_25 rfl rfl ?_
      refine G_iconst (v := (2 : Int32)) hX dX6_loudAs_26 (by decide) rfl ?_
      refine G_icmp_ne (tg := 34) hX dX6_loudAs_27 (by decide) rfl (fun (h_27 : ¬ (a0 = (2 : Int32))) => ?_) (fun (h_27 : a0 = (2 : Int32)) => ?_)
      · rw [if_neg h_27] at hR
        refine G_iload_n hX dX6_loudAs_34 rfl rfl ?_
        refine G_iconst (v := (3 : Int32)) hX dX6_loudAs_35 (by decide) rfl ?_
        refine G_icmp_ne (tg := 52) hX dX6_loudAs_36 (by decide) rfl (fun (h_36 : ¬ (a0 = (3 : Int32))) => ?_) (fun (h_36 : a0 = (3 : Int32)) => ?_)
        · rw [if_neg h_36] at hR
          refine G_iconst (v := (2 : Int32)) hX dX6_loudAs_52 (by decide) rfl ?_
          refine G_iload_n hX dX6_loudAs_53 rfl rfl ?_
          refine G_imul hX dX6_loudAs_54 rfl ?_
          exact G_iret hX rfl dX6_loudAs_55 rfl ⟨hR, rfl⟩
        · rw [if_pos h_36] at hR
          refine G_iload_n hX dX6_loudAs_39 rfl rfl ?_
          refine G_iconst (v := (2 : Int32)) hX dX6_loudAs_40 (by decide) rfl ?_
          refine G_icmp_le (tg := 48) hX dX6_loudAs_41 (by decide) rfl (fun (h_41 : a1 ≤ (2 : Int32)) => ?_) (fun (h_41 : ¬ (a1 ≤ (2 : Int32))) => ?_)
          · rw [if_pos h_41] at hR
            refine G_iload_n hX dX6_loudAs_48 rfl rfl ?_
            refine G_goto (tg := 55) hX dX6_loudAs_49 (by decide) ?_
            exact G_iret hX rfl dX6_loudAs_55 rfl ⟨hR, rfl⟩
          · rw [if_neg h_41] at hR
            refine G_iconst (v := (0 : Int32)) hX dX6_loudAs_44 (by decide) rfl ?_
            refine G_goto (tg := 55) hX dX6_loudAs_45 (by decide) ?_
            exact G_iret hX rfl dX6_loudAs_55 rfl ⟨hR, rfl⟩
      · rw [if_pos h_27] at hR
        refine G_iload_n hX dX6_loudAs_30 rfl rfl ?_
        refine G_goto (tg := 55) hX dX6_loudAs_31 (by decide) ?_
        exact G_iret hX rfl dX6_loudAs_55 rfl ⟨hR, rfl⟩
    · rw [if_pos h_18] at hR
      refine G_iload_n hX dX6_loudAs_21 rfl rfl ?_
      refine G_goto (tg := 55) hX dX6_loudAs_22 (by decide) ?_
      exact G_iret hX rfl dX6_loudAs_55 rfl ⟨hR, rfl⟩
  · rw [if_pos h_9] at hR
    refine G_iconst (v := (0 : Int32)) hX dX6_loudAs_12 (by decide) rfl ?_
    refine G_goto (tg := 55) hX dX6_loudAs_13 (by decide) ?_
    exact G_iret hX rfl dX6_loudAs_55 rfl ⟨hR, rfl⟩
def R_X6_loud (a1 : Int32) (z : Nat → Int32) (g : Nat → Nat → Int32) : Int32 := (R_X6_loudAs (R_X6_at a1 (0 : Int32) z g) (R_X6_at a1 (6 : Int32) z g))
def O_X6_loud (a1 : Int32) (z : Nat → Int32) (g : Nat → Nat → Int32) : Prop := (O_X6_at a1 (0 : Int32) z g ∧ (O_X6_at a1 (6 : Int32) z g ∧ True))
set_option maxHeartbeats 4000000 in
set_option maxRecDepth 100000 in
theorem sp_X6_loud (Γ : nr_M) (ρ : Nat → Nat) (d : Nat) (a1 : Int32) (z : Nat → Int32) (g : Nat → Nat → Int32) (hok : O_X6_loud a1 z g) : nr_Si Γ ρ (d + 1) yX6_loud cX6_loud 2 (some .int) [.ref (ρ 20), .int a1] z g (fun x u => x = (R_X6_loud a1 z g) ∧ u = (z, g)) := by
  refine nr_body_i (lv := [(0, .ref (ρ 20)), (1, .int a1)]) (by decide +kernel) (Nat.le_of_ble_eq_true rfl) rfl (fun X hX => ?_)
  generalize hR : (R_X6_loud a1 z g) = R0
  rw [R_X6_loud] at hR
  rw [O_X6_loud] at hok
  refine G_aload_n hX dX6_loud_0 rfl rfl ?_
  refine G_iload_n hX dX6_loud_1 rfl rfl ?_
  refine G_iconst (v := (0 : Int32)) hX dX6_loud_2 (by decide) rfl ?_
  obtain ⟨ho_3, hok⟩ := hok
  refine G_fVi hX dX6_loud_3 lv_RX6_69 (sp_X6_at Γ ρ d a1 (0 : Int32) z g ho_3) (by omega) nr_is_20 rfl rfl (Nat.le_of_ble_eq_true rfl) rfl ?_
  refine G_aload_n hX dX6_loud_6 rfl rfl ?_
  refine G_iload_n hX dX6_loud_7 rfl rfl ?_
  refine G_bipush (v := (6 : Int32)) hX dX6_loud_8 (by decide) rfl ?_
  obtain ⟨ho_10, hok⟩ := hok
  refine G_fVi hX dX6_loud_10 lv_RX6_69 (sp_X6_at Γ ρ d a1 (6 : Int32) z g ho_10) (by omega) nr_is_20 rfl rfl (Nat.le_of_ble_eq_true rfl) rfl ?_
  refine G_fSi hX dX6_loud_13 ls_RX6_73 (sp_X6_loudAs Γ ρ d (R_X6_at a1 (0 : Int32) z g) (R_X6_at a1 (6 : Int32) z g) z g) (by omega) rfl rfl (Nat.le_of_ble_eq_true rfl) rfl ?_
  exact G_iret hX rfl dX6_loud_16 rfl ⟨hR, rfl⟩
def T_X6_befalls (a1 : Int32) (a2 : Int32) (z : Nat → Int32) (g : Nat → Nat → Int32) : Int32 × nr_S := (0, (va_up (va_up (va_up (va_up (va_up (va_up z 30 a1) 31 (z 36)) 32 a2) 33 (0 : Int32)) 34 a1) 29 ((z 29) + (1 : Int32))), g)
set_option maxHeartbeats 4000000 in
set_option maxRecDepth 100000 in
theorem sp_X6_befalls (Γ : nr_M) (ρ : Nat → Nat) (d : Nat) (a1 : Int32) (a2 : Int32) (z : Nat → Int32) (g : Nat → Nat → Int32) : nr_Sv Γ ρ (d + 0) yX6_befalls cX6_befalls 3 none [.ref (ρ 20), .int a1, .int a2] z g (fun u => (T_X6_befalls a1 a2 z g) = (0, u)) := by
  refine nr_body_v (lv := [(0, .ref (ρ 20)), (1, .int a1), (2, .int a2)]) (by decide +kernel) (Nat.le_of_ble_eq_true rfl) rfl (fun X hX => ?_)
  generalize hR : (T_X6_befalls a1 a2 z g) = R0
  rw [T_X6_befalls] at hR
  refine G_aload_n hX dX6_befalls_0 rfl rfl ?_
  refine G_iload_n hX dX6_befalls_1 rfl rfl ?_
  refine G_put hX dX6_befalls_2 pt_RX6_145 rfl rfl rfl ?_
  refine G_aload_n hX dX6_befalls_5 rfl rfl ?_
  refine G_aload_n hX dX6_befalls_6 rfl rfl ?_
  refine G_geti hX dX6_befalls_7 gt_RX6_148 rfl ?_
  refine G_put hX dX6_befalls_10 pt_RX6_151 rfl rfl rfl ?_
  refine G_aload_n hX dX6_befalls_13 rfl rfl ?_
  refine G_iload_n hX dX6_befalls_14 rfl rfl ?_
  refine G_put hX dX6_befalls_15 pt_RX6_154 rfl rfl rfl ?_
  refine G_aload_n hX dX6_befalls_18 rfl rfl ?_
  refine G_iconst (v := (0 : Int32)) hX dX6_befalls_19 (by decide) rfl ?_
  refine G_put hX dX6_befalls_20 pt_RX6_157 rfl rfl rfl ?_
  refine G_aload_n hX dX6_befalls_23 rfl rfl ?_
  refine G_iload_n hX dX6_befalls_24 rfl rfl ?_
  refine G_put hX dX6_befalls_25 pt_RX6_160 rfl rfl rfl ?_
  refine G_aload_n hX dX6_befalls_28 rfl rfl ?_
  refine G_dup hX dX6_befalls_29 rfl rfl ?_
  refine G_geti hX dX6_befalls_30 gt_RX6_163 rfl ?_
  refine G_iconst (v := (1 : Int32)) hX dX6_befalls_33 (by decide) rfl ?_
  refine G_iadd hX dX6_befalls_34 rfl ?_
  refine G_put hX dX6_befalls_35 pt_RX6_163 rfl rfl rfl ?_
  exact G_vret hX dX6_befalls_38 hR.symm
def T_X6_behindByte_4  : Nat → Int32 → (Nat → Int32) → (Nat → Nat → Int32) → Int32 × nr_S
  | 0, _, z, g => (0, z, g)
  | n + 1, a1, z, g => (if (g 24 ((z 25)).toNatClampNeg) = a1 then (0, (va_up z 25 ((z 25) + (1 : Int32))), g) else (T_X6_behindByte_4 n a1 (va_up z 25 ((z 25) + (1 : Int32))) g))
def O_X6_behindByte_4  : Nat → Int32 → (Nat → Int32) → (Nat → Nat → Int32) → Prop
  | 0, _, _, _ => False
  | n + 1, a1, z, g => (vp_in (z 25) 100 ∧ (((g 24 ((z 25)).toNatClampNeg) = a1 → True) ∧ (¬ ((g 24 ((z 25)).toNatClampNeg) = a1) → (O_X6_behindByte_4 n a1 (va_up z 25 ((z 25) + (1 : Int32))) g))))
set_option maxHeartbeats 4000000 in
set_option maxRecDepth 100000 in
theorem sp_X6_behindByte_4 (Γ : nr_M) (ρ : Nat → Nat) (d : Nat) (X : nr_CX) (hX : nr_Cx Γ ρ X yX6_behindByte cX6_behindByte 2 none (d + 1)) : ∀ (n : Nat) (a1 : Int32) (z : Nat → Int32) (g : Nat → Nat → Int32) (R0 : Int32 × nr_S) (_ : T_X6_behindByte_4 n a1 z g = R0) (_ : O_X6_behindByte_4 n a1 z g), nr_G Γ ρ X 2 (nr_Qv Γ ρ X (fun u => R0 = (0, u))) 4 [(0, .ref (ρ 20)), (1, .int a1)] [] z g := by
  intro n
  induction n with
  | zero => intro a1 z g R0 hR hok; exact False.elim hok
  | succ n ih =>
    intro a1 z g R0 hR hok
    rw [T_X6_behindByte_4] at hR
    rw [O_X6_behindByte_4] at hok
    refine G_aload_n hX dX6_behindByte_4 rfl rfl ?_
    refine G_getr hX dX6_behindByte_5 gt_RX6_19 rfl ?_
    refine G_aload_n hX dX6_behindByte_8 rfl rfl ?_
    refine G_geti hX dX6_behindByte_9 gt_RX6_113 rfl ?_
    obtain ⟨hi_12, hok⟩ := hok
    refine G_iald hX dX6_behindByte_12 (rfl : nr_il 24 = 100) (by decide) hi_12 rfl ?_
    refine G_iload_n hX dX6_behindByte_13 rfl rfl ?_
    refine G_icmp_eq (tg := 30) hX dX6_behindByte_14 (by decide) rfl (fun (h_14 : (g 24 ((z 25)).toNatClampNeg) = a1) => ?_) (fun (h_14 : ¬ ((g 24 ((z 25)).toNatClampNeg) = a1)) => ?_)
    · rw [if_pos h_14] at hR
      replace hok := hok.1 h_14
      refine G_aload_n hX dX6_behindByte_30 rfl rfl ?_
      refine G_dup hX dX6_behindByte_31 rfl rfl ?_
      refine G_geti hX dX6_behindByte_32 gt_RX6_113 rfl ?_
      refine G_iconst (v := (1 : Int32)) hX dX6_behindByte_35 (by decide) rfl ?_
      refine G_iadd hX dX6_behindByte_36 rfl ?_
      refine G_put hX dX6_behindByte_37 pt_RX6_113 rfl rfl rfl ?_
      exact G_vret hX dX6_behindByte_40 hR.symm
    · rw [if_neg h_14] at hR
      replace hok := hok.2 h_14
      refine G_aload_n hX dX6_behindByte_17 rfl rfl ?_
      refine G_dup hX dX6_behindByte_18 rfl rfl ?_
      refine G_geti hX dX6_behindByte_19 gt_RX6_113 rfl ?_
      refine G_iconst (v := (1 : Int32)) hX dX6_behindByte_22 (by decide) rfl ?_
      refine G_iadd hX dX6_behindByte_23 rfl ?_
      refine G_put hX dX6_behindByte_24 pt_RX6_113 rfl rfl rfl ?_
      refine G_goto (tg := 4) hX dX6_behindByte_27 (by decide) ?_
      exact nr_sub (by exact ⟨rfl, rfl, trivial⟩) (ih a1 (va_up z 25 ((z 25) + (1 : Int32))) g R0 hR hok)
def T_X6_behindByte (a1 : Int32) (z : Nat → Int32) (g : Nat → Nat → Int32) : Int32 × nr_S := (nr_K (T_X6_skip z g) (fun r_1 z_1 g_1 => (T_X6_behindByte_4 500 a1 z_1 g_1)))
def O_X6_behindByte (a1 : Int32) (z : Nat → Int32) (g : Nat → Nat → Int32) : Prop := ((O_X6_skip z g ∧ nr_KP (T_X6_skip z g) (fun r_1 z_1 g_1 => (O_X6_behindByte_4 500 a1 z_1 g_1))))
set_option maxHeartbeats 4000000 in
set_option maxRecDepth 100000 in
theorem sp_X6_behindByte (Γ : nr_M) (ρ : Nat → Nat) (d : Nat) (a1 : Int32) (z : Nat → Int32) (g : Nat → Nat → Int32) (hok : O_X6_behindByte a1 z g) : nr_Sv Γ ρ (d + 1) yX6_behindByte cX6_behindByte 2 none [.ref (ρ 20), .int a1] z g (fun u => (T_X6_behindByte a1 z g) = (0, u)) := by
  refine nr_body_v (lv := [(0, .ref (ρ 20)), (1, .int a1)]) (by decide +kernel) (Nat.le_of_ble_eq_true rfl) rfl (fun X hX => ?_)
  generalize hR : (T_X6_behindByte a1 z g) = R0
  rw [T_X6_behindByte] at hR
  rw [O_X6_behindByte] at hok
  refine G_aload_n hX dX6_behindByte_0 rfl rfl ?_
  obtain ⟨ho_1, hok⟩ := hok
  refine G_cVv hX dX6_behindByte_1 lv_RX6_116 (sp_X6_skip Γ ρ d z g ho_1) (by omega) nr_is_20 rfl rfl (Nat.le_of_ble_eq_true rfl) rfl (fun u_1 e_1 => ?_)
  obtain ⟨z_1, g_1⟩ := u_1
  rw [e_1, nr_K_mk] at hR
  rw [e_1, nr_KP_mk] at hok
  exact nr_sub (by exact ⟨rfl, rfl, trivial⟩) (sp_X6_behindByte_4 Γ ρ d X hX 500 a1 z_1 g_1 R0 hR hok)
def T_X6_figureFrom (a1 : Int32) (z : Nat → Int32) (g : Nat → Nat → Int32) : Int32 × nr_S := (nr_K (T_X6_skip (va_up z 25 a1) g) (fun r_6 z_6 g_6 => (((g_6 24 ((z_6 25)).toNatClampNeg) - (48 : Int32)), (va_up z_6 25 ((z_6 25) + (1 : Int32))), g_6)))
def O_X6_figureFrom (a1 : Int32) (z : Nat → Int32) (g : Nat → Nat → Int32) : Prop := ((O_X6_skip (va_up z 25 a1) g ∧ nr_KP (T_X6_skip (va_up z 25 a1) g) (fun r_6 z_6 g_6 => (vp_in (z_6 25) 100 ∧ True))))
set_option maxHeartbeats 4000000 in
set_option maxRecDepth 100000 in
theorem sp_X6_figureFrom (Γ : nr_M) (ρ : Nat → Nat) (d : Nat) (a1 : Int32) (z : Nat → Int32) (g : Nat → Nat → Int32) (hok : O_X6_figureFrom a1 z g) : nr_Si Γ ρ (d + 1) yX6_figureFrom cX6_figureFrom 3 (some .int) [.ref (ρ 20), .int a1] z g (fun x u => (T_X6_figureFrom a1 z g) = (x, u)) := by
  refine nr_body_i (lv := [(0, .ref (ρ 20)), (1, .int a1)]) (by decide +kernel) (Nat.le_of_ble_eq_true rfl) rfl (fun X hX => ?_)
  generalize hR : (T_X6_figureFrom a1 z g) = R0
  rw [T_X6_figureFrom] at hR
  rw [O_X6_figureFrom] at hok
  refine G_aload_n hX dX6_figureFrom_0 rfl rfl ?_
  refine G_iload_n hX dX6_figureFrom_1 rfl rfl ?_
  refine G_put hX dX6_figureFrom_2 pt_RX6_113 rfl rfl rfl ?_
  refine G_aload_n hX dX6_figureFrom_5 rfl rfl ?_
  obtain ⟨ho_6, hok⟩ := hok
  refine G_cVv hX dX6_figureFrom_6 lv_RX6_116 (sp_X6_skip Γ ρ d (va_up z 25 a1) g ho_6) (by omega) nr_is_20 rfl rfl (Nat.le_of_ble_eq_true rfl) rfl (fun u_6 e_6 => ?_)
  obtain ⟨z_6, g_6⟩ := u_6
  rw [e_6, nr_K_mk] at hR
  rw [e_6, nr_KP_mk] at hok
  refine G_aload_n hX dX6_figureFrom_9 rfl rfl ?_
  refine G_getr hX dX6_figureFrom_10 gt_RX6_19 rfl ?_
  refine G_aload_n hX dX6_figureFrom_13 rfl rfl ?_
  refine G_geti hX dX6_figureFrom_14 gt_RX6_113 rfl ?_
  obtain ⟨hi_17, hok⟩ := hok
  refine G_iald hX dX6_figureFrom_17 (rfl : nr_il 24 = 100) (by decide) hi_17 rfl ?_
  refine G_bipush (v := (48 : Int32)) hX dX6_figureFrom_18 (by decide) rfl ?_
  refine G_isub hX dX6_figureFrom_20 rfl ?_
  refine G_istore_n hX dX6_figureFrom_21 (by decide) rfl rfl ?_
  refine G_aload_n hX dX6_figureFrom_22 rfl rfl ?_
  refine G_dup hX dX6_figureFrom_23 rfl rfl ?_
  refine G_geti hX dX6_figureFrom_24 gt_RX6_113 rfl ?_
  refine G_iconst (v := (1 : Int32)) hX dX6_figureFrom_27 (by decide) rfl ?_
  refine G_iadd hX dX6_figureFrom_28 rfl ?_
  refine G_put hX dX6_figureFrom_29 pt_RX6_113 rfl rfl rfl ?_
  refine G_iload_n hX dX6_figureFrom_32 rfl rfl ?_
  exact G_iret hX rfl dX6_figureFrom_33 rfl hR.symm
def R_X6_isAsleep (a1 : Int32) (z : Nat → Int32) (g : Nat → Nat → Int32) : Int32 := (if (R_X6_at a1 (3 : Int32) z g) ≤ 0 then (0 : Int32) else (if (R_X6_at a1 (4 : Int32) z g) = 0 then (1 : Int32) else (0 : Int32)))
def O_X6_isAsleep (a1 : Int32) (z : Nat → Int32) (g : Nat → Nat → Int32) : Prop := (O_X6_at a1 (3 : Int32) z g ∧ (((R_X6_at a1 (3 : Int32) z g) ≤ 0 → True) ∧ (¬ ((R_X6_at a1 (3 : Int32) z g) ≤ 0) → (O_X6_at a1 (4 : Int32) z g ∧ True))))
set_option maxHeartbeats 4000000 in
set_option maxRecDepth 100000 in
theorem sp_X6_isAsleep (Γ : nr_M) (ρ : Nat → Nat) (d : Nat) (a1 : Int32) (z : Nat → Int32) (g : Nat → Nat → Int32) (hok : O_X6_isAsleep a1 z g) : nr_Si Γ ρ (d + 1) yX6_isAsleep cX6_isAsleep 2 (some .boolean) [.ref (ρ 20), .int a1] z g (fun x u => x = (R_X6_isAsleep a1 z g) ∧ u = (z, g)) := by
  refine nr_body_i (lv := [(0, .ref (ρ 20)), (1, .int a1)]) (by decide +kernel) (Nat.le_of_ble_eq_true rfl) rfl (fun X hX => ?_)
  generalize hR : (R_X6_isAsleep a1 z g) = R0
  rw [R_X6_isAsleep] at hR
  rw [O_X6_isAsleep] at hok
  refine G_aload_n hX dX6_isAsleep_0 rfl rfl ?_
  refine G_iload_n hX dX6_isAsleep_1 rfl rfl ?_
  refine G_iconst (v := (3 : Int32)) hX dX6_isAsleep_2 (by decide) rfl ?_
  obtain ⟨ho_3, hok⟩ := hok
  refine G_fVi hX dX6_isAsleep_3 lv_RX6_69 (sp_X6_at Γ ρ d a1 (3 : Int32) z g ho_3) (by omega) nr_is_20 rfl rfl (Nat.le_of_ble_eq_true rfl) rfl ?_
  refine G_if_le (tg := 22) hX dX6_isAsleep_6 (by decide) rfl (fun (h_6 : (R_X6_at a1 (3 : Int32) z g) ≤ 0) => ?_) (fun (h_6 : ¬ ((R_X6_at a1 (3 : Int32) z g) ≤ 0)) => ?_)
  · rw [if_pos h_6] at hR
    replace hok := hok.1 h_6
    refine G_iconst (v := (0 : Int32)) hX dX6_isAsleep_22 (by decide) rfl ?_
    exact G_iret hX rfl dX6_isAsleep_23 rfl ⟨hR, rfl⟩
  · rw [if_neg h_6] at hR
    replace hok := hok.2 h_6
    refine G_aload_n hX dX6_isAsleep_9 rfl rfl ?_
    refine G_iload_n hX dX6_isAsleep_10 rfl rfl ?_
    refine G_iconst (v := (4 : Int32)) hX dX6_isAsleep_11 (by decide) rfl ?_
    obtain ⟨ho_12, hok⟩ := hok
    refine G_fVi hX dX6_isAsleep_12 lv_RX6_69 (sp_X6_at Γ ρ d a1 (4 : Int32) z g ho_12) (by omega) nr_is_20 rfl rfl (Nat.le_of_ble_eq_true rfl) rfl ?_
    refine G_if_ne (tg := 22) hX dX6_isAsleep_15 (by decide) rfl (fun (h_15 : ¬ ((R_X6_at a1 (4 : Int32) z g) = 0)) => ?_) (fun (h_15 : (R_X6_at a1 (4 : Int32) z g) = 0) => ?_)
    · rw [if_neg h_15] at hR
      refine G_iconst (v := (0 : Int32)) hX dX6_isAsleep_22 (by decide) rfl ?_
      exact G_iret hX rfl dX6_isAsleep_23 rfl ⟨hR, rfl⟩
    · rw [if_pos h_15] at hR
      refine G_iconst (v := (1 : Int32)) hX dX6_isAsleep_18 (by decide) rfl ?_
      refine G_goto (tg := 23) hX dX6_isAsleep_19 (by decide) ?_
      exact G_iret hX rfl dX6_isAsleep_23 rfl ⟨hR, rfl⟩
theorem nb_X6_isAsleep (a1 : Int32) (z : Nat → Int32) (g : Nat → Nat → Int32) : narrow .boolean (.int (R_X6_isAsleep a1 z g)) = .int (R_X6_isAsleep a1 z g) := by
  unfold R_X6_isAsleep; repeat' split
  all_goals first | rfl | exact nb_X5_within _ _ _ | exact nb_X6_in _ _ _ | exact nb_X3_isRoomSign _ | exact nb_X3_holdsActs _
def T_X6_notes (a1 : Int32) (z : Nat → Int32) (g : Nat → Nat → Int32) : Int32 × nr_S := (if (150 : Int32) ≤ (z 26) then (0, z, g) else (0, (va_up z 26 ((z 26) + (1 : Int32))), (nr_st g 28 (z 26) a1)))
def O_X6_notes (a1 : Int32) (z : Nat → Int32) (g : Nat → Nat → Int32) : Prop := (((150 : Int32) ≤ (z 26) → True) ∧ (¬ ((150 : Int32) ≤ (z 26)) → (vp_in (z 26) 150 ∧ True)))
set_option maxHeartbeats 4000000 in
set_option maxRecDepth 100000 in
theorem sp_X6_notes (Γ : nr_M) (ρ : Nat → Nat) (d : Nat) (a1 : Int32) (z : Nat → Int32) (g : Nat → Nat → Int32) (hok : O_X6_notes a1 z g) : nr_Sv Γ ρ (d + 0) yX6_notes cX6_notes 2 none [.ref (ρ 20), .int a1] z g (fun u => (T_X6_notes a1 z g) = (0, u)) := by
  refine nr_body_v (lv := [(0, .ref (ρ 20)), (1, .int a1)]) (by decide +kernel) (Nat.le_of_ble_eq_true rfl) rfl (fun X hX => ?_)
  generalize hR : (T_X6_notes a1 z g) = R0
  rw [T_X6_notes] at hR
  rw [O_X6_notes] at hok
  refine G_aload_n hX dX6_notes_0 rfl rfl ?_
  refine G_geti hX dX6_notes_1 gt_RX6_142 rfl ?_
  refine G_sipush (v := (150 : Int32)) hX dX6_notes_4 (by decide) rfl ?_
  refine G_icmp_ge (tg := 30) hX dX6_notes_7 (by decide) rfl (fun (h_7 : (150 : Int32) ≤ (z 26)) => ?_) (fun (h_7 : ¬ ((150 : Int32) ≤ (z 26))) => ?_)
  · rw [if_pos h_7] at hR
    replace hok := hok.1 h_7
    exact G_vret hX dX6_notes_30 hR.symm
  · rw [if_neg h_7] at hR
    replace hok := hok.2 h_7
    refine G_aload_n hX dX6_notes_10 rfl rfl ?_
    refine G_getr hX dX6_notes_11 gt_RX6_31 rfl ?_
    refine G_aload_n hX dX6_notes_14 rfl rfl ?_
    refine G_geti hX dX6_notes_15 gt_RX6_142 rfl ?_
    refine G_iload_n hX dX6_notes_18 rfl rfl ?_
    obtain ⟨hi_19, hok⟩ := hok
    refine G_ist hX dX6_notes_19 (rfl : nr_il 28 = 150) (by decide) hi_19 rfl ?_
    refine G_aload_n hX dX6_notes_20 rfl rfl ?_
    refine G_dup hX dX6_notes_21 rfl rfl ?_
    refine G_geti hX dX6_notes_22 gt_RX6_142 rfl ?_
    refine G_iconst (v := (1 : Int32)) hX dX6_notes_25 (by decide) rfl ?_
    refine G_iadd hX dX6_notes_26 rfl ?_
    refine G_put hX dX6_notes_27 pt_RX6_142 rfl rfl rfl ?_
    exact G_vret hX dX6_notes_30 hR.symm
def T_X6_pushes (a1 : Int32) (a2 : Int32) (a3 : Int32) (z : Nat → Int32) (g : Nat → Nat → Int32) : Int32 × nr_S := (0, (va_up (va_up z 35 ((z 35) + (1 : Int32))) 36 a2), (nr_st (nr_st (nr_st (nr_st g 29 (z 35) a1) 30 (z 35) (z 36)) 31 (z 35) a3) 32 (z 35) (0 : Int32)))
def O_X6_pushes (a1 : Int32) (a2 : Int32) (a3 : Int32) (z : Nat → Int32) (g : Nat → Nat → Int32) : Prop := (vp_in (z 35) 9 ∧ (vp_in (z 35) 9 ∧ (vp_in (z 35) 9 ∧ (vp_in (z 35) 9 ∧ True))))
set_option maxHeartbeats 4000000 in
set_option maxRecDepth 100000 in
theorem sp_X6_pushes (Γ : nr_M) (ρ : Nat → Nat) (d : Nat) (a1 : Int32) (a2 : Int32) (a3 : Int32) (z : Nat → Int32) (g : Nat → Nat → Int32) (hok : O_X6_pushes a1 a2 a3 z g) : nr_Sv Γ ρ (d + 0) yX6_pushes cX6_pushes 4 none [.ref (ρ 20), .int a1, .int a2, .int a3] z g (fun u => (T_X6_pushes a1 a2 a3 z g) = (0, u)) := by
  refine nr_body_v (lv := [(0, .ref (ρ 20)), (1, .int a1), (2, .int a2), (3, .int a3)]) (by decide +kernel) (Nat.le_of_ble_eq_true rfl) rfl (fun X hX => ?_)
  generalize hR : (T_X6_pushes a1 a2 a3 z g) = R0
  rw [T_X6_pushes] at hR
  rw [O_X6_pushes] at hok
  refine G_aload_n hX dX6_pushes_0 rfl rfl ?_
  refine G_getr hX dX6_pushes_1 gt_RX6_34 rfl ?_
  refine G_aload_n hX dX6_pushes_4 rfl rfl ?_
  refine G_geti hX dX6_pushes_5 gt_RX6_166 rfl ?_
  refine G_iload_n hX dX6_pushes_8 rfl rfl ?_
  obtain ⟨hi_9, hok⟩ := hok
  refine G_ist hX dX6_pushes_9 (rfl : nr_il 29 = 9) (by decide) hi_9 rfl ?_
  refine G_aload_n hX dX6_pushes_10 rfl rfl ?_
  refine G_getr hX dX6_pushes_11 gt_RX6_37 rfl ?_
  refine G_aload_n hX dX6_pushes_14 rfl rfl ?_
  refine G_geti hX dX6_pushes_15 gt_RX6_166 rfl ?_
  refine G_aload_n hX dX6_pushes_18 rfl rfl ?_
  refine G_geti hX dX6_pushes_19 gt_RX6_148 rfl ?_
  obtain ⟨hi_22, hok⟩ := hok
  refine G_ist hX dX6_pushes_22 (rfl : nr_il 30 = 9) (by decide) hi_22 rfl ?_
  refine G_aload_n hX dX6_pushes_23 rfl rfl ?_
  refine G_getr hX dX6_pushes_24 gt_RX6_40 rfl ?_
  refine G_aload_n hX dX6_pushes_27 rfl rfl ?_
  refine G_geti hX dX6_pushes_28 gt_RX6_166 rfl ?_
  refine G_iload_n hX dX6_pushes_31 rfl rfl ?_
  obtain ⟨hi_32, hok⟩ := hok
  refine G_ist hX dX6_pushes_32 (rfl : nr_il 31 = 9) (by decide) hi_32 rfl ?_
  refine G_aload_n hX dX6_pushes_33 rfl rfl ?_
  refine G_getr hX dX6_pushes_34 gt_RX6_43 rfl ?_
  refine G_aload_n hX dX6_pushes_37 rfl rfl ?_
  refine G_geti hX dX6_pushes_38 gt_RX6_166 rfl ?_
  refine G_iconst (v := (0 : Int32)) hX dX6_pushes_41 (by decide) rfl ?_
  obtain ⟨hi_42, hok⟩ := hok
  refine G_zst hX dX6_pushes_42 hi_42 (by decide) rfl ?_
  refine G_aload_n hX dX6_pushes_43 rfl rfl ?_
  refine G_dup hX dX6_pushes_44 rfl rfl ?_
  refine G_geti hX dX6_pushes_45 gt_RX6_166 rfl ?_
  refine G_iconst (v := (1 : Int32)) hX dX6_pushes_48 (by decide) rfl ?_
  refine G_iadd hX dX6_pushes_49 rfl ?_
  refine G_put hX dX6_pushes_50 pt_RX6_166 rfl rfl rfl ?_
  refine G_aload_n hX dX6_pushes_53 rfl rfl ?_
  refine G_iload_n hX dX6_pushes_54 rfl rfl ?_
  refine G_put hX dX6_pushes_55 pt_RX6_148 rfl rfl rfl ?_
  exact G_vret hX dX6_pushes_58 hR.symm
def T_X6_goesIn_118  (a1 : Int32) (a2 : Int32) (s1 : Int32) (z : Nat → Int32) (g : Nat → Nat → Int32) : Int32 × nr_S := (nr_K (T_X6_pushes a1 a2 (0 : Int32) (va_up z 28 s1) g) (fun r_125 z_125 g_125 => (if (R_X6_isAsleep a2 z_125 g_125) = 0 then (0, z_125, g_125) else (if (R_X6_loud a2 z_125 g_125) < (R_X6_at a2 (3 : Int32) z_125 g_125) then (0, z_125, g_125) else (nr_K (T_X6_put a2 (4 : Int32) (1 : Int32) z_125 g_125) (fun r_154 z_154 g_154 => (nr_K (T_X6_befalls (2 : Int32) (-1 : Int32) z_154 g_154) (fun r_160 z_160 g_160 => (0, z_160, g_160)))))))))
def O_X6_goesIn_118  (a1 : Int32) (a2 : Int32) (s1 : Int32) (z : Nat → Int32) (g : Nat → Nat → Int32) : Prop := ((O_X6_pushes a1 a2 (0 : Int32) (va_up z 28 s1) g ∧ nr_KP (T_X6_pushes a1 a2 (0 : Int32) (va_up z 28 s1) g) (fun r_125 z_125 g_125 => (O_X6_isAsleep a2 z_125 g_125 ∧ (((R_X6_isAsleep a2 z_125 g_125) = 0 → True) ∧ (¬ ((R_X6_isAsleep a2 z_125 g_125) = 0) → (O_X6_loud a2 z_125 g_125 ∧ (O_X6_at a2 (3 : Int32) z_125 g_125 ∧ (((R_X6_loud a2 z_125 g_125) < (R_X6_at a2 (3 : Int32) z_125 g_125) → True) ∧ (¬ ((R_X6_loud a2 z_125 g_125) < (R_X6_at a2 (3 : Int32) z_125 g_125)) → ((O_X6_put a2 (4 : Int32) (1 : Int32) z_125 g_125 ∧ True))))))))))))
set_option maxHeartbeats 4000000 in
set_option maxRecDepth 100000 in
theorem sp_X6_goesIn_118 (Γ : nr_M) (ρ : Nat → Nat) (d : Nat) (X : nr_CX) (hX : nr_Cx Γ ρ X yX6_goesIn cX6_goesIn 4 none (d + 2)) (a1 : Int32) (a2 : Int32) (s1 : Int32) (z : Nat → Int32) (g : Nat → Nat → Int32) (R0 : Int32 × nr_S) (hR : T_X6_goesIn_118 a1 a2 s1 z g = R0) (hok : O_X6_goesIn_118 a1 a2 s1 z g) : nr_G Γ ρ X 4 (nr_Qv Γ ρ X (fun u => R0 = (0, u))) 118 [(0, .ref (ρ 20)), (1, .int a1), (2, .int a2)] [.int s1, .ref (ρ 20)] z g := by
  rw [T_X6_goesIn_118] at hR
  rw [O_X6_goesIn_118] at hok
  refine G_put hX dX6_goesIn_118 pt_RX6_186 rfl rfl rfl ?_
  refine G_aload_n hX dX6_goesIn_121 rfl rfl ?_
  refine G_iload_n hX dX6_goesIn_122 rfl rfl ?_
  refine G_iload_n hX dX6_goesIn_123 rfl rfl ?_
  refine G_iconst (v := (0 : Int32)) hX dX6_goesIn_124 (by decide) rfl ?_
  obtain ⟨ho_125, hok⟩ := hok
  refine G_cVv hX dX6_goesIn_125 lv_RX6_189 (sp_X6_pushes Γ ρ d a1 a2 (0 : Int32) (va_up z 28 s1) g ho_125) (by omega) nr_is_20 rfl rfl (Nat.le_of_ble_eq_true rfl) rfl (fun u_125 e_125 => ?_)
  obtain ⟨z_125, g_125⟩ := u_125
  rw [e_125, nr_K_mk] at hR
  rw [e_125, nr_KP_mk] at hok
  refine G_aload_n hX dX6_goesIn_128 rfl rfl ?_
  refine G_iload_n hX dX6_goesIn_129 rfl rfl ?_
  obtain ⟨ho_130, hok⟩ := hok
  refine G_fVi hX dX6_goesIn_130 lv_RX6_176 (sp_X6_isAsleep Γ ρ d a2 z_125 g_125 ho_130) (by omega) nr_is_20 rfl rfl (Nat.le_of_ble_eq_true rfl) rfl ?_
  refine G_if_eq (tg := 163) hX dX6_goesIn_133 (by decide) rfl (fun (h_133 : (R_X6_isAsleep a2 z_125 g_125) = 0) => ?_) (fun (h_133 : ¬ ((R_X6_isAsleep a2 z_125 g_125) = 0)) => ?_)
  · rw [if_pos h_133] at hR
    replace hok := hok.1 h_133
    exact G_vret hX dX6_goesIn_163 hR.symm
  · rw [if_neg h_133] at hR
    replace hok := hok.2 h_133
    refine G_aload_n hX dX6_goesIn_136 rfl rfl ?_
    refine G_iload_n hX dX6_goesIn_137 rfl rfl ?_
    obtain ⟨ho_138, hok⟩ := hok
    refine G_fVi hX dX6_goesIn_138 lv_RX6_93 (sp_X6_loud Γ ρ d a2 z_125 g_125 ho_138) (by omega) nr_is_20 rfl rfl (Nat.le_of_ble_eq_true rfl) rfl ?_
    refine G_aload_n hX dX6_goesIn_141 rfl rfl ?_
    refine G_iload_n hX dX6_goesIn_142 rfl rfl ?_
    refine G_iconst (v := (3 : Int32)) hX dX6_goesIn_143 (by decide) rfl ?_
    obtain ⟨ho_144, hok⟩ := hok
    refine G_fVi hX dX6_goesIn_144 lv_RX6_69 (sp_X6_at Γ ρ d a2 (3 : Int32) z_125 g_125 ho_144) (by omega) nr_is_20 rfl rfl (Nat.le_of_ble_eq_true rfl) rfl ?_
    refine G_icmp_lt (tg := 163) hX dX6_goesIn_147 (by decide) rfl (fun (h_147 : (R_X6_loud a2 z_125 g_125) < (R_X6_at a2 (3 : Int32) z_125 g_125)) => ?_) (fun (h_147 : ¬ ((R_X6_loud a2 z_125 g_125) < (R_X6_at a2 (3 : Int32) z_125 g_125))) => ?_)
    · rw [if_pos h_147] at hR
      replace hok := hok.1 h_147
      exact G_vret hX dX6_goesIn_163 hR.symm
    · rw [if_neg h_147] at hR
      replace hok := hok.2 h_147
      refine G_aload_n hX dX6_goesIn_150 rfl rfl ?_
      refine G_iload_n hX dX6_goesIn_151 rfl rfl ?_
      refine G_iconst (v := (4 : Int32)) hX dX6_goesIn_152 (by decide) rfl ?_
      refine G_iconst (v := (1 : Int32)) hX dX6_goesIn_153 (by decide) rfl ?_
      obtain ⟨ho_154, hok⟩ := hok
      refine G_cVv hX dX6_goesIn_154 lv_RX6_89 (sp_X6_put Γ ρ d a2 (4 : Int32) (1 : Int32) z_125 g_125 ho_154) (by omega) nr_is_20 rfl rfl (Nat.le_of_ble_eq_true rfl) rfl (fun u_154 e_154 => ?_)
      obtain ⟨z_154, g_154⟩ := u_154
      rw [e_154, nr_K_mk] at hR
      refine G_aload_n hX dX6_goesIn_157 rfl rfl ?_
      refine G_iconst (v := (2 : Int32)) hX dX6_goesIn_158 (by decide) rfl ?_
      refine G_iconst (v := (-1 : Int32)) hX dX6_goesIn_159 (by decide) rfl ?_
      refine G_cVv hX dX6_goesIn_160 lv_RX6_182 (sp_X6_befalls Γ ρ d (2 : Int32) (-1 : Int32) z_154 g_154) (by omega) nr_is_20 rfl rfl (Nat.le_of_ble_eq_true rfl) rfl (fun u_160 e_160 => ?_)
      obtain ⟨z_160, g_160⟩ := u_160
      rw [e_160, nr_K_mk] at hR
      exact G_vret hX dX6_goesIn_163 hR.symm
def T_X6_goesIn_74  (a1 : Int32) (a2 : Int32) (s1 : Int32) (s2 : Int32) (s3 : Int32) (z : Nat → Int32) (g : Nat → Nat → Int32) : Int32 × nr_S := (nr_K (T_X6_put s1 s2 s3 z g) (fun r_74 z_74 g_74 => (nr_K (T_X6_notes ((10 : Int32) + a2) z_74 g_74) (fun r_82 z_82 g_82 => (if ((z_82 37) + (1 : Int32)) ≤ (z_82 28) then (T_X6_goesIn_118 a1 a2 (z_82 28) (va_up z_82 37 ((z_82 37) + (1 : Int32))) g_82) else (T_X6_goesIn_118 a1 a2 ((z_82 37) + (1 : Int32)) (va_up z_82 37 ((z_82 37) + (1 : Int32))) g_82))))))
def O_X6_goesIn_74  (a1 : Int32) (a2 : Int32) (s1 : Int32) (s2 : Int32) (s3 : Int32) (z : Nat → Int32) (g : Nat → Nat → Int32) : Prop := ((O_X6_put s1 s2 s3 z g ∧ nr_KP (T_X6_put s1 s2 s3 z g) (fun r_74 z_74 g_74 => ((O_X6_notes ((10 : Int32) + a2) z_74 g_74 ∧ nr_KP (T_X6_notes ((10 : Int32) + a2) z_74 g_74) (fun r_82 z_82 g_82 => ((((z_82 37) + (1 : Int32)) ≤ (z_82 28) → (O_X6_goesIn_118 a1 a2 (z_82 28) (va_up z_82 37 ((z_82 37) + (1 : Int32))) g_82)) ∧ (¬ (((z_82 37) + (1 : Int32)) ≤ (z_82 28)) → (O_X6_goesIn_118 a1 a2 ((z_82 37) + (1 : Int32)) (va_up z_82 37 ((z_82 37) + (1 : Int32))) g_82)))))))))
set_option maxHeartbeats 4000000 in
set_option maxRecDepth 100000 in
theorem sp_X6_goesIn_74 (Γ : nr_M) (ρ : Nat → Nat) (d : Nat) (X : nr_CX) (hX : nr_Cx Γ ρ X yX6_goesIn cX6_goesIn 4 none (d + 2)) (a1 : Int32) (a2 : Int32) (s1 : Int32) (s2 : Int32) (s3 : Int32) (z : Nat → Int32) (g : Nat → Nat → Int32) (R0 : Int32 × nr_S) (hR : T_X6_goesIn_74 a1 a2 s1 s2 s3 z g = R0) (hok : O_X6_goesIn_74 a1 a2 s1 s2 s3 z g) : nr_G Γ ρ X 4 (nr_Qv Γ ρ X (fun u => R0 = (0, u))) 74 [(0, .ref (ρ 20)), (1, .int a1), (2, .int a2)] [.int s3, .int s2, .int s1, .ref (ρ 20)] z g := by
  rw [T_X6_goesIn_74] at hR
  rw [O_X6_goesIn_74] at hok
  obtain ⟨ho_74, hok⟩ := hok
  refine G_cVv hX dX6_goesIn_74 lv_RX6_89 (sp_X6_put Γ ρ d s1 s2 s3 z g ho_74) (by omega) nr_is_20 rfl rfl (Nat.le_of_ble_eq_true rfl) rfl (fun u_74 e_74 => ?_)
  obtain ⟨z_74, g_74⟩ := u_74
  rw [e_74, nr_K_mk] at hR
  rw [e_74, nr_KP_mk] at hok
  refine G_aload_n hX dX6_goesIn_77 rfl rfl ?_
  refine G_bipush (v := (10 : Int32)) hX dX6_goesIn_78 (by decide) rfl ?_
  refine G_iload_n hX dX6_goesIn_80 rfl rfl ?_
  refine G_iadd hX dX6_goesIn_81 rfl ?_
  obtain ⟨ho_82, hok⟩ := hok
  refine G_cVv hX dX6_goesIn_82 lv_RX6_172 (sp_X6_notes Γ ρ d ((10 : Int32) + a2) z_74 g_74 ho_82) (by omega) nr_is_20 rfl rfl (Nat.le_of_ble_eq_true rfl) rfl (fun u_82 e_82 => ?_)
  obtain ⟨z_82, g_82⟩ := u_82
  rw [e_82, nr_K_mk] at hR
  rw [e_82, nr_KP_mk] at hok
  refine G_aload_n hX dX6_goesIn_85 rfl rfl ?_
  refine G_dup hX dX6_goesIn_86 rfl rfl ?_
  refine G_geti hX dX6_goesIn_87 gt_RX6_169 rfl ?_
  refine G_iconst (v := (1 : Int32)) hX dX6_goesIn_90 (by decide) rfl ?_
  refine G_iadd hX dX6_goesIn_91 rfl ?_
  refine G_put hX dX6_goesIn_92 pt_RX6_169 rfl rfl rfl ?_
  refine G_aload_n hX dX6_goesIn_95 rfl rfl ?_
  refine G_aload_n hX dX6_goesIn_96 rfl rfl ?_
  refine G_geti hX dX6_goesIn_97 gt_RX6_169 rfl ?_
  refine G_aload_n hX dX6_goesIn_100 rfl rfl ?_
  refine G_geti hX dX6_goesIn_101 gt_RX6_186 rfl ?_
  refine G_icmp_le (tg := 114) hX dX6_goesIn_104 (by decide) rfl (fun (h_104 : ((z_82 37) + (1 : Int32)) ≤ (z_82 28)) => ?_) (fun (h_104 : ¬ (((z_82 37) + (1 : Int32)) ≤ (z_82 28))) => ?_)
  · rw [if_pos h_104] at hR
    replace hok := hok.1 h_104
    refine G_aload_n hX dX6_goesIn_114 rfl rfl ?_
    refine G_geti hX dX6_goesIn_115 gt_RX6_186 rfl ?_
    exact nr_sub (by exact ⟨rfl, rfl, rfl, trivial⟩) (sp_X6_goesIn_118 Γ ρ d X hX a1 a2 (z_82 28) (va_up z_82 37 ((z_82 37) + (1 : Int32))) g_82 R0 hR hok)
  · rw [if_neg h_104] at hR
    replace hok := hok.2 h_104
    refine G_aload_n hX dX6_goesIn_107 rfl rfl ?_
    refine G_geti hX dX6_goesIn_108 gt_RX6_169 rfl ?_
    refine G_goto (tg := 118) hX dX6_goesIn_111 (by decide) ?_
    exact nr_sub (by exact ⟨rfl, rfl, rfl, trivial⟩) (sp_X6_goesIn_118 Γ ρ d X hX a1 a2 ((z_82 37) + (1 : Int32)) (va_up z_82 37 ((z_82 37) + (1 : Int32))) g_82 R0 hR hok)
def T_X6_goesIn_42  (a1 : Int32) (a2 : Int32) (z : Nat → Int32) (g : Nat → Nat → Int32) : Int32 × nr_S := (if (R_X6_at a2 (6 : Int32) z g) = (9999 : Int32) then (T_X6_goesIn_74 a1 a2 a2 (6 : Int32) (9999 : Int32) z g) else (T_X6_goesIn_74 a1 a2 a2 (6 : Int32) ((R_X6_at a2 (6 : Int32) z g) + (1 : Int32)) z g))
def O_X6_goesIn_42  (a1 : Int32) (a2 : Int32) (z : Nat → Int32) (g : Nat → Nat → Int32) : Prop := (O_X6_at a2 (6 : Int32) z g ∧ (((R_X6_at a2 (6 : Int32) z g) = (9999 : Int32) → (O_X6_goesIn_74 a1 a2 a2 (6 : Int32) (9999 : Int32) z g)) ∧ (¬ ((R_X6_at a2 (6 : Int32) z g) = (9999 : Int32)) → (O_X6_at a2 (6 : Int32) z g ∧ (O_X6_goesIn_74 a1 a2 a2 (6 : Int32) ((R_X6_at a2 (6 : Int32) z g) + (1 : Int32)) z g)))))
set_option maxHeartbeats 4000000 in
set_option maxRecDepth 100000 in
theorem sp_X6_goesIn_42 (Γ : nr_M) (ρ : Nat → Nat) (d : Nat) (X : nr_CX) (hX : nr_Cx Γ ρ X yX6_goesIn cX6_goesIn 4 none (d + 2)) (a1 : Int32) (a2 : Int32) (z : Nat → Int32) (g : Nat → Nat → Int32) (R0 : Int32 × nr_S) (hR : T_X6_goesIn_42 a1 a2 z g = R0) (hok : O_X6_goesIn_42 a1 a2 z g) : nr_G Γ ρ X 4 (nr_Qv Γ ρ X (fun u => R0 = (0, u))) 42 [(0, .ref (ρ 20)), (1, .int a1), (2, .int a2)] [] z g := by
  rw [T_X6_goesIn_42] at hR
  rw [O_X6_goesIn_42] at hok
  refine G_aload_n hX dX6_goesIn_42 rfl rfl ?_
  refine G_iload_n hX dX6_goesIn_43 rfl rfl ?_
  refine G_bipush (v := (6 : Int32)) hX dX6_goesIn_44 (by decide) rfl ?_
  refine G_aload_n hX dX6_goesIn_46 rfl rfl ?_
  refine G_iload_n hX dX6_goesIn_47 rfl rfl ?_
  refine G_bipush (v := (6 : Int32)) hX dX6_goesIn_48 (by decide) rfl ?_
  obtain ⟨ho_50, hok⟩ := hok
  refine G_fVi hX dX6_goesIn_50 lv_RX6_69 (sp_X6_at Γ ρ d a2 (6 : Int32) z g ho_50) (by omega) nr_is_20 rfl rfl (Nat.le_of_ble_eq_true rfl) rfl ?_
  refine G_sipush (v := (9999 : Int32)) hX dX6_goesIn_53 (by decide) rfl ?_
  refine G_icmp_ne (tg := 65) hX dX6_goesIn_56 (by decide) rfl (fun (h_56 : ¬ ((R_X6_at a2 (6 : Int32) z g) = (9999 : Int32))) => ?_) (fun (h_56 : (R_X6_at a2 (6 : Int32) z g) = (9999 : Int32)) => ?_)
  · rw [if_neg h_56] at hR
    replace hok := hok.2 h_56
    refine G_aload_n hX dX6_goesIn_65 rfl rfl ?_
    refine G_iload_n hX dX6_goesIn_66 rfl rfl ?_
    refine G_bipush (v := (6 : Int32)) hX dX6_goesIn_67 (by decide) rfl ?_
    obtain ⟨ho_69, hok⟩ := hok
    refine G_fVi hX dX6_goesIn_69 lv_RX6_69 (sp_X6_at Γ ρ d a2 (6 : Int32) z g ho_69) (by omega) nr_is_20 rfl rfl (Nat.le_of_ble_eq_true rfl) rfl ?_
    refine G_iconst (v := (1 : Int32)) hX dX6_goesIn_72 (by decide) rfl ?_
    refine G_iadd hX dX6_goesIn_73 rfl ?_
    exact nr_sub (by exact ⟨rfl, rfl, rfl, trivial⟩) (sp_X6_goesIn_74 Γ ρ d X hX a1 a2 a2 (6 : Int32) ((R_X6_at a2 (6 : Int32) z g) + (1 : Int32)) z g R0 hR hok)
  · rw [if_pos h_56] at hR
    replace hok := hok.1 h_56
    refine G_sipush (v := (9999 : Int32)) hX dX6_goesIn_59 (by decide) rfl ?_
    refine G_goto (tg := 74) hX dX6_goesIn_62 (by decide) ?_
    exact nr_sub (by exact ⟨rfl, rfl, rfl, trivial⟩) (sp_X6_goesIn_74 Γ ρ d X hX a1 a2 a2 (6 : Int32) (9999 : Int32) z g R0 hR hok)
def T_X6_goesIn (a1 : Int32) (z : Nat → Int32) (g : Nat → Nat → Int32) : Int32 × nr_S := (if (R_X6_at ((g 24 (a1).toNatClampNeg) - (48 : Int32)) (1 : Int32) z g) ≤ 0 then (T_X6_goesIn_42 a1 ((g 24 (a1).toNatClampNeg) - (48 : Int32)) z g) else (if (((g 21 ((56 : Int32)).toNatClampNeg) >>> ((R_X6_at ((g 24 (a1).toNatClampNeg) - (48 : Int32)) (1 : Int32) z g) &&& 31)) &&& (1 : Int32)) = 0 then (nr_K (T_X6_befalls (1 : Int32) (-1 : Int32) z g) (fun r_38 z_38 g_38 => (0, z_38, g_38))) else (T_X6_goesIn_42 a1 ((g 24 (a1).toNatClampNeg) - (48 : Int32)) z g)))
def O_X6_goesIn (a1 : Int32) (z : Nat → Int32) (g : Nat → Nat → Int32) : Prop := (vp_in a1 100 ∧ (O_X6_at ((g 24 (a1).toNatClampNeg) - (48 : Int32)) (1 : Int32) z g ∧ (((R_X6_at ((g 24 (a1).toNatClampNeg) - (48 : Int32)) (1 : Int32) z g) ≤ 0 → (O_X6_goesIn_42 a1 ((g 24 (a1).toNatClampNeg) - (48 : Int32)) z g)) ∧ (¬ ((R_X6_at ((g 24 (a1).toNatClampNeg) - (48 : Int32)) (1 : Int32) z g) ≤ 0) → (((((g 21 ((56 : Int32)).toNatClampNeg) >>> ((R_X6_at ((g 24 (a1).toNatClampNeg) - (48 : Int32)) (1 : Int32) z g) &&& 31)) &&& (1 : Int32)) = 0 → True) ∧ (¬ ((((g 21 ((56 : Int32)).toNatClampNeg) >>> ((R_X6_at ((g 24 (a1).toNatClampNeg) - (48 : Int32)) (1 : Int32) z g) &&& 31)) &&& (1 : Int32)) = 0) → (O_X6_goesIn_42 a1 ((g 24 (a1).toNatClampNeg) - (48 : Int32)) z g)))))))
set_option maxHeartbeats 4000000 in
set_option maxRecDepth 100000 in
theorem sp_X6_goesIn (Γ : nr_M) (ρ : Nat → Nat) (d : Nat) (a1 : Int32) (z : Nat → Int32) (g : Nat → Nat → Int32) (hok : O_X6_goesIn a1 z g) : nr_Sv Γ ρ (d + 2) yX6_goesIn cX6_goesIn 4 none [.ref (ρ 20), .int a1] z g (fun u => (T_X6_goesIn a1 z g) = (0, u)) := by
  refine nr_body_v (lv := [(0, .ref (ρ 20)), (1, .int a1)]) (by decide +kernel) (Nat.le_of_ble_eq_true rfl) rfl (fun X hX => ?_)
  generalize hR : (T_X6_goesIn a1 z g) = R0
  rw [T_X6_goesIn] at hR
  rw [O_X6_goesIn] at hok
  refine G_aload_n hX dX6_goesIn_0 rfl rfl ?_
  refine G_getr hX dX6_goesIn_1 gt_RX6_19 rfl ?_
  refine G_iload_n hX dX6_goesIn_4 rfl rfl ?_
  obtain ⟨hi_5, hok⟩ := hok
  refine G_iald hX dX6_goesIn_5 (rfl : nr_il 24 = 100) (by decide) hi_5 rfl ?_
  refine G_bipush (v := (48 : Int32)) hX dX6_goesIn_6 (by decide) rfl ?_
  refine G_isub hX dX6_goesIn_8 rfl ?_
  refine G_istore_n hX dX6_goesIn_9 (by decide) rfl rfl ?_
  refine G_aload_n hX dX6_goesIn_10 rfl rfl ?_
  refine G_iload_n hX dX6_goesIn_11 rfl rfl ?_
  refine G_iconst (v := (1 : Int32)) hX dX6_goesIn_12 (by decide) rfl ?_
  obtain ⟨ho_13, hok⟩ := hok
  refine G_fVi hX dX6_goesIn_13 lv_RX6_69 (sp_X6_at Γ ρ d ((g 24 (a1).toNatClampNeg) - (48 : Int32)) (1 : Int32) z g ho_13) (by omega) nr_is_20 rfl rfl (Nat.le_of_ble_eq_true rfl) rfl ?_
  refine G_istore_n hX dX6_goesIn_16 (by decide) rfl rfl ?_
  refine G_iload_n hX dX6_goesIn_17 rfl rfl ?_
  refine G_if_le (tg := 42) hX dX6_goesIn_18 (by decide) rfl (fun (h_18 : (R_X6_at ((g 24 (a1).toNatClampNeg) - (48 : Int32)) (1 : Int32) z g) ≤ 0) => ?_) (fun (h_18 : ¬ ((R_X6_at ((g 24 (a1).toNatClampNeg) - (48 : Int32)) (1 : Int32) z g) ≤ 0)) => ?_)
  · rw [if_pos h_18] at hR
    replace hok := hok.1 h_18
    exact nr_sub (by exact ⟨rfl, rfl, rfl, trivial⟩) (sp_X6_goesIn_42 Γ ρ d X hX a1 ((g 24 (a1).toNatClampNeg) - (48 : Int32)) z g R0 hR hok)
  · rw [if_neg h_18] at hR
    replace hok := hok.2 h_18
    refine G_aload_n hX dX6_goesIn_21 rfl rfl ?_
    refine G_getr hX dX6_goesIn_22 gt_RX6_7 rfl ?_
    refine G_bipush (v := (56 : Int32)) hX dX6_goesIn_25 (by decide) rfl ?_
    refine G_iald hX dX6_goesIn_27 (rfl : nr_il 21 = 58) (by decide) (by unfold vp_in; decide) rfl ?_
    refine G_iload_n hX dX6_goesIn_28 rfl rfl ?_
    refine G_ishr hX dX6_goesIn_29 rfl ?_
    refine G_iconst (v := (1 : Int32)) hX dX6_goesIn_30 (by decide) rfl ?_
    refine G_iand hX dX6_goesIn_31 rfl ?_
    refine G_if_ne (tg := 42) hX dX6_goesIn_32 (by decide) rfl (fun (h_32 : ¬ ((((g 21 ((56 : Int32)).toNatClampNeg) >>> ((R_X6_at ((g 24 (a1).toNatClampNeg) - (48 : Int32)) (1 : Int32) z g) &&& 31)) &&& (1 : Int32)) = 0)) => ?_) (fun (h_32 : (((g 21 ((56 : Int32)).toNatClampNeg) >>> ((R_X6_at ((g 24 (a1).toNatClampNeg) - (48 : Int32)) (1 : Int32) z g) &&& 31)) &&& (1 : Int32)) = 0) => ?_)
    · rw [if_neg h_32] at hR
      replace hok := hok.2 h_32
      exact nr_sub (by exact ⟨rfl, rfl, rfl, trivial⟩) (sp_X6_goesIn_42 Γ ρ d X hX a1 ((g 24 (a1).toNatClampNeg) - (48 : Int32)) z g R0 hR hok)
    · rw [if_pos h_32] at hR
      replace hok := hok.1 h_32
      refine G_aload_n hX dX6_goesIn_35 rfl rfl ?_
      refine G_iconst (v := (1 : Int32)) hX dX6_goesIn_36 (by decide) rfl ?_
      refine G_iconst (v := (-1 : Int32)) hX dX6_goesIn_37 (by decide) rfl ?_
      refine G_cVv hX dX6_goesIn_38 lv_RX6_182 (sp_X6_befalls Γ ρ d (1 : Int32) (-1 : Int32) z g) (by omega) nr_is_20 rfl rfl (Nat.le_of_ble_eq_true rfl) rfl (fun u_38 e_38 => ?_)
      obtain ⟨z_38, g_38⟩ := u_38
      rw [e_38, nr_K_mk] at hR
      exact G_vret hX dX6_goesIn_41 hR.symm
def T_X6_looksIn  (z : Nat → Int32) (g : Nat → Nat → Int32) : Int32 × nr_S := (if (R_X6_at (z 36) (5 : Int32) z g) = 0 then (nr_K (T_X6_befalls (3 : Int32) (-1 : Int32) z g) (fun r_15 z_15 g_15 => (0, z_15, g_15))) else (if (R_X6_isAsleep (z 36) z g) = 0 then (0, z, g) else (0, z, (nr_st g 21 (57 : Int32) ((g 21 ((57 : Int32)).toNatClampNeg) + (R_X6_at (z 36) (3 : Int32) z g))))))
def O_X6_looksIn  (z : Nat → Int32) (g : Nat → Nat → Int32) : Prop := (O_X6_at (z 36) (5 : Int32) z g ∧ (((R_X6_at (z 36) (5 : Int32) z g) = 0 → True) ∧ (¬ ((R_X6_at (z 36) (5 : Int32) z g) = 0) → (O_X6_isAsleep (z 36) z g ∧ (((R_X6_isAsleep (z 36) z g) = 0 → True) ∧ (¬ ((R_X6_isAsleep (z 36) z g) = 0) → (O_X6_at (z 36) (3 : Int32) z g ∧ True)))))))
set_option maxHeartbeats 4000000 in
set_option maxRecDepth 100000 in
theorem sp_X6_looksIn (Γ : nr_M) (ρ : Nat → Nat) (d : Nat) (z : Nat → Int32) (g : Nat → Nat → Int32) (hok : O_X6_looksIn z g) : nr_Sv Γ ρ (d + 2) yX6_looksIn cX6_looksIn 1 none [.ref (ρ 20)] z g (fun u => (T_X6_looksIn z g) = (0, u)) := by
  refine nr_body_v (lv := [(0, .ref (ρ 20))]) (by decide +kernel) (Nat.le_of_ble_eq_true rfl) rfl (fun X hX => ?_)
  generalize hR : (T_X6_looksIn z g) = R0
  rw [T_X6_looksIn] at hR
  rw [O_X6_looksIn] at hok
  refine G_aload_n hX dX6_looksIn_0 rfl rfl ?_
  refine G_aload_n hX dX6_looksIn_1 rfl rfl ?_
  refine G_geti hX dX6_looksIn_2 gt_RX6_148 rfl ?_
  refine G_iconst (v := (5 : Int32)) hX dX6_looksIn_5 (by decide) rfl ?_
  obtain ⟨ho_6, hok⟩ := hok
  refine G_fVi hX dX6_looksIn_6 lv_RX6_69 (sp_X6_at Γ ρ d (z 36) (5 : Int32) z g ho_6) (by omega) nr_is_20 rfl rfl (Nat.le_of_ble_eq_true rfl) rfl ?_
  refine G_if_ne (tg := 21) hX dX6_looksIn_9 (by decide) rfl (fun (h_9 : ¬ ((R_X6_at (z 36) (5 : Int32) z g) = 0)) => ?_) (fun (h_9 : (R_X6_at (z 36) (5 : Int32) z g) = 0) => ?_)
  · rw [if_neg h_9] at hR
    replace hok := hok.2 h_9
    refine G_aload_n hX dX6_looksIn_21 rfl rfl ?_
    refine G_aload_n hX dX6_looksIn_22 rfl rfl ?_
    refine G_geti hX dX6_looksIn_23 gt_RX6_148 rfl ?_
    obtain ⟨ho_26, hok⟩ := hok
    refine G_fVi hX dX6_looksIn_26 lv_RX6_176 (sp_X6_isAsleep Γ ρ d (z 36) z g ho_26) (by omega) nr_is_20 rfl rfl (Nat.le_of_ble_eq_true rfl) rfl ?_
    refine G_if_eq (tg := 51) hX dX6_looksIn_29 (by decide) rfl (fun (h_29 : (R_X6_isAsleep (z 36) z g) = 0) => ?_) (fun (h_29 : ¬ ((R_X6_isAsleep (z 36) z g) = 0)) => ?_)
    · rw [if_pos h_29] at hR
      replace hok := hok.1 h_29
      exact G_vret hX dX6_looksIn_51 hR.symm
    · rw [if_neg h_29] at hR
      replace hok := hok.2 h_29
      refine G_aload_n hX dX6_looksIn_32 rfl rfl ?_
      refine G_getr hX dX6_looksIn_33 gt_RX6_7 rfl ?_
      refine G_bipush (v := (57 : Int32)) hX dX6_looksIn_36 (by decide) rfl ?_
      refine G_dup2 hX dX6_looksIn_38 rfl rfl rfl ?_
      refine G_iald hX dX6_looksIn_39 (rfl : nr_il 21 = 58) (by decide) (by unfold vp_in; decide) rfl ?_
      refine G_aload_n hX dX6_looksIn_40 rfl rfl ?_
      refine G_aload_n hX dX6_looksIn_41 rfl rfl ?_
      refine G_geti hX dX6_looksIn_42 gt_RX6_148 rfl ?_
      refine G_iconst (v := (3 : Int32)) hX dX6_looksIn_45 (by decide) rfl ?_
      obtain ⟨ho_46, hok⟩ := hok
      refine G_fVi hX dX6_looksIn_46 lv_RX6_69 (sp_X6_at Γ ρ d (z 36) (3 : Int32) z g ho_46) (by omega) nr_is_20 rfl rfl (Nat.le_of_ble_eq_true rfl) rfl ?_
      refine G_iadd hX dX6_looksIn_49 rfl ?_
      refine G_ist hX dX6_looksIn_50 (rfl : nr_il 21 = 58) (by decide) (by unfold vp_in; decide) rfl ?_
      exact G_vret hX dX6_looksIn_51 hR.symm
  · rw [if_pos h_9] at hR
    replace hok := hok.1 h_9
    refine G_aload_n hX dX6_looksIn_12 rfl rfl ?_
    refine G_iconst (v := (3 : Int32)) hX dX6_looksIn_13 (by decide) rfl ?_
    refine G_iconst (v := (-1 : Int32)) hX dX6_looksIn_14 (by decide) rfl ?_
    refine G_cVv hX dX6_looksIn_15 lv_RX6_182 (sp_X6_befalls Γ ρ d (3 : Int32) (-1 : Int32) z g) (by omega) nr_is_20 rfl rfl (Nat.le_of_ble_eq_true rfl) rfl (fun u_15 e_15 => ?_)
    obtain ⟨z_15, g_15⟩ := u_15
    rw [e_15, nr_K_mk] at hR
    refine G_goto (tg := 51) hX dX6_looksIn_18 (by decide) ?_
    exact G_vret hX dX6_looksIn_51 hR.symm
def T_X6_takesKey  (z : Nat → Int32) (g : Nat → Nat → Int32) : Int32 × nr_S := (if (R_X6_at (z 36) (2 : Int32) z g) ≤ 0 then (0, z, g) else (nr_K (T_X6_put (z 36) (2 : Int32) (0 : Int32) z (nr_st g 21 (56 : Int32) ((g 21 ((56 : Int32)).toNatClampNeg) ||| ((1 : Int32) <<< ((R_X6_at (z 36) (2 : Int32) z g) &&& 31))))) (fun r_34 z_34 g_34 => (0, z_34, g_34))))
def O_X6_takesKey  (z : Nat → Int32) (g : Nat → Nat → Int32) : Prop := (O_X6_at (z 36) (2 : Int32) z g ∧ (((R_X6_at (z 36) (2 : Int32) z g) ≤ 0 → True) ∧ (¬ ((R_X6_at (z 36) (2 : Int32) z g) ≤ 0) → ((O_X6_put (z 36) (2 : Int32) (0 : Int32) z (nr_st g 21 (56 : Int32) ((g 21 ((56 : Int32)).toNatClampNeg) ||| ((1 : Int32) <<< ((R_X6_at (z 36) (2 : Int32) z g) &&& 31)))) ∧ True)))))
set_option maxHeartbeats 4000000 in
set_option maxRecDepth 100000 in
theorem sp_X6_takesKey (Γ : nr_M) (ρ : Nat → Nat) (d : Nat) (z : Nat → Int32) (g : Nat → Nat → Int32) (hok : O_X6_takesKey z g) : nr_Sv Γ ρ (d + 1) yX6_takesKey cX6_takesKey 2 none [.ref (ρ 20)] z g (fun u => (T_X6_takesKey z g) = (0, u)) := by
  refine nr_body_v (lv := [(0, .ref (ρ 20))]) (by decide +kernel) (Nat.le_of_ble_eq_true rfl) rfl (fun X hX => ?_)
  generalize hR : (T_X6_takesKey z g) = R0
  rw [T_X6_takesKey] at hR
  rw [O_X6_takesKey] at hok
  refine G_aload_n hX dX6_takesKey_0 rfl rfl ?_
  refine G_aload_n hX dX6_takesKey_1 rfl rfl ?_
  refine G_geti hX dX6_takesKey_2 gt_RX6_148 rfl ?_
  refine G_iconst (v := (2 : Int32)) hX dX6_takesKey_5 (by decide) rfl ?_
  obtain ⟨ho_6, hok⟩ := hok
  refine G_fVi hX dX6_takesKey_6 lv_RX6_69 (sp_X6_at Γ ρ d (z 36) (2 : Int32) z g ho_6) (by omega) nr_is_20 rfl rfl (Nat.le_of_ble_eq_true rfl) rfl ?_
  refine G_istore_n hX dX6_takesKey_9 (by decide) rfl rfl ?_
  refine G_iload_n hX dX6_takesKey_10 rfl rfl ?_
  refine G_if_le (tg := 37) hX dX6_takesKey_11 (by decide) rfl (fun (h_11 : (R_X6_at (z 36) (2 : Int32) z g) ≤ 0) => ?_) (fun (h_11 : ¬ ((R_X6_at (z 36) (2 : Int32) z g) ≤ 0)) => ?_)
  · rw [if_pos h_11] at hR
    replace hok := hok.1 h_11
    exact G_vret hX dX6_takesKey_37 hR.symm
  · rw [if_neg h_11] at hR
    replace hok := hok.2 h_11
    refine G_aload_n hX dX6_takesKey_14 rfl rfl ?_
    refine G_getr hX dX6_takesKey_15 gt_RX6_7 rfl ?_
    refine G_bipush (v := (56 : Int32)) hX dX6_takesKey_18 (by decide) rfl ?_
    refine G_dup2 hX dX6_takesKey_20 rfl rfl rfl ?_
    refine G_iald hX dX6_takesKey_21 (rfl : nr_il 21 = 58) (by decide) (by unfold vp_in; decide) rfl ?_
    refine G_iconst (v := (1 : Int32)) hX dX6_takesKey_22 (by decide) rfl ?_
    refine G_iload_n hX dX6_takesKey_23 rfl rfl ?_
    refine G_ishl hX dX6_takesKey_24 rfl ?_
    refine G_ior hX dX6_takesKey_25 rfl ?_
    refine G_ist hX dX6_takesKey_26 (rfl : nr_il 21 = 58) (by decide) (by unfold vp_in; decide) rfl ?_
    refine G_aload_n hX dX6_takesKey_27 rfl rfl ?_
    refine G_aload_n hX dX6_takesKey_28 rfl rfl ?_
    refine G_geti hX dX6_takesKey_29 gt_RX6_148 rfl ?_
    refine G_iconst (v := (2 : Int32)) hX dX6_takesKey_32 (by decide) rfl ?_
    refine G_iconst (v := (0 : Int32)) hX dX6_takesKey_33 (by decide) rfl ?_
    obtain ⟨ho_34, hok⟩ := hok
    refine G_cVv hX dX6_takesKey_34 lv_RX6_89 (sp_X6_put Γ ρ d (z 36) (2 : Int32) (0 : Int32) z (nr_st g 21 (56 : Int32) ((g 21 ((56 : Int32)).toNatClampNeg) ||| ((1 : Int32) <<< ((R_X6_at (z 36) (2 : Int32) z g) &&& 31)))) ho_34) (by omega) nr_is_20 rfl rfl (Nat.le_of_ble_eq_true rfl) rfl (fun u_34 e_34 => ?_)
    obtain ⟨z_34, g_34⟩ := u_34
    rw [e_34, nr_K_mk] at hR
    exact G_vret hX dX6_takesKey_37 hR.symm
def T_X6_wakes  (z : Nat → Int32) (g : Nat → Nat → Int32) : Int32 × nr_S := (if (R_X6_isAsleep (z 36) z g) = 0 then (0, z, g) else (nr_K (T_X6_put (z 36) (4 : Int32) (1 : Int32) z g) (fun r_18 z_18 g_18 => (nr_K (T_X6_befalls (2 : Int32) (-1 : Int32) z_18 g_18) (fun r_24 z_24 g_24 => (0, z_24, g_24))))))
def O_X6_wakes  (z : Nat → Int32) (g : Nat → Nat → Int32) : Prop := (O_X6_isAsleep (z 36) z g ∧ (((R_X6_isAsleep (z 36) z g) = 0 → True) ∧ (¬ ((R_X6_isAsleep (z 36) z g) = 0) → ((O_X6_put (z 36) (4 : Int32) (1 : Int32) z g ∧ True)))))
set_option maxHeartbeats 4000000 in
set_option maxRecDepth 100000 in
theorem sp_X6_wakes (Γ : nr_M) (ρ : Nat → Nat) (d : Nat) (z : Nat → Int32) (g : Nat → Nat → Int32) (hok : O_X6_wakes z g) : nr_Sv Γ ρ (d + 2) yX6_wakes cX6_wakes 1 none [.ref (ρ 20)] z g (fun u => (T_X6_wakes z g) = (0, u)) := by
  refine nr_body_v (lv := [(0, .ref (ρ 20))]) (by decide +kernel) (Nat.le_of_ble_eq_true rfl) rfl (fun X hX => ?_)
  generalize hR : (T_X6_wakes z g) = R0
  rw [T_X6_wakes] at hR
  rw [O_X6_wakes] at hok
  refine G_aload_n hX dX6_wakes_0 rfl rfl ?_
  refine G_aload_n hX dX6_wakes_1 rfl rfl ?_
  refine G_geti hX dX6_wakes_2 gt_RX6_148 rfl ?_
  obtain ⟨ho_5, hok⟩ := hok
  refine G_fVi hX dX6_wakes_5 lv_RX6_176 (sp_X6_isAsleep Γ ρ d (z 36) z g ho_5) (by omega) nr_is_20 rfl rfl (Nat.le_of_ble_eq_true rfl) rfl ?_
  refine G_if_eq (tg := 27) hX dX6_wakes_8 (by decide) rfl (fun (h_8 : (R_X6_isAsleep (z 36) z g) = 0) => ?_) (fun (h_8 : ¬ ((R_X6_isAsleep (z 36) z g) = 0)) => ?_)
  · rw [if_pos h_8] at hR
    replace hok := hok.1 h_8
    exact G_vret hX dX6_wakes_27 hR.symm
  · rw [if_neg h_8] at hR
    replace hok := hok.2 h_8
    refine G_aload_n hX dX6_wakes_11 rfl rfl ?_
    refine G_aload_n hX dX6_wakes_12 rfl rfl ?_
    refine G_geti hX dX6_wakes_13 gt_RX6_148 rfl ?_
    refine G_iconst (v := (4 : Int32)) hX dX6_wakes_16 (by decide) rfl ?_
    refine G_iconst (v := (1 : Int32)) hX dX6_wakes_17 (by decide) rfl ?_
    obtain ⟨ho_18, hok⟩ := hok
    refine G_cVv hX dX6_wakes_18 lv_RX6_89 (sp_X6_put Γ ρ d (z 36) (4 : Int32) (1 : Int32) z g ho_18) (by omega) nr_is_20 rfl rfl (Nat.le_of_ble_eq_true rfl) rfl (fun u_18 e_18 => ?_)
    obtain ⟨z_18, g_18⟩ := u_18
    rw [e_18, nr_K_mk] at hR
    refine G_aload_n hX dX6_wakes_21 rfl rfl ?_
    refine G_iconst (v := (2 : Int32)) hX dX6_wakes_22 (by decide) rfl ?_
    refine G_iconst (v := (-1 : Int32)) hX dX6_wakes_23 (by decide) rfl ?_
    refine G_cVv hX dX6_wakes_24 lv_RX6_182 (sp_X6_befalls Γ ρ d (2 : Int32) (-1 : Int32) z_18 g_18) (by omega) nr_is_20 rfl rfl (Nat.le_of_ble_eq_true rfl) rfl (fun u_24 e_24 => ?_)
    obtain ⟨z_24, g_24⟩ := u_24
    rw [e_24, nr_K_mk] at hR
    exact G_vret hX dX6_wakes_27 hR.symm
def T_X6_begins_87  (a1 : Int32) (z : Nat → Int32) (g : Nat → Nat → Int32) : Int32 × nr_S := (nr_K (T_X6_pushes a1 (z 36) (0 : Int32) z g) (fun r_94 z_94 g_94 => (0, z_94, g_94)))
def O_X6_begins_87  (a1 : Int32) (z : Nat → Int32) (g : Nat → Nat → Int32) : Prop := ((O_X6_pushes a1 (z 36) (0 : Int32) z g ∧ True))
set_option maxHeartbeats 4000000 in
set_option maxRecDepth 100000 in
theorem sp_X6_begins_87 (Γ : nr_M) (ρ : Nat → Nat) (d : Nat) (X : nr_CX) (hX : nr_Cx Γ ρ X yX6_begins cX6_begins 4 none (d + 3)) (a1 : Int32) (z : Nat → Int32) (g : Nat → Nat → Int32) (R0 : Int32 × nr_S) (hR : T_X6_begins_87 a1 z g = R0) (hok : O_X6_begins_87 a1 z g) : nr_G Γ ρ X 4 (nr_Qv Γ ρ X (fun u => R0 = (0, u))) 87 [(0, .ref (ρ 20)), (1, .int a1)] [] z g := by
  rw [T_X6_begins_87] at hR
  rw [O_X6_begins_87] at hok
  refine G_aload_n hX dX6_begins_87 rfl rfl ?_
  refine G_iload_n hX dX6_begins_88 rfl rfl ?_
  refine G_aload_n hX dX6_begins_89 rfl rfl ?_
  refine G_geti hX dX6_begins_90 gt_RX6_148 rfl ?_
  refine G_iconst (v := (0 : Int32)) hX dX6_begins_93 (by decide) rfl ?_
  obtain ⟨ho_94, hok⟩ := hok
  refine G_cVv hX dX6_begins_94 lv_RX6_189 (sp_X6_pushes Γ ρ d a1 (z 36) (0 : Int32) z g ho_94) (by omega) nr_is_20 rfl rfl (Nat.le_of_ble_eq_true rfl) rfl (fun u_94 e_94 => ?_)
  obtain ⟨z_94, g_94⟩ := u_94
  rw [e_94, nr_K_mk] at hR
  refine G_goto (tg := 272) hX dX6_begins_97 (by decide) ?_
  exact G_vret hX dX6_begins_272 hR.symm
def T_X6_begins (a1 : Int32) (z : Nat → Int32) (g : Nat → Nat → Int32) : Int32 × nr_S := (if (z 27) = (40 : Int32) then (nr_K (T_X6_befalls (6 : Int32) (-1 : Int32) z g) (fun r_20 z_20 g_20 => (0, z_20, g_20))) else (if (R_X6_in ((g 24 (a1).toNatClampNeg)).toInt64 (48 : Int64) (55 : Int64)) = 0 then (if (g 24 (a1).toNatClampNeg) = (40 : Int32) then (T_X6_begins_87 a1 (va_up (va_up z 27 ((z 27) + (1 : Int32))) 25 (a1 + (1 : Int32))) g) else (if (g 24 (a1).toNatClampNeg) = (91 : Int32) then (T_X6_begins_87 a1 (va_up (va_up z 27 ((z 27) + (1 : Int32))) 25 (a1 + (1 : Int32))) g) else (if (g 24 (a1).toNatClampNeg) = (60 : Int32) then (T_X6_begins_87 a1 (va_up (va_up z 27 ((z 27) + (1 : Int32))) 25 (a1 + (1 : Int32))) g) else (if (g 24 (a1).toNatClampNeg) = (120 : Int32) then (nr_K (T_X6_figureFrom (a1 + (1 : Int32)) (va_up (va_up z 27 ((z 27) + (1 : Int32))) 25 (a1 + (1 : Int32))) g) (fun r_110 z_110 g_110 => (nr_K (T_X6_behindByte (58 : Int32) z_110 g_110) (fun r_117 z_117 g_117 => (if r_110 = 0 then (0, (va_up z_117 25 ((g_117 25 (a1).toNatClampNeg) + (1 : Int32))), g_117) else (nr_K (T_X6_pushes a1 (z_117 36) r_110 z_117 g_117) (fun r_146 z_146 g_146 => (0, z_146, g_146)))))))) else (if (g 24 (a1).toNatClampNeg) = (33 : Int32) then (nr_K (T_X6_figureFrom (a1 + (1 : Int32)) (va_up (va_up z 27 ((z 27) + (1 : Int32))) 25 (a1 + (1 : Int32))) g) (fun r_164 z_164 g_164 => (nr_K (T_X6_befalls (4 : Int32) r_164 z_164 g_164) (fun r_167 z_167 g_167 => (0, z_167, g_167))))) else (if (g 24 (a1).toNatClampNeg) = (43 : Int32) then (0, (va_up (va_up z 27 ((z 27) + (1 : Int32))) 25 (a1 + (1 : Int32))), (nr_st g 21 (57 : Int32) ((g 21 ((57 : Int32)).toNatClampNeg) + (z 37)))) else (if (z 36) = (-1 : Int32) then (nr_K (T_X6_befalls (3 : Int32) (-1 : Int32) (va_up (va_up z 27 ((z 27) + (1 : Int32))) 25 (a1 + (1 : Int32))) g) (fun r_207 z_207 g_207 => (0, z_207, g_207))) else (if (g 24 (a1).toNatClampNeg) = (108 : Int32) then (nr_K (T_X6_put (z 36) (5 : Int32) ((1 : Int32) - (R_X6_at (z 36) (5 : Int32) (va_up (va_up z 27 ((z 27) + (1 : Int32))) 25 (a1 + (1 : Int32))) g)) (va_up (va_up z 27 ((z 27) + (1 : Int32))) 25 (a1 + (1 : Int32))) g) (fun r_236 z_236 g_236 => (0, z_236, g_236))) else (if (g 24 (a1).toNatClampNeg) = (107 : Int32) then (nr_K (T_X6_takesKey (va_up (va_up z 27 ((z 27) + (1 : Int32))) 25 (a1 + (1 : Int32))) g) (fun r_249 z_249 g_249 => (0, z_249, g_249))) else (if (g 24 (a1).toNatClampNeg) = (119 : Int32) then (nr_K (T_X6_wakes (va_up (va_up z 27 ((z 27) + (1 : Int32))) 25 (a1 + (1 : Int32))) g) (fun r_262 z_262 g_262 => (0, z_262, g_262))) else (nr_K (T_X6_looksIn (va_up (va_up z 27 ((z 27) + (1 : Int32))) 25 (a1 + (1 : Int32))) g) (fun r_269 z_269 g_269 => (0, z_269, g_269))))))))))))) else (nr_K (T_X6_behindByte (123 : Int32) (va_up (va_up z 27 ((z 27) + (1 : Int32))) 25 (a1 + (1 : Int32))) g) (fun r_58 z_58 g_58 => (nr_K (T_X6_goesIn a1 z_58 g_58) (fun r_63 z_63 g_63 => (0, z_63, g_63)))))))
def O_X6_begins (a1 : Int32) (z : Nat → Int32) (g : Nat → Nat → Int32) : Prop := (vp_in a1 100 ∧ (((z 27) = (40 : Int32) → True) ∧ (¬ ((z 27) = (40 : Int32)) → (((R_X6_in ((g 24 (a1).toNatClampNeg)).toInt64 (48 : Int64) (55 : Int64)) = 0 → (((g 24 (a1).toNatClampNeg) = (40 : Int32) → (O_X6_begins_87 a1 (va_up (va_up z 27 ((z 27) + (1 : Int32))) 25 (a1 + (1 : Int32))) g)) ∧ (¬ ((g 24 (a1).toNatClampNeg) = (40 : Int32)) → (((g 24 (a1).toNatClampNeg) = (91 : Int32) → (O_X6_begins_87 a1 (va_up (va_up z 27 ((z 27) + (1 : Int32))) 25 (a1 + (1 : Int32))) g)) ∧ (¬ ((g 24 (a1).toNatClampNeg) = (91 : Int32)) → (((g 24 (a1).toNatClampNeg) = (60 : Int32) → (O_X6_begins_87 a1 (va_up (va_up z 27 ((z 27) + (1 : Int32))) 25 (a1 + (1 : Int32))) g)) ∧ (¬ ((g 24 (a1).toNatClampNeg) = (60 : Int32)) → (((g 24 (a1).toNatClampNeg) = (120 : Int32) → ((O_X6_figureFrom (a1 + (1 : Int32)) (va_up (va_up z 27 ((z 27) + (1 : Int32))) 25 (a1 + (1 : Int32))) g ∧ nr_KP (T_X6_figureFrom (a1 + (1 : Int32)) (va_up (va_up z 27 ((z 27) + (1 : Int32))) 25 (a1 + (1 : Int32))) g) (fun r_110 z_110 g_110 => ((O_X6_behindByte (58 : Int32) z_110 g_110 ∧ nr_KP (T_X6_behindByte (58 : Int32) z_110 g_110) (fun r_117 z_117 g_117 => ((r_110 = 0 → (vp_in a1 100 ∧ True)) ∧ (¬ (r_110 = 0) → ((O_X6_pushes a1 (z_117 36) r_110 z_117 g_117 ∧ True))))))))))) ∧ (¬ ((g 24 (a1).toNatClampNeg) = (120 : Int32)) → (((g 24 (a1).toNatClampNeg) = (33 : Int32) → ((O_X6_figureFrom (a1 + (1 : Int32)) (va_up (va_up z 27 ((z 27) + (1 : Int32))) 25 (a1 + (1 : Int32))) g ∧ True))) ∧ (¬ ((g 24 (a1).toNatClampNeg) = (33 : Int32)) → (((g 24 (a1).toNatClampNeg) = (43 : Int32) → True) ∧ (¬ ((g 24 (a1).toNatClampNeg) = (43 : Int32)) → (((z 36) = (-1 : Int32) → True) ∧ (¬ ((z 36) = (-1 : Int32)) → (((g 24 (a1).toNatClampNeg) = (108 : Int32) → (O_X6_at (z 36) (5 : Int32) (va_up (va_up z 27 ((z 27) + (1 : Int32))) 25 (a1 + (1 : Int32))) g ∧ ((O_X6_put (z 36) (5 : Int32) ((1 : Int32) - (R_X6_at (z 36) (5 : Int32) (va_up (va_up z 27 ((z 27) + (1 : Int32))) 25 (a1 + (1 : Int32))) g)) (va_up (va_up z 27 ((z 27) + (1 : Int32))) 25 (a1 + (1 : Int32))) g ∧ True)))) ∧ (¬ ((g 24 (a1).toNatClampNeg) = (108 : Int32)) → (((g 24 (a1).toNatClampNeg) = (107 : Int32) → ((O_X6_takesKey (va_up (va_up z 27 ((z 27) + (1 : Int32))) 25 (a1 + (1 : Int32))) g ∧ True))) ∧ (¬ ((g 24 (a1).toNatClampNeg) = (107 : Int32)) → (((g 24 (a1).toNatClampNeg) = (119 : Int32) → ((O_X6_wakes (va_up (va_up z 27 ((z 27) + (1 : Int32))) 25 (a1 + (1 : Int32))) g ∧ True))) ∧ (¬ ((g 24 (a1).toNatClampNeg) = (119 : Int32)) → ((O_X6_looksIn (va_up (va_up z 27 ((z 27) + (1 : Int32))) 25 (a1 + (1 : Int32))) g ∧ True))))))))))))))))))))))) ∧ (¬ ((R_X6_in ((g 24 (a1).toNatClampNeg)).toInt64 (48 : Int64) (55 : Int64)) = 0) → ((O_X6_behindByte (123 : Int32) (va_up (va_up z 27 ((z 27) + (1 : Int32))) 25 (a1 + (1 : Int32))) g ∧ nr_KP (T_X6_behindByte (123 : Int32) (va_up (va_up z 27 ((z 27) + (1 : Int32))) 25 (a1 + (1 : Int32))) g) (fun r_58 z_58 g_58 => ((O_X6_goesIn a1 z_58 g_58 ∧ True))))))))))
set_option maxHeartbeats 4000000 in
set_option maxRecDepth 100000 in
theorem sp_X6_begins (Γ : nr_M) (ρ : Nat → Nat) (d : Nat) (a1 : Int32) (z : Nat → Int32) (g : Nat → Nat → Int32) (hok : O_X6_begins a1 z g) : nr_Sv Γ ρ (d + 3) yX6_begins cX6_begins 4 none [.ref (ρ 20), .int a1] z g (fun u => (T_X6_begins a1 z g) = (0, u)) := by
  refine nr_body_v (lv := [(0, .ref (ρ 20)), (1, .int a1)]) (by decide +kernel) (Nat.le_of_ble_eq_true rfl) rfl (fun X hX => ?_)
  generalize hR : (T_X6_begins a1 z g) = R0
  rw [T_X6_begins] at hR
  rw [O_X6_begins] at hok
  refine G_aload_n hX dX6_begins_0 rfl rfl ?_
  refine G_getr hX dX6_begins_1 gt_RX6_19 rfl ?_
  refine G_iload_n hX dX6_begins_4 rfl rfl ?_
  obtain ⟨hi_5, hok⟩ := hok
  refine G_iald hX dX6_begins_5 (rfl : nr_il 24 = 100) (by decide) hi_5 rfl ?_
  refine G_istore_n hX dX6_begins_6 (by decide) rfl rfl ?_
  refine G_aload_n hX dX6_begins_7 rfl rfl ?_
  refine G_geti hX dX6_begins_8 gt_RX6_192 rfl ?_
  refine G_bipush (v := (40 : Int32)) hX dX6_begins_11 (by decide) rfl ?_
  refine G_icmp_ne (tg := 24) hX dX6_begins_13 (by decide) rfl (fun (h_13 : ¬ ((z 27) = (40 : Int32))) => ?_) (fun (h_13 : (z 27) = (40 : Int32)) => ?_)
  · rw [if_neg h_13] at hR
    replace hok := hok.2 h_13
    refine G_aload_n hX dX6_begins_24 rfl rfl ?_
    refine G_dup hX dX6_begins_25 rfl rfl ?_
    refine G_geti hX dX6_begins_26 gt_RX6_192 rfl ?_
    refine G_iconst (v := (1 : Int32)) hX dX6_begins_29 (by decide) rfl ?_
    refine G_iadd hX dX6_begins_30 rfl ?_
    refine G_put hX dX6_begins_31 pt_RX6_192 rfl rfl rfl ?_
    refine G_aload_n hX dX6_begins_34 rfl rfl ?_
    refine G_iload_n hX dX6_begins_35 rfl rfl ?_
    refine G_iconst (v := (1 : Int32)) hX dX6_begins_36 (by decide) rfl ?_
    refine G_iadd hX dX6_begins_37 rfl ?_
    refine G_put hX dX6_begins_38 pt_RX6_113 rfl rfl rfl ?_
    refine G_iload_n hX dX6_begins_41 rfl rfl ?_
    refine G_i2l hX dX6_begins_42 rfl ?_
    refine G_ldc2 (v := (48 : Int64)) hX dX6_begins_43 wk_RX6_119 rfl ?_
    refine G_ldc2 (v := (55 : Int64)) hX dX6_begins_46 wk_RX6_121 rfl ?_
    refine G_fSi hX dX6_begins_49 ls_RX6_62 (sp_X6_in Γ ρ d ((g 24 (a1).toNatClampNeg)).toInt64 (48 : Int64) (55 : Int64) (va_up (va_up z 27 ((z 27) + (1 : Int32))) 25 (a1 + (1 : Int32))) g) (by omega) rfl rfl (Nat.le_of_ble_eq_true rfl) rfl ?_
    refine G_if_eq (tg := 69) hX dX6_begins_52 (by decide) rfl (fun (h_52 : (R_X6_in ((g 24 (a1).toNatClampNeg)).toInt64 (48 : Int64) (55 : Int64)) = 0) => ?_) (fun (h_52 : ¬ ((R_X6_in ((g 24 (a1).toNatClampNeg)).toInt64 (48 : Int64) (55 : Int64)) = 0)) => ?_)
    · rw [if_pos h_52] at hR
      replace hok := hok.1 h_52
      refine G_iload_n hX dX6_begins_69 rfl rfl ?_
      refine G_bipush (v := (40 : Int32)) hX dX6_begins_70 (by decide) rfl ?_
      refine G_icmp_eq (tg := 87) hX dX6_begins_72 (by decide) rfl (fun (h_72 : (g 24 (a1).toNatClampNeg) = (40 : Int32)) => ?_) (fun (h_72 : ¬ ((g 24 (a1).toNatClampNeg) = (40 : Int32))) => ?_)
      · rw [if_pos h_72] at hR
        replace hok := hok.1 h_72
        exact nr_sub (by exact ⟨rfl, rfl, trivial⟩) (sp_X6_begins_87 Γ ρ d X hX a1 (va_up (va_up z 27 ((z 27) + (1 : Int32))) 25 (a1 + (1 : Int32))) g R0 hR hok)
      · rw [if_neg h_72] at hR
        replace hok := hok.2 h_72
        refine G_iload_n hX dX6_begins_75 rfl rfl ?_
        refine G_bipush (v := (91 : Int32)) hX dX6_begins_76 (by decide) rfl ?_
        refine G_icmp_eq (tg := 87) hX dX6_begins_78 (by decide) rfl (fun (h_78 : (g 24 (a1).toNatClampNeg) = (91 : Int32)) => ?_) (fun (h_78 : ¬ ((g 24 (a1).toNatClampNeg) = (91 : Int32))) => ?_)
        · rw [if_pos h_78] at hR
          replace hok := hok.1 h_78
          exact nr_sub (by exact ⟨rfl, rfl, trivial⟩) (sp_X6_begins_87 Γ ρ d X hX a1 (va_up (va_up z 27 ((z 27) + (1 : Int32))) 25 (a1 + (1 : Int32))) g R0 hR hok)
        · rw [if_neg h_78] at hR
          replace hok := hok.2 h_78
          refine G_iload_n hX dX6_begins_81 rfl rfl ?_
          refine G_bipush (v := (60 : Int32)) hX dX6_begins_82 (by decide) rfl ?_
          refine G_icmp_ne (tg := 100) hX dX6_begins_84 (by decide) rfl (fun (h_84 : ¬ ((g 24 (a1).toNatClampNeg) = (60 : Int32))) => ?_) (fun (h_84 : (g 24 (a1).toNatClampNeg) = (60 : Int32)) => ?_)
          · rw [if_neg h_84] at hR
            replace hok := hok.2 h_84
            refine G_iload_n hX dX6_begins_100 rfl rfl ?_
            refine G_bipush (v := (120 : Int32)) hX dX6_begins_101 (by decide) rfl ?_
            refine G_icmp_ne (tg := 152) hX dX6_begins_103 (by decide) rfl (fun (h_103 : ¬ ((g 24 (a1).toNatClampNeg) = (120 : Int32))) => ?_) (fun (h_103 : (g 24 (a1).toNatClampNeg) = (120 : Int32)) => ?_)
            · rw [if_neg h_103] at hR
              replace hok := hok.2 h_103
              refine G_iload_n hX dX6_begins_152 rfl rfl ?_
              refine G_bipush (v := (33 : Int32)) hX dX6_begins_153 (by decide) rfl ?_
              refine G_icmp_ne (tg := 173) hX dX6_begins_155 (by decide) rfl (fun (h_155 : ¬ ((g 24 (a1).toNatClampNeg) = (33 : Int32))) => ?_) (fun (h_155 : (g 24 (a1).toNatClampNeg) = (33 : Int32)) => ?_)
              · rw [if_neg h_155] at hR
                replace hok := hok.2 h_155
                refine G_iload_n hX dX6_begins_173 rfl rfl ?_
                refine G_bipush (v := (43 : Int32)) hX dX6_begins_174 (by decide) rfl ?_
                refine G_icmp_ne (tg := 196) hX dX6_begins_176 (by decide) rfl (fun (h_176 : ¬ ((g 24 (a1).toNatClampNeg) = (43 : Int32))) => ?_) (fun (h_176 : (g 24 (a1).toNatClampNeg) = (43 : Int32)) => ?_)
                · rw [if_neg h_176] at hR
                  replace hok := hok.2 h_176
                  refine G_aload_n hX dX6_begins_196 rfl rfl ?_
                  refine G_geti hX dX6_begins_197 gt_RX6_148 rfl ?_
                  refine G_iconst (v := (-1 : Int32)) hX dX6_begins_200 (by decide) rfl ?_
                  refine G_icmp_ne (tg := 213) hX dX6_begins_201 (by decide) rfl (fun (h_201 : ¬ ((z 36) = (-1 : Int32))) => ?_) (fun (h_201 : (z 36) = (-1 : Int32)) => ?_)
                  · rw [if_neg h_201] at hR
                    replace hok := hok.2 h_201
                    refine G_iload_n hX dX6_begins_213 rfl rfl ?_
                    refine G_bipush (v := (108 : Int32)) hX dX6_begins_214 (by decide) rfl ?_
                    refine G_icmp_ne (tg := 242) hX dX6_begins_216 (by decide) rfl (fun (h_216 : ¬ ((g 24 (a1).toNatClampNeg) = (108 : Int32))) => ?_) (fun (h_216 : (g 24 (a1).toNatClampNeg) = (108 : Int32)) => ?_)
                    · rw [if_neg h_216] at hR
                      replace hok := hok.2 h_216
                      refine G_iload_n hX dX6_begins_242 rfl rfl ?_
                      refine G_bipush (v := (107 : Int32)) hX dX6_begins_243 (by decide) rfl ?_
                      refine G_icmp_ne (tg := 255) hX dX6_begins_245 (by decide) rfl (fun (h_245 : ¬ ((g 24 (a1).toNatClampNeg) = (107 : Int32))) => ?_) (fun (h_245 : (g 24 (a1).toNatClampNeg) = (107 : Int32)) => ?_)
                      · rw [if_neg h_245] at hR
                        replace hok := hok.2 h_245
                        refine G_iload_n hX dX6_begins_255 rfl rfl ?_
                        refine G_bipush (v := (119 : Int32)) hX dX6_begins_256 (by decide) rfl ?_
                        refine G_icmp_ne (tg := 268) hX dX6_begins_258 (by decide) rfl (fun (h_258 : ¬ ((g 24 (a1).toNatClampNeg) = (119 : Int32))) => ?_) (fun (h_258 : (g 24 (a1).toNatClampNeg) = (119 : Int32)) => ?_)
                        · rw [if_neg h_258] at hR
                          replace hok := hok.2 h_258
                          refine G_aload_n hX dX6_begins_268 rfl rfl ?_
                          obtain ⟨ho_269, hok⟩ := hok
                          refine G_cVv hX dX6_begins_269 lv_RX6_210 (sp_X6_looksIn Γ ρ d (va_up (va_up z 27 ((z 27) + (1 : Int32))) 25 (a1 + (1 : Int32))) g ho_269) (by omega) nr_is_20 rfl rfl (Nat.le_of_ble_eq_true rfl) rfl (fun u_269 e_269 => ?_)
                          obtain ⟨z_269, g_269⟩ := u_269
                          rw [e_269, nr_K_mk] at hR
                          exact G_vret hX dX6_begins_272 hR.symm
                        · rw [if_pos h_258] at hR
                          replace hok := hok.1 h_258
                          refine G_aload_n hX dX6_begins_261 rfl rfl ?_
                          obtain ⟨ho_262, hok⟩ := hok
                          refine G_cVv hX dX6_begins_262 lv_RX6_207 (sp_X6_wakes Γ ρ d (va_up (va_up z 27 ((z 27) + (1 : Int32))) 25 (a1 + (1 : Int32))) g ho_262) (by omega) nr_is_20 rfl rfl (Nat.le_of_ble_eq_true rfl) rfl (fun u_262 e_262 => ?_)
                          obtain ⟨z_262, g_262⟩ := u_262
                          rw [e_262, nr_K_mk] at hR
                          refine G_goto (tg := 272) hX dX6_begins_265 (by decide) ?_
                          exact G_vret hX dX6_begins_272 hR.symm
                      · rw [if_pos h_245] at hR
                        replace hok := hok.1 h_245
                        refine G_aload_n hX dX6_begins_248 rfl rfl ?_
                        obtain ⟨ho_249, hok⟩ := hok
                        refine G_cVv hX dX6_begins_249 lv_RX6_204 (sp_X6_takesKey Γ ρ d (va_up (va_up z 27 ((z 27) + (1 : Int32))) 25 (a1 + (1 : Int32))) g ho_249) (by omega) nr_is_20 rfl rfl (Nat.le_of_ble_eq_true rfl) rfl (fun u_249 e_249 => ?_)
                        obtain ⟨z_249, g_249⟩ := u_249
                        rw [e_249, nr_K_mk] at hR
                        refine G_goto (tg := 272) hX dX6_begins_252 (by decide) ?_
                        exact G_vret hX dX6_begins_272 hR.symm
                    · rw [if_pos h_216] at hR
                      replace hok := hok.1 h_216
                      refine G_aload_n hX dX6_begins_219 rfl rfl ?_
                      refine G_aload_n hX dX6_begins_220 rfl rfl ?_
                      refine G_geti hX dX6_begins_221 gt_RX6_148 rfl ?_
                      refine G_iconst (v := (5 : Int32)) hX dX6_begins_224 (by decide) rfl ?_
                      refine G_iconst (v := (1 : Int32)) hX dX6_begins_225 (by decide) rfl ?_
                      refine G_aload_n hX dX6_begins_226 rfl rfl ?_
                      refine G_aload_n hX dX6_begins_227 rfl rfl ?_
                      refine G_geti hX dX6_begins_228 gt_RX6_148 rfl ?_
                      refine G_iconst (v := (5 : Int32)) hX dX6_begins_231 (by decide) rfl ?_
                      obtain ⟨ho_232, hok⟩ := hok
                      refine G_fVi hX dX6_begins_232 lv_RX6_69 (sp_X6_at Γ ρ d (z 36) (5 : Int32) (va_up (va_up z 27 ((z 27) + (1 : Int32))) 25 (a1 + (1 : Int32))) g ho_232) (by omega) nr_is_20 rfl rfl (Nat.le_of_ble_eq_true rfl) rfl ?_
                      refine G_isub hX dX6_begins_235 rfl ?_
                      obtain ⟨ho_236, hok⟩ := hok
                      refine G_cVv hX dX6_begins_236 lv_RX6_89 (sp_X6_put Γ ρ d (z 36) (5 : Int32) ((1 : Int32) - (R_X6_at (z 36) (5 : Int32) (va_up (va_up z 27 ((z 27) + (1 : Int32))) 25 (a1 + (1 : Int32))) g)) (va_up (va_up z 27 ((z 27) + (1 : Int32))) 25 (a1 + (1 : Int32))) g ho_236) (by omega) nr_is_20 rfl rfl (Nat.le_of_ble_eq_true rfl) rfl (fun u_236 e_236 => ?_)
                      obtain ⟨z_236, g_236⟩ := u_236
                      rw [e_236, nr_K_mk] at hR
                      refine G_goto (tg := 272) hX dX6_begins_239 (by decide) ?_
                      exact G_vret hX dX6_begins_272 hR.symm
                  · rw [if_pos h_201] at hR
                    replace hok := hok.1 h_201
                    refine G_aload_n hX dX6_begins_204 rfl rfl ?_
                    refine G_iconst (v := (3 : Int32)) hX dX6_begins_205 (by decide) rfl ?_
                    refine G_iconst (v := (-1 : Int32)) hX dX6_begins_206 (by decide) rfl ?_
                    refine G_cVv hX dX6_begins_207 lv_RX6_182 (sp_X6_befalls Γ ρ d (3 : Int32) (-1 : Int32) (va_up (va_up z 27 ((z 27) + (1 : Int32))) 25 (a1 + (1 : Int32))) g) (by omega) nr_is_20 rfl rfl (Nat.le_of_ble_eq_true rfl) rfl (fun u_207 e_207 => ?_)
                    obtain ⟨z_207, g_207⟩ := u_207
                    rw [e_207, nr_K_mk] at hR
                    refine G_goto (tg := 272) hX dX6_begins_210 (by decide) ?_
                    exact G_vret hX dX6_begins_272 hR.symm
                · rw [if_pos h_176] at hR
                  replace hok := hok.1 h_176
                  refine G_aload_n hX dX6_begins_179 rfl rfl ?_
                  refine G_getr hX dX6_begins_180 gt_RX6_7 rfl ?_
                  refine G_bipush (v := (57 : Int32)) hX dX6_begins_183 (by decide) rfl ?_
                  refine G_dup2 hX dX6_begins_185 rfl rfl rfl ?_
                  refine G_iald hX dX6_begins_186 (rfl : nr_il 21 = 58) (by decide) (by unfold vp_in; decide) rfl ?_
                  refine G_aload_n hX dX6_begins_187 rfl rfl ?_
                  refine G_geti hX dX6_begins_188 gt_RX6_169 rfl ?_
                  refine G_iadd hX dX6_begins_191 rfl ?_
                  refine G_ist hX dX6_begins_192 (rfl : nr_il 21 = 58) (by decide) (by unfold vp_in; decide) rfl ?_
                  refine G_goto (tg := 272) hX dX6_begins_193 (by decide) ?_
                  exact G_vret hX dX6_begins_272 hR.symm
              · rw [if_pos h_155] at hR
                replace hok := hok.1 h_155
                refine G_aload_n hX dX6_begins_158 rfl rfl ?_
                refine G_iconst (v := (4 : Int32)) hX dX6_begins_159 (by decide) rfl ?_
                refine G_aload_n hX dX6_begins_160 rfl rfl ?_
                refine G_iload_n hX dX6_begins_161 rfl rfl ?_
                refine G_iconst (v := (1 : Int32)) hX dX6_begins_162 (by decide) rfl ?_
                refine G_iadd hX dX6_begins_163 rfl ?_
                obtain ⟨ho_164, hok⟩ := hok
                refine G_cVi hX dX6_begins_164 lv_RX6_201 (sp_X6_figureFrom Γ ρ d (a1 + (1 : Int32)) (va_up (va_up z 27 ((z 27) + (1 : Int32))) 25 (a1 + (1 : Int32))) g ho_164) (by omega) nr_is_20 rfl rfl (Nat.le_of_ble_eq_true rfl) rfl (fun r_164 u_164 e_164 => ?_)
                obtain ⟨z_164, g_164⟩ := u_164
                rw [e_164, nr_K_mk] at hR
                refine G_cVv hX dX6_begins_167 lv_RX6_182 (sp_X6_befalls Γ ρ d (4 : Int32) r_164 z_164 g_164) (by omega) nr_is_20 rfl rfl (Nat.le_of_ble_eq_true rfl) rfl (fun u_167 e_167 => ?_)
                obtain ⟨z_167, g_167⟩ := u_167
                rw [e_167, nr_K_mk] at hR
                refine G_goto (tg := 272) hX dX6_begins_170 (by decide) ?_
                exact G_vret hX dX6_begins_272 hR.symm
            · rw [if_pos h_103] at hR
              replace hok := hok.1 h_103
              refine G_aload_n hX dX6_begins_106 rfl rfl ?_
              refine G_iload_n hX dX6_begins_107 rfl rfl ?_
              refine G_iconst (v := (1 : Int32)) hX dX6_begins_108 (by decide) rfl ?_
              refine G_iadd hX dX6_begins_109 rfl ?_
              obtain ⟨ho_110, hok⟩ := hok
              refine G_cVi hX dX6_begins_110 lv_RX6_201 (sp_X6_figureFrom Γ ρ d (a1 + (1 : Int32)) (va_up (va_up z 27 ((z 27) + (1 : Int32))) 25 (a1 + (1 : Int32))) g ho_110) (by omega) nr_is_20 rfl rfl (Nat.le_of_ble_eq_true rfl) rfl (fun r_110 u_110 e_110 => ?_)
              obtain ⟨z_110, g_110⟩ := u_110
              rw [e_110, nr_K_mk] at hR
              rw [e_110, nr_KP_mk] at hok
              refine G_istore_n hX dX6_begins_113 (by decide) rfl rfl ?_
              refine G_aload_n hX dX6_begins_114 rfl rfl ?_
              refine G_bipush (v := (58 : Int32)) hX dX6_begins_115 (by decide) rfl ?_
              obtain ⟨ho_117, hok⟩ := hok
              refine G_cVv hX dX6_begins_117 lv_RX6_195 (sp_X6_behindByte Γ ρ d (58 : Int32) z_110 g_110 ho_117) (by omega) nr_is_20 rfl rfl (Nat.le_of_ble_eq_true rfl) rfl (fun u_117 e_117 => ?_)
              obtain ⟨z_117, g_117⟩ := u_117
              rw [e_117, nr_K_mk] at hR
              rw [e_117, nr_KP_mk] at hok
              refine G_iload_n hX dX6_begins_120 rfl rfl ?_
              refine G_if_ne (tg := 139) hX dX6_begins_121 (by decide) rfl (fun (h_121 : ¬ (r_110 = 0)) => ?_) (fun (h_121 : r_110 = 0) => ?_)
              · rw [if_neg h_121] at hR
                replace hok := hok.2 h_121
                refine G_aload_n hX dX6_begins_139 rfl rfl ?_
                refine G_iload_n hX dX6_begins_140 rfl rfl ?_
                refine G_aload_n hX dX6_begins_141 rfl rfl ?_
                refine G_geti hX dX6_begins_142 gt_RX6_148 rfl ?_
                refine G_iload_n hX dX6_begins_145 rfl rfl ?_
                obtain ⟨ho_146, hok⟩ := hok
                refine G_cVv hX dX6_begins_146 lv_RX6_189 (sp_X6_pushes Γ ρ d a1 (z_117 36) r_110 z_117 g_117 ho_146) (by omega) nr_is_20 rfl rfl (Nat.le_of_ble_eq_true rfl) rfl (fun u_146 e_146 => ?_)
                obtain ⟨z_146, g_146⟩ := u_146
                rw [e_146, nr_K_mk] at hR
                refine G_goto (tg := 272) hX dX6_begins_149 (by decide) ?_
                exact G_vret hX dX6_begins_272 hR.symm
              · rw [if_pos h_121] at hR
                replace hok := hok.1 h_121
                refine G_aload_n hX dX6_begins_124 rfl rfl ?_
                refine G_aload_n hX dX6_begins_125 rfl rfl ?_
                refine G_getr hX dX6_begins_126 gt_RX6_22 rfl ?_
                refine G_iload_n hX dX6_begins_129 rfl rfl ?_
                obtain ⟨hi_130, hok⟩ := hok
                refine G_iald hX dX6_begins_130 (rfl : nr_il 25 = 100) (by decide) hi_130 rfl ?_
                refine G_iconst (v := (1 : Int32)) hX dX6_begins_131 (by decide) rfl ?_
                refine G_iadd hX dX6_begins_132 rfl ?_
                refine G_put hX dX6_begins_133 pt_RX6_113 rfl rfl rfl ?_
                refine G_goto (tg := 149) hX dX6_begins_136 (by decide) ?_
                refine G_goto (tg := 272) hX dX6_begins_149 (by decide) ?_
                exact G_vret hX dX6_begins_272 hR.symm
          · rw [if_pos h_84] at hR
            replace hok := hok.1 h_84
            exact nr_sub (by exact ⟨rfl, rfl, trivial⟩) (sp_X6_begins_87 Γ ρ d X hX a1 (va_up (va_up z 27 ((z 27) + (1 : Int32))) 25 (a1 + (1 : Int32))) g R0 hR hok)
    · rw [if_neg h_52] at hR
      replace hok := hok.2 h_52
      refine G_aload_n hX dX6_begins_55 rfl rfl ?_
      refine G_bipush (v := (123 : Int32)) hX dX6_begins_56 (by decide) rfl ?_
      obtain ⟨ho_58, hok⟩ := hok
      refine G_cVv hX dX6_begins_58 lv_RX6_195 (sp_X6_behindByte Γ ρ d (123 : Int32) (va_up (va_up z 27 ((z 27) + (1 : Int32))) 25 (a1 + (1 : Int32))) g ho_58) (by omega) nr_is_20 rfl rfl (Nat.le_of_ble_eq_true rfl) rfl (fun u_58 e_58 => ?_)
      obtain ⟨z_58, g_58⟩ := u_58
      rw [e_58, nr_K_mk] at hR
      rw [e_58, nr_KP_mk] at hok
      refine G_aload_n hX dX6_begins_61 rfl rfl ?_
      refine G_iload_n hX dX6_begins_62 rfl rfl ?_
      obtain ⟨ho_63, hok⟩ := hok
      refine G_cVv hX dX6_begins_63 lv_RX6_198 (sp_X6_goesIn Γ ρ d a1 z_58 g_58 ho_63) (by omega) nr_is_20 rfl rfl (Nat.le_of_ble_eq_true rfl) rfl (fun u_63 e_63 => ?_)
      obtain ⟨z_63, g_63⟩ := u_63
      rw [e_63, nr_K_mk] at hR
      refine G_goto (tg := 272) hX dX6_begins_66 (by decide) ?_
      exact G_vret hX dX6_begins_272 hR.symm
  · rw [if_pos h_13] at hR
    replace hok := hok.1 h_13
    refine G_aload_n hX dX6_begins_16 rfl rfl ?_
    refine G_bipush (v := (6 : Int32)) hX dX6_begins_17 (by decide) rfl ?_
    refine G_iconst (v := (-1 : Int32)) hX dX6_begins_19 (by decide) rfl ?_
    refine G_cVv hX dX6_begins_20 lv_RX6_182 (sp_X6_befalls Γ ρ d (6 : Int32) (-1 : Int32) z g) (by omega) nr_is_20 rfl rfl (Nat.le_of_ble_eq_true rfl) rfl (fun u_20 e_20 => ?_)
    obtain ⟨z_20, g_20⟩ := u_20
    rw [e_20, nr_K_mk] at hR
    exact G_vret hX dX6_begins_23 hR.symm
def T_X6_shuts (a1 : Int32) (z : Nat → Int32) (g : Nat → Nat → Int32) : Int32 × nr_S := (nr_K (T_X6_notes ((20 : Int32) + a1) (va_up z 37 ((z 37) - (1 : Int32))) g) (fun r_15 z_15 g_15 => (if (R_X6_isAsleep a1 z_15 g_15) = 0 then (0, z_15, g_15) else (if ((R_X6_loud a1 z_15 g_15) - (1 : Int32)) < (R_X6_at a1 (3 : Int32) z_15 g_15) then (0, z_15, g_15) else (nr_K (T_X6_put a1 (4 : Int32) (1 : Int32) z_15 g_15) (fun r_46 z_46 g_46 => (0, z_46, g_46)))))))
def O_X6_shuts (a1 : Int32) (z : Nat → Int32) (g : Nat → Nat → Int32) : Prop := ((O_X6_notes ((20 : Int32) + a1) (va_up z 37 ((z 37) - (1 : Int32))) g ∧ nr_KP (T_X6_notes ((20 : Int32) + a1) (va_up z 37 ((z 37) - (1 : Int32))) g) (fun r_15 z_15 g_15 => (O_X6_isAsleep a1 z_15 g_15 ∧ (((R_X6_isAsleep a1 z_15 g_15) = 0 → True) ∧ (¬ ((R_X6_isAsleep a1 z_15 g_15) = 0) → (O_X6_loud a1 z_15 g_15 ∧ (O_X6_at a1 (3 : Int32) z_15 g_15 ∧ ((((R_X6_loud a1 z_15 g_15) - (1 : Int32)) < (R_X6_at a1 (3 : Int32) z_15 g_15) → True) ∧ (¬ (((R_X6_loud a1 z_15 g_15) - (1 : Int32)) < (R_X6_at a1 (3 : Int32) z_15 g_15)) → ((O_X6_put a1 (4 : Int32) (1 : Int32) z_15 g_15 ∧ True))))))))))))
set_option maxHeartbeats 4000000 in
set_option maxRecDepth 100000 in
theorem sp_X6_shuts (Γ : nr_M) (ρ : Nat → Nat) (d : Nat) (a1 : Int32) (z : Nat → Int32) (g : Nat → Nat → Int32) (hok : O_X6_shuts a1 z g) : nr_Sv Γ ρ (d + 2) yX6_shuts cX6_shuts 2 none [.ref (ρ 20), .int a1] z g (fun u => (T_X6_shuts a1 z g) = (0, u)) := by
  refine nr_body_v (lv := [(0, .ref (ρ 20)), (1, .int a1)]) (by decide +kernel) (Nat.le_of_ble_eq_true rfl) rfl (fun X hX => ?_)
  generalize hR : (T_X6_shuts a1 z g) = R0
  rw [T_X6_shuts] at hR
  rw [O_X6_shuts] at hok
  refine G_aload_n hX dX6_shuts_0 rfl rfl ?_
  refine G_dup hX dX6_shuts_1 rfl rfl ?_
  refine G_geti hX dX6_shuts_2 gt_RX6_169 rfl ?_
  refine G_iconst (v := (1 : Int32)) hX dX6_shuts_5 (by decide) rfl ?_
  refine G_isub hX dX6_shuts_6 rfl ?_
  refine G_put hX dX6_shuts_7 pt_RX6_169 rfl rfl rfl ?_
  refine G_aload_n hX dX6_shuts_10 rfl rfl ?_
  refine G_bipush (v := (20 : Int32)) hX dX6_shuts_11 (by decide) rfl ?_
  refine G_iload_n hX dX6_shuts_13 rfl rfl ?_
  refine G_iadd hX dX6_shuts_14 rfl ?_
  obtain ⟨ho_15, hok⟩ := hok
  refine G_cVv hX dX6_shuts_15 lv_RX6_172 (sp_X6_notes Γ ρ d ((20 : Int32) + a1) (va_up z 37 ((z 37) - (1 : Int32))) g ho_15) (by omega) nr_is_20 rfl rfl (Nat.le_of_ble_eq_true rfl) rfl (fun u_15 e_15 => ?_)
  obtain ⟨z_15, g_15⟩ := u_15
  rw [e_15, nr_K_mk] at hR
  rw [e_15, nr_KP_mk] at hok
  refine G_aload_n hX dX6_shuts_18 rfl rfl ?_
  refine G_iload_n hX dX6_shuts_19 rfl rfl ?_
  obtain ⟨ho_20, hok⟩ := hok
  refine G_fVi hX dX6_shuts_20 lv_RX6_176 (sp_X6_isAsleep Γ ρ d a1 z_15 g_15 ho_20) (by omega) nr_is_20 rfl rfl (Nat.le_of_ble_eq_true rfl) rfl ?_
  refine G_if_eq (tg := 49) hX dX6_shuts_23 (by decide) rfl (fun (h_23 : (R_X6_isAsleep a1 z_15 g_15) = 0) => ?_) (fun (h_23 : ¬ ((R_X6_isAsleep a1 z_15 g_15) = 0)) => ?_)
  · rw [if_pos h_23] at hR
    replace hok := hok.1 h_23
    exact G_vret hX dX6_shuts_49 hR.symm
  · rw [if_neg h_23] at hR
    replace hok := hok.2 h_23
    refine G_aload_n hX dX6_shuts_26 rfl rfl ?_
    refine G_iload_n hX dX6_shuts_27 rfl rfl ?_
    obtain ⟨ho_28, hok⟩ := hok
    refine G_fVi hX dX6_shuts_28 lv_RX6_93 (sp_X6_loud Γ ρ d a1 z_15 g_15 ho_28) (by omega) nr_is_20 rfl rfl (Nat.le_of_ble_eq_true rfl) rfl ?_
    refine G_iconst (v := (1 : Int32)) hX dX6_shuts_31 (by decide) rfl ?_
    refine G_isub hX dX6_shuts_32 rfl ?_
    refine G_aload_n hX dX6_shuts_33 rfl rfl ?_
    refine G_iload_n hX dX6_shuts_34 rfl rfl ?_
    refine G_iconst (v := (3 : Int32)) hX dX6_shuts_35 (by decide) rfl ?_
    obtain ⟨ho_36, hok⟩ := hok
    refine G_fVi hX dX6_shuts_36 lv_RX6_69 (sp_X6_at Γ ρ d a1 (3 : Int32) z_15 g_15 ho_36) (by omega) nr_is_20 rfl rfl (Nat.le_of_ble_eq_true rfl) rfl ?_
    refine G_icmp_lt (tg := 49) hX dX6_shuts_39 (by decide) rfl (fun (h_39 : ((R_X6_loud a1 z_15 g_15) - (1 : Int32)) < (R_X6_at a1 (3 : Int32) z_15 g_15)) => ?_) (fun (h_39 : ¬ (((R_X6_loud a1 z_15 g_15) - (1 : Int32)) < (R_X6_at a1 (3 : Int32) z_15 g_15))) => ?_)
    · rw [if_pos h_39] at hR
      replace hok := hok.1 h_39
      exact G_vret hX dX6_shuts_49 hR.symm
    · rw [if_neg h_39] at hR
      replace hok := hok.2 h_39
      refine G_aload_n hX dX6_shuts_42 rfl rfl ?_
      refine G_iload_n hX dX6_shuts_43 rfl rfl ?_
      refine G_iconst (v := (4 : Int32)) hX dX6_shuts_44 (by decide) rfl ?_
      refine G_iconst (v := (1 : Int32)) hX dX6_shuts_45 (by decide) rfl ?_
      obtain ⟨ho_46, hok⟩ := hok
      refine G_cVv hX dX6_shuts_46 lv_RX6_89 (sp_X6_put Γ ρ d a1 (4 : Int32) (1 : Int32) z_15 g_15 ho_46) (by omega) nr_is_20 rfl rfl (Nat.le_of_ble_eq_true rfl) rfl (fun u_46 e_46 => ?_)
      obtain ⟨z_46, g_46⟩ := u_46
      rw [e_46, nr_K_mk] at hR
      exact G_vret hX dX6_shuts_49 hR.symm
def T_X6_pops_47   (z : Nat → Int32) (g : Nat → Nat → Int32) : Int32 × nr_S := (0, (va_up z 36 (g 30 ((z 35)).toNatClampNeg)), g)
def O_X6_pops_47   (z : Nat → Int32) (g : Nat → Nat → Int32) : Prop := (vp_in (z 35) 9 ∧ True)
set_option maxHeartbeats 4000000 in
set_option maxRecDepth 100000 in
theorem sp_X6_pops_47 (Γ : nr_M) (ρ : Nat → Nat) (d : Nat) (X : nr_CX) (hX : nr_Cx Γ ρ X yX6_pops cX6_pops 2 none (d + 3))  (z : Nat → Int32) (g : Nat → Nat → Int32) (R0 : Int32 × nr_S) (hR : T_X6_pops_47  z g = R0) (hok : O_X6_pops_47  z g) : nr_G Γ ρ X 2 (nr_Qv Γ ρ X (fun u => R0 = (0, u))) 47 [(0, .ref (ρ 20))] [] z g := by
  rw [T_X6_pops_47] at hR
  rw [O_X6_pops_47] at hok
  refine G_aload_n hX dX6_pops_47 rfl rfl ?_
  refine G_aload_n hX dX6_pops_48 rfl rfl ?_
  refine G_getr hX dX6_pops_49 gt_RX6_37 rfl ?_
  refine G_aload_n hX dX6_pops_52 rfl rfl ?_
  refine G_geti hX dX6_pops_53 gt_RX6_166 rfl ?_
  obtain ⟨hi_56, hok⟩ := hok
  refine G_iald hX dX6_pops_56 (rfl : nr_il 30 = 9) (by decide) hi_56 rfl ?_
  refine G_put hX dX6_pops_57 pt_RX6_148 rfl rfl rfl ?_
  exact G_vret hX dX6_pops_60 hR.symm
def T_X6_pops  (z : Nat → Int32) (g : Nat → Nat → Int32) : Int32 × nr_S := (if (R_X6_in ((g 24 ((g 29 (((z 35) - (1 : Int32))).toNatClampNeg)).toNatClampNeg)).toInt64 (48 : Int64) (55 : Int64)) = 0 then (T_X6_pops_47  (va_up z 35 ((z 35) - (1 : Int32))) g) else (nr_K (T_X6_shuts ((g 24 ((g 29 (((z 35) - (1 : Int32))).toNatClampNeg)).toNatClampNeg) - (48 : Int32)) (va_up z 35 ((z 35) - (1 : Int32))) g) (fun r_44 z_44 g_44 => (T_X6_pops_47  z_44 g_44))))
def O_X6_pops  (z : Nat → Int32) (g : Nat → Nat → Int32) : Prop := (vp_in ((z 35) - (1 : Int32)) 9 ∧ (vp_in (g 29 (((z 35) - (1 : Int32))).toNatClampNeg) 100 ∧ (((R_X6_in ((g 24 ((g 29 (((z 35) - (1 : Int32))).toNatClampNeg)).toNatClampNeg)).toInt64 (48 : Int64) (55 : Int64)) = 0 → (O_X6_pops_47  (va_up z 35 ((z 35) - (1 : Int32))) g)) ∧ (¬ ((R_X6_in ((g 24 ((g 29 (((z 35) - (1 : Int32))).toNatClampNeg)).toNatClampNeg)).toInt64 (48 : Int64) (55 : Int64)) = 0) → ((O_X6_shuts ((g 24 ((g 29 (((z 35) - (1 : Int32))).toNatClampNeg)).toNatClampNeg) - (48 : Int32)) (va_up z 35 ((z 35) - (1 : Int32))) g ∧ nr_KP (T_X6_shuts ((g 24 ((g 29 (((z 35) - (1 : Int32))).toNatClampNeg)).toNatClampNeg) - (48 : Int32)) (va_up z 35 ((z 35) - (1 : Int32))) g) (fun r_44 z_44 g_44 => (O_X6_pops_47  z_44 g_44))))))))
set_option maxHeartbeats 4000000 in
set_option maxRecDepth 100000 in
theorem sp_X6_pops (Γ : nr_M) (ρ : Nat → Nat) (d : Nat) (z : Nat → Int32) (g : Nat → Nat → Int32) (hok : O_X6_pops z g) : nr_Sv Γ ρ (d + 3) yX6_pops cX6_pops 2 none [.ref (ρ 20)] z g (fun u => (T_X6_pops z g) = (0, u)) := by
  refine nr_body_v (lv := [(0, .ref (ρ 20))]) (by decide +kernel) (Nat.le_of_ble_eq_true rfl) rfl (fun X hX => ?_)
  generalize hR : (T_X6_pops z g) = R0
  rw [T_X6_pops] at hR
  rw [O_X6_pops] at hok
  refine G_aload_n hX dX6_pops_0 rfl rfl ?_
  refine G_dup hX dX6_pops_1 rfl rfl ?_
  refine G_geti hX dX6_pops_2 gt_RX6_166 rfl ?_
  refine G_iconst (v := (1 : Int32)) hX dX6_pops_5 (by decide) rfl ?_
  refine G_isub hX dX6_pops_6 rfl ?_
  refine G_put hX dX6_pops_7 pt_RX6_166 rfl rfl rfl ?_
  refine G_aload_n hX dX6_pops_10 rfl rfl ?_
  refine G_getr hX dX6_pops_11 gt_RX6_19 rfl ?_
  refine G_aload_n hX dX6_pops_14 rfl rfl ?_
  refine G_getr hX dX6_pops_15 gt_RX6_34 rfl ?_
  refine G_aload_n hX dX6_pops_18 rfl rfl ?_
  refine G_geti hX dX6_pops_19 gt_RX6_166 rfl ?_
  obtain ⟨hi_22, hok⟩ := hok
  refine G_iald hX dX6_pops_22 (rfl : nr_il 29 = 9) (by decide) hi_22 rfl ?_
  obtain ⟨hi_23, hok⟩ := hok
  refine G_iald hX dX6_pops_23 (rfl : nr_il 24 = 100) (by decide) hi_23 rfl ?_
  refine G_istore_n hX dX6_pops_24 (by decide) rfl rfl ?_
  refine G_iload_n hX dX6_pops_25 rfl rfl ?_
  refine G_i2l hX dX6_pops_26 rfl ?_
  refine G_ldc2 (v := (48 : Int64)) hX dX6_pops_27 wk_RX6_119 rfl ?_
  refine G_ldc2 (v := (55 : Int64)) hX dX6_pops_30 wk_RX6_121 rfl ?_
  refine G_fSi hX dX6_pops_33 ls_RX6_62 (sp_X6_in Γ ρ d ((g 24 ((g 29 (((z 35) - (1 : Int32))).toNatClampNeg)).toNatClampNeg)).toInt64 (48 : Int64) (55 : Int64) (va_up z 35 ((z 35) - (1 : Int32))) g) (by omega) rfl rfl (Nat.le_of_ble_eq_true rfl) rfl ?_
  refine G_if_eq (tg := 47) hX dX6_pops_36 (by decide) rfl (fun (h_36 : (R_X6_in ((g 24 ((g 29 (((z 35) - (1 : Int32))).toNatClampNeg)).toNatClampNeg)).toInt64 (48 : Int64) (55 : Int64)) = 0) => ?_) (fun (h_36 : ¬ ((R_X6_in ((g 24 ((g 29 (((z 35) - (1 : Int32))).toNatClampNeg)).toNatClampNeg)).toInt64 (48 : Int64) (55 : Int64)) = 0)) => ?_)
  · rw [if_pos h_36] at hR
    replace hok := hok.1 h_36
    exact nr_sub (by exact ⟨rfl, trivial⟩) (sp_X6_pops_47 Γ ρ d X hX (va_up z 35 ((z 35) - (1 : Int32))) g R0 hR hok)
  · rw [if_neg h_36] at hR
    replace hok := hok.2 h_36
    refine G_aload_n hX dX6_pops_39 rfl rfl ?_
    refine G_iload_n hX dX6_pops_40 rfl rfl ?_
    refine G_bipush (v := (48 : Int32)) hX dX6_pops_41 (by decide) rfl ?_
    refine G_isub hX dX6_pops_43 rfl ?_
    obtain ⟨ho_44, hok⟩ := hok
    refine G_cVv hX dX6_pops_44 lv_RX6_179 (sp_X6_shuts Γ ρ d ((g 24 ((g 29 (((z 35) - (1 : Int32))).toNatClampNeg)).toNatClampNeg) - (48 : Int32)) (va_up z 35 ((z 35) - (1 : Int32))) g ho_44) (by omega) nr_is_20 rfl rfl (Nat.le_of_ble_eq_true rfl) rfl (fun u_44 e_44 => ?_)
    obtain ⟨z_44, g_44⟩ := u_44
    rw [e_44, nr_K_mk] at hR
    rw [e_44, nr_KP_mk] at hok
    exact nr_sub (by exact ⟨rfl, trivial⟩) (sp_X6_pops_47 Γ ρ d X hX z_44 g_44 R0 hR hok)
def T_X6_endsAt_64  (a2 : Int32) (z : Nat → Int32) (g : Nat → Nat → Int32) : Int32 × nr_S := (nr_K (T_X6_pops (va_up z 25 ((g 25 (a2).toNatClampNeg) + (1 : Int32))) g) (fun r_77 z_77 g_77 => (0, z_77, g_77)))
def O_X6_endsAt_64  (a2 : Int32) (z : Nat → Int32) (g : Nat → Nat → Int32) : Prop := (vp_in a2 100 ∧ ((O_X6_pops (va_up z 25 ((g 25 (a2).toNatClampNeg) + (1 : Int32))) g ∧ True)))
set_option maxHeartbeats 4000000 in
set_option maxRecDepth 100000 in
theorem sp_X6_endsAt_64 (Γ : nr_M) (ρ : Nat → Nat) (d : Nat) (X : nr_CX) (hX : nr_Cx Γ ρ X yX6_endsAt cX6_endsAt 3 none (d + 4)) (a2 : Int32) (z : Nat → Int32) (g : Nat → Nat → Int32) (R0 : Int32 × nr_S) (hR : T_X6_endsAt_64 a2 z g = R0) (hok : O_X6_endsAt_64 a2 z g) : nr_G Γ ρ X 3 (nr_Qv Γ ρ X (fun u => R0 = (0, u))) 64 [(0, .ref (ρ 20)), (2, .int a2)] [] z g := by
  rw [T_X6_endsAt_64] at hR
  rw [O_X6_endsAt_64] at hok
  refine G_aload_n hX dX6_endsAt_64 rfl rfl ?_
  refine G_aload_n hX dX6_endsAt_65 rfl rfl ?_
  refine G_getr hX dX6_endsAt_66 gt_RX6_22 rfl ?_
  refine G_iload_n hX dX6_endsAt_69 rfl rfl ?_
  obtain ⟨hi_70, hok⟩ := hok
  refine G_iald hX dX6_endsAt_70 (rfl : nr_il 25 = 100) (by decide) hi_70 rfl ?_
  refine G_iconst (v := (1 : Int32)) hX dX6_endsAt_71 (by decide) rfl ?_
  refine G_iadd hX dX6_endsAt_72 rfl ?_
  refine G_put hX dX6_endsAt_73 pt_RX6_113 rfl rfl rfl ?_
  refine G_aload_n hX dX6_endsAt_76 rfl rfl ?_
  obtain ⟨ho_77, hok⟩ := hok
  refine G_cVv hX dX6_endsAt_77 lv_RX6_213 (sp_X6_pops Γ ρ d (va_up z 25 ((g 25 (a2).toNatClampNeg) + (1 : Int32))) g ho_77) (by omega) nr_is_20 rfl rfl (Nat.le_of_ble_eq_true rfl) rfl (fun u_77 e_77 => ?_)
  obtain ⟨z_77, g_77⟩ := u_77
  rw [e_77, nr_K_mk] at hR
  exact G_vret hX dX6_endsAt_80 hR.symm
def T_X6_endsAt (a1 : Int32) (z : Nat → Int32) (g : Nat → Nat → Int32) : Int32 × nr_S := (if a1 = (59 : Int32) then (if (g 31 (((z 35) - (1 : Int32))).toNatClampNeg) ≤ (1 : Int32) then (T_X6_endsAt_64 (g 29 (((z 35) - (1 : Int32))).toNatClampNeg) z g) else (nr_K (T_X6_behindByte (58 : Int32) (va_up z 25 ((g 29 (((z 35) - (1 : Int32))).toNatClampNeg) + (1 : Int32))) (nr_st g 31 ((z 35) - (1 : Int32)) ((g 31 (((z 35) - (1 : Int32))).toNatClampNeg) - (1 : Int32)))) (fun r_58 z_58 g_58 => (0, z_58, g_58)))) else (T_X6_endsAt_64 (g 29 (((z 35) - (1 : Int32))).toNatClampNeg) z g))
def O_X6_endsAt (a1 : Int32) (z : Nat → Int32) (g : Nat → Nat → Int32) : Prop := (vp_in ((z 35) - (1 : Int32)) 9 ∧ ((a1 = (59 : Int32) → (vp_in ((z 35) - (1 : Int32)) 9 ∧ (((g 31 (((z 35) - (1 : Int32))).toNatClampNeg) ≤ (1 : Int32) → (O_X6_endsAt_64 (g 29 (((z 35) - (1 : Int32))).toNatClampNeg) z g)) ∧ (¬ ((g 31 (((z 35) - (1 : Int32))).toNatClampNeg) ≤ (1 : Int32)) → (vp_in ((z 35) - (1 : Int32)) 9 ∧ (vp_in ((z 35) - (1 : Int32)) 9 ∧ ((O_X6_behindByte (58 : Int32) (va_up z 25 ((g 29 (((z 35) - (1 : Int32))).toNatClampNeg) + (1 : Int32))) (nr_st g 31 ((z 35) - (1 : Int32)) ((g 31 (((z 35) - (1 : Int32))).toNatClampNeg) - (1 : Int32))) ∧ True)))))))) ∧ (¬ (a1 = (59 : Int32)) → (O_X6_endsAt_64 (g 29 (((z 35) - (1 : Int32))).toNatClampNeg) z g))))
set_option maxHeartbeats 4000000 in
set_option maxRecDepth 100000 in
theorem sp_X6_endsAt (Γ : nr_M) (ρ : Nat → Nat) (d : Nat) (a1 : Int32) (z : Nat → Int32) (g : Nat → Nat → Int32) (hok : O_X6_endsAt a1 z g) : nr_Sv Γ ρ (d + 4) yX6_endsAt cX6_endsAt 3 none [.ref (ρ 20), .int a1] z g (fun u => (T_X6_endsAt a1 z g) = (0, u)) := by
  refine nr_body_v (lv := [(0, .ref (ρ 20)), (1, .int a1)]) (by decide +kernel) (Nat.le_of_ble_eq_true rfl) rfl (fun X hX => ?_)
  generalize hR : (T_X6_endsAt a1 z g) = R0
  rw [T_X6_endsAt] at hR
  rw [O_X6_endsAt] at hok
  refine G_aload_n hX dX6_endsAt_0 rfl rfl ?_
  refine G_getr hX dX6_endsAt_1 gt_RX6_34 rfl ?_
  refine G_aload_n hX dX6_endsAt_4 rfl rfl ?_
  refine G_geti hX dX6_endsAt_5 gt_RX6_166 rfl ?_
  refine G_iconst (v := (1 : Int32)) hX dX6_endsAt_8 (by decide) rfl ?_
  refine G_isub hX dX6_endsAt_9 rfl ?_
  obtain ⟨hi_10, hok⟩ := hok
  refine G_iald hX dX6_endsAt_10 (rfl : nr_il 29 = 9) (by decide) hi_10 rfl ?_
  refine G_istore_n hX dX6_endsAt_11 (by decide) rfl rfl ?_
  refine G_iload_n hX dX6_endsAt_12 rfl rfl ?_
  refine G_bipush (v := (59 : Int32)) hX dX6_endsAt_13 (by decide) rfl ?_
  refine G_icmp_ne (tg := 64) hX dX6_endsAt_15 (by decide) rfl (fun (h_15 : ¬ (a1 = (59 : Int32))) => ?_) (fun (h_15 : a1 = (59 : Int32)) => ?_)
  · rw [if_neg h_15] at hR
    replace hok := hok.2 h_15
    exact nr_sub (by exact ⟨rfl, rfl, trivial⟩) (sp_X6_endsAt_64 Γ ρ d X hX (g 29 (((z 35) - (1 : Int32))).toNatClampNeg) z g R0 hR hok)
  · rw [if_pos h_15] at hR
    replace hok := hok.1 h_15
    refine G_aload_n hX dX6_endsAt_18 rfl rfl ?_
    refine G_getr hX dX6_endsAt_19 gt_RX6_40 rfl ?_
    refine G_aload_n hX dX6_endsAt_22 rfl rfl ?_
    refine G_geti hX dX6_endsAt_23 gt_RX6_166 rfl ?_
    refine G_iconst (v := (1 : Int32)) hX dX6_endsAt_26 (by decide) rfl ?_
    refine G_isub hX dX6_endsAt_27 rfl ?_
    obtain ⟨hi_28, hok⟩ := hok
    refine G_iald hX dX6_endsAt_28 (rfl : nr_il 31 = 9) (by decide) hi_28 rfl ?_
    refine G_iconst (v := (1 : Int32)) hX dX6_endsAt_29 (by decide) rfl ?_
    refine G_icmp_le (tg := 64) hX dX6_endsAt_30 (by decide) rfl (fun (h_30 : (g 31 (((z 35) - (1 : Int32))).toNatClampNeg) ≤ (1 : Int32)) => ?_) (fun (h_30 : ¬ ((g 31 (((z 35) - (1 : Int32))).toNatClampNeg) ≤ (1 : Int32))) => ?_)
    · rw [if_pos h_30] at hR
      replace hok := hok.1 h_30
      exact nr_sub (by exact ⟨rfl, rfl, trivial⟩) (sp_X6_endsAt_64 Γ ρ d X hX (g 29 (((z 35) - (1 : Int32))).toNatClampNeg) z g R0 hR hok)
    · rw [if_neg h_30] at hR
      replace hok := hok.2 h_30
      refine G_aload_n hX dX6_endsAt_33 rfl rfl ?_
      refine G_getr hX dX6_endsAt_34 gt_RX6_40 rfl ?_
      refine G_aload_n hX dX6_endsAt_37 rfl rfl ?_
      refine G_geti hX dX6_endsAt_38 gt_RX6_166 rfl ?_
      refine G_iconst (v := (1 : Int32)) hX dX6_endsAt_41 (by decide) rfl ?_
      refine G_isub hX dX6_endsAt_42 rfl ?_
      refine G_dup2 hX dX6_endsAt_43 rfl rfl rfl ?_
      obtain ⟨hi_44, hok⟩ := hok
      refine G_iald hX dX6_endsAt_44 (rfl : nr_il 31 = 9) (by decide) hi_44 rfl ?_
      refine G_iconst (v := (1 : Int32)) hX dX6_endsAt_45 (by decide) rfl ?_
      refine G_isub hX dX6_endsAt_46 rfl ?_
      obtain ⟨hi_47, hok⟩ := hok
      refine G_ist hX dX6_endsAt_47 (rfl : nr_il 31 = 9) (by decide) hi_47 rfl ?_
      refine G_aload_n hX dX6_endsAt_48 rfl rfl ?_
      refine G_iload_n hX dX6_endsAt_49 rfl rfl ?_
      refine G_iconst (v := (1 : Int32)) hX dX6_endsAt_50 (by decide) rfl ?_
      refine G_iadd hX dX6_endsAt_51 rfl ?_
      refine G_put hX dX6_endsAt_52 pt_RX6_113 rfl rfl rfl ?_
      refine G_aload_n hX dX6_endsAt_55 rfl rfl ?_
      refine G_bipush (v := (58 : Int32)) hX dX6_endsAt_56 (by decide) rfl ?_
      obtain ⟨ho_58, hok⟩ := hok
      refine G_cVv hX dX6_endsAt_58 lv_RX6_195 (sp_X6_behindByte Γ ρ d (58 : Int32) (va_up z 25 ((g 29 (((z 35) - (1 : Int32))).toNatClampNeg) + (1 : Int32))) (nr_st g 31 ((z 35) - (1 : Int32)) ((g 31 (((z 35) - (1 : Int32))).toNatClampNeg) - (1 : Int32))) ho_58) (by omega) nr_is_20 rfl rfl (Nat.le_of_ble_eq_true rfl) rfl (fun u_58 e_58 => ?_)
      obtain ⟨z_58, g_58⟩ := u_58
      rw [e_58, nr_K_mk] at hR
      refine G_goto (tg := 80) hX dX6_endsAt_61 (by decide) ?_
      exact G_vret hX dX6_endsAt_80 hR.symm
def T_X6_goesDown_206   (z : Nat → Int32) (g : Nat → Nat → Int32) : Int32 × nr_S := (nr_K (T_X6_pops z g) (fun r_207 z_207 g_207 => (0, z_207, g_207)))
def O_X6_goesDown_206   (z : Nat → Int32) (g : Nat → Nat → Int32) : Prop := ((O_X6_pops z g ∧ True))
set_option maxHeartbeats 4000000 in
set_option maxRecDepth 100000 in
theorem sp_X6_goesDown_206 (Γ : nr_M) (ρ : Nat → Nat) (d : Nat) (X : nr_CX) (hX : nr_Cx Γ ρ X yX6_goesDown cX6_goesDown 5 none (d + 4))  (z : Nat → Int32) (g : Nat → Nat → Int32) (R0 : Int32 × nr_S) (hR : T_X6_goesDown_206  z g = R0) (hok : O_X6_goesDown_206  z g) : nr_G Γ ρ X 5 (nr_Qv Γ ρ X (fun u => R0 = (0, u))) 206 [(0, .ref (ρ 20))] [] z g := by
  rw [T_X6_goesDown_206] at hR
  rw [O_X6_goesDown_206] at hok
  refine G_aload_n hX dX6_goesDown_206 rfl rfl ?_
  obtain ⟨ho_207, hok⟩ := hok
  refine G_cVv hX dX6_goesDown_207 lv_RX6_213 (sp_X6_pops Γ ρ d z g ho_207) (by omega) nr_is_20 rfl rfl (Nat.le_of_ble_eq_true rfl) rfl (fun u_207 e_207 => ?_)
  obtain ⟨z_207, g_207⟩ := u_207
  rw [e_207, nr_K_mk] at hR
  exact G_vret hX dX6_goesDown_210 hR.symm
def T_X6_goesDown_166  (a3 : Int32) (z : Nat → Int32) (g : Nat → Nat → Int32) : Int32 × nr_S := (if a3 = (60 : Int32) then (if (z 30) = (6 : Int32) then (T_X6_goesDown_206  z g) else (T_X6_goesDown_206  (va_up (va_up (va_up z 30 (5 : Int32)) 33 ((z 33) + (1 : Int32))) 29 ((z 29) + (1 : Int32))) g)) else (T_X6_goesDown_206  z g))
def O_X6_goesDown_166  (a3 : Int32) (z : Nat → Int32) (g : Nat → Nat → Int32) : Prop := ((a3 = (60 : Int32) → (((z 30) = (6 : Int32) → (O_X6_goesDown_206  z g)) ∧ (¬ ((z 30) = (6 : Int32)) → (O_X6_goesDown_206  (va_up (va_up (va_up z 30 (5 : Int32)) 33 ((z 33) + (1 : Int32))) 29 ((z 29) + (1 : Int32))) g)))) ∧ (¬ (a3 = (60 : Int32)) → (O_X6_goesDown_206  z g)))
set_option maxHeartbeats 4000000 in
set_option maxRecDepth 100000 in
theorem sp_X6_goesDown_166 (Γ : nr_M) (ρ : Nat → Nat) (d : Nat) (X : nr_CX) (hX : nr_Cx Γ ρ X yX6_goesDown cX6_goesDown 5 none (d + 4)) (a3 : Int32) (z : Nat → Int32) (g : Nat → Nat → Int32) (R0 : Int32 × nr_S) (hR : T_X6_goesDown_166 a3 z g = R0) (hok : O_X6_goesDown_166 a3 z g) : nr_G Γ ρ X 5 (nr_Qv Γ ρ X (fun u => R0 = (0, u))) 166 [(0, .ref (ρ 20)), (3, .int a3)] [] z g := by
  rw [T_X6_goesDown_166] at hR
  rw [O_X6_goesDown_166] at hok
  refine G_iload_n hX dX6_goesDown_166 rfl rfl ?_
  refine G_bipush (v := (60 : Int32)) hX dX6_goesDown_167 (by decide) rfl ?_
  refine G_icmp_ne (tg := 206) hX dX6_goesDown_169 (by decide) rfl (fun (h_169 : ¬ (a3 = (60 : Int32))) => ?_) (fun (h_169 : a3 = (60 : Int32)) => ?_)
  · rw [if_neg h_169] at hR
    replace hok := hok.2 h_169
    exact nr_sub (by exact ⟨rfl, trivial⟩) (sp_X6_goesDown_206 Γ ρ d X hX z g R0 hR hok)
  · rw [if_pos h_169] at hR
    replace hok := hok.1 h_169
    refine G_aload_n hX dX6_goesDown_172 rfl rfl ?_
    refine G_geti hX dX6_goesDown_173 gt_RX6_145 rfl ?_
    refine G_bipush (v := (6 : Int32)) hX dX6_goesDown_176 (by decide) rfl ?_
    refine G_icmp_eq (tg := 206) hX dX6_goesDown_178 (by decide) rfl (fun (h_178 : (z 30) = (6 : Int32)) => ?_) (fun (h_178 : ¬ ((z 30) = (6 : Int32))) => ?_)
    · rw [if_pos h_178] at hR
      replace hok := hok.1 h_178
      exact nr_sub (by exact ⟨rfl, trivial⟩) (sp_X6_goesDown_206 Γ ρ d X hX z g R0 hR hok)
    · rw [if_neg h_178] at hR
      replace hok := hok.2 h_178
      refine G_aload_n hX dX6_goesDown_181 rfl rfl ?_
      refine G_iconst (v := (5 : Int32)) hX dX6_goesDown_182 (by decide) rfl ?_
      refine G_put hX dX6_goesDown_183 pt_RX6_145 rfl rfl rfl ?_
      refine G_aload_n hX dX6_goesDown_186 rfl rfl ?_
      refine G_dup hX dX6_goesDown_187 rfl rfl ?_
      refine G_geti hX dX6_goesDown_188 gt_RX6_157 rfl ?_
      refine G_iconst (v := (1 : Int32)) hX dX6_goesDown_191 (by decide) rfl ?_
      refine G_iadd hX dX6_goesDown_192 rfl ?_
      refine G_put hX dX6_goesDown_193 pt_RX6_157 rfl rfl rfl ?_
      refine G_aload_n hX dX6_goesDown_196 rfl rfl ?_
      refine G_dup hX dX6_goesDown_197 rfl rfl ?_
      refine G_geti hX dX6_goesDown_198 gt_RX6_163 rfl ?_
      refine G_iconst (v := (1 : Int32)) hX dX6_goesDown_201 (by decide) rfl ?_
      refine G_iadd hX dX6_goesDown_202 rfl ?_
      refine G_put hX dX6_goesDown_203 pt_RX6_163 rfl rfl rfl ?_
      exact nr_sub (by exact ⟨rfl, trivial⟩) (sp_X6_goesDown_206 Γ ρ d X hX (va_up (va_up (va_up z 30 (5 : Int32)) 33 ((z 33) + (1 : Int32))) 29 ((z 29) + (1 : Int32))) g R0 hR hok)
def T_X6_goesDown_137  (a1 : Int32) (a2 : Int32) (s1 : Int32) (s2 : Int32) (s3 : Int32) (z : Nat → Int32) (g : Nat → Nat → Int32) : Int32 × nr_S := (0, (va_up (va_up z 30 (0 : Int32)) 25 (((nr_st (nr_st g 21 s1 (s2 + s3)) 32 a1 (1 : Int32)) 26 (a2).toNatClampNeg) + (1 : Int32))), (nr_st (nr_st g 21 s1 (s2 + s3)) 32 a1 (1 : Int32)))
def O_X6_goesDown_137  (a1 : Int32) (a2 : Int32) (s1 : Int32) (s2 : Int32) (s3 : Int32) (z : Nat → Int32) (g : Nat → Nat → Int32) : Prop := (vp_in s1 58 ∧ (vp_in a1 9 ∧ (vp_in a2 100 ∧ True)))
set_option maxHeartbeats 4000000 in
set_option maxRecDepth 100000 in
theorem sp_X6_goesDown_137 (Γ : nr_M) (ρ : Nat → Nat) (d : Nat) (X : nr_CX) (hX : nr_Cx Γ ρ X yX6_goesDown cX6_goesDown 5 none (d + 4)) (a1 : Int32) (a2 : Int32) (s1 : Int32) (s2 : Int32) (s3 : Int32) (z : Nat → Int32) (g : Nat → Nat → Int32) (R0 : Int32 × nr_S) (hR : T_X6_goesDown_137 a1 a2 s1 s2 s3 z g = R0) (hok : O_X6_goesDown_137 a1 a2 s1 s2 s3 z g) : nr_G Γ ρ X 5 (nr_Qv Γ ρ X (fun u => R0 = (0, u))) 137 [(0, .ref (ρ 20)), (1, .int a1), (2, .int a2)] [.int s3, .int s2, .int s1, .ref (ρ 21)] z g := by
  rw [T_X6_goesDown_137] at hR
  rw [O_X6_goesDown_137] at hok
  refine G_iadd hX dX6_goesDown_137 rfl ?_
  obtain ⟨hi_138, hok⟩ := hok
  refine G_ist hX dX6_goesDown_138 (rfl : nr_il 21 = 58) (by decide) hi_138 rfl ?_
  refine G_aload_n hX dX6_goesDown_139 rfl rfl ?_
  refine G_iconst (v := (0 : Int32)) hX dX6_goesDown_140 (by decide) rfl ?_
  refine G_put hX dX6_goesDown_141 pt_RX6_145 rfl rfl rfl ?_
  refine G_aload_n hX dX6_goesDown_144 rfl rfl ?_
  refine G_getr hX dX6_goesDown_145 gt_RX6_43 rfl ?_
  refine G_iload_n hX dX6_goesDown_148 rfl rfl ?_
  refine G_iconst (v := (1 : Int32)) hX dX6_goesDown_149 (by decide) rfl ?_
  obtain ⟨hi_150, hok⟩ := hok
  refine G_zst hX dX6_goesDown_150 hi_150 (by decide) rfl ?_
  refine G_aload_n hX dX6_goesDown_151 rfl rfl ?_
  refine G_aload_n hX dX6_goesDown_152 rfl rfl ?_
  refine G_getr hX dX6_goesDown_153 gt_RX6_25 rfl ?_
  refine G_iload_n hX dX6_goesDown_156 rfl rfl ?_
  obtain ⟨hi_157, hok⟩ := hok
  refine G_iald hX dX6_goesDown_157 (rfl : nr_il 26 = 100) (by decide) hi_157 rfl ?_
  refine G_iconst (v := (1 : Int32)) hX dX6_goesDown_158 (by decide) rfl ?_
  refine G_iadd hX dX6_goesDown_159 rfl ?_
  refine G_put hX dX6_goesDown_160 pt_RX6_113 rfl rfl rfl ?_
  refine G_goto (tg := 210) hX dX6_goesDown_163 (by decide) ?_
  exact G_vret hX dX6_goesDown_210 hR.symm
def T_X6_goesDown_110  (a1 : Int32) (a2 : Int32) (z : Nat → Int32) (g : Nat → Nat → Int32) : Int32 × nr_S := (if (z 30) = (4 : Int32) then (T_X6_goesDown_137 a1 a2 (57 : Int32) (g 21 ((57 : Int32)).toNatClampNeg) (z 32) z g) else (T_X6_goesDown_137 a1 a2 (57 : Int32) (g 21 ((57 : Int32)).toNatClampNeg) (z 33) z g))
def O_X6_goesDown_110  (a1 : Int32) (a2 : Int32) (z : Nat → Int32) (g : Nat → Nat → Int32) : Prop := (((z 30) = (4 : Int32) → (O_X6_goesDown_137 a1 a2 (57 : Int32) (g 21 ((57 : Int32)).toNatClampNeg) (z 32) z g)) ∧ (¬ ((z 30) = (4 : Int32)) → (O_X6_goesDown_137 a1 a2 (57 : Int32) (g 21 ((57 : Int32)).toNatClampNeg) (z 33) z g)))
set_option maxHeartbeats 4000000 in
set_option maxRecDepth 100000 in
theorem sp_X6_goesDown_110 (Γ : nr_M) (ρ : Nat → Nat) (d : Nat) (X : nr_CX) (hX : nr_Cx Γ ρ X yX6_goesDown cX6_goesDown 5 none (d + 4)) (a1 : Int32) (a2 : Int32) (z : Nat → Int32) (g : Nat → Nat → Int32) (R0 : Int32 × nr_S) (hR : T_X6_goesDown_110 a1 a2 z g = R0) (hok : O_X6_goesDown_110 a1 a2 z g) : nr_G Γ ρ X 5 (nr_Qv Γ ρ X (fun u => R0 = (0, u))) 110 [(0, .ref (ρ 20)), (1, .int a1), (2, .int a2)] [] z g := by
  rw [T_X6_goesDown_110] at hR
  rw [O_X6_goesDown_110] at hok
  refine G_aload_n hX dX6_goesDown_110 rfl rfl ?_
  refine G_getr hX dX6_goesDown_111 gt_RX6_7 rfl ?_
  refine G_bipush (v := (57 : Int32)) hX dX6_goesDown_114 (by decide) rfl ?_
  refine G_dup2 hX dX6_goesDown_116 rfl rfl rfl ?_
  refine G_iald hX dX6_goesDown_117 (rfl : nr_il 21 = 58) (by decide) (by unfold vp_in; decide) rfl ?_
  refine G_aload_n hX dX6_goesDown_118 rfl rfl ?_
  refine G_geti hX dX6_goesDown_119 gt_RX6_145 rfl ?_
  refine G_iconst (v := (4 : Int32)) hX dX6_goesDown_122 (by decide) rfl ?_
  refine G_icmp_ne (tg := 133) hX dX6_goesDown_123 (by decide) rfl (fun (h_123 : ¬ ((z 30) = (4 : Int32))) => ?_) (fun (h_123 : (z 30) = (4 : Int32)) => ?_)
  · rw [if_neg h_123] at hR
    replace hok := hok.2 h_123
    refine G_aload_n hX dX6_goesDown_133 rfl rfl ?_
    refine G_geti hX dX6_goesDown_134 gt_RX6_157 rfl ?_
    exact nr_sub (by exact ⟨rfl, rfl, rfl, trivial⟩) (sp_X6_goesDown_137 Γ ρ d X hX a1 a2 (57 : Int32) (g 21 ((57 : Int32)).toNatClampNeg) (z 33) z g R0 hR hok)
  · rw [if_pos h_123] at hR
    replace hok := hok.1 h_123
    refine G_aload_n hX dX6_goesDown_126 rfl rfl ?_
    refine G_geti hX dX6_goesDown_127 gt_RX6_154 rfl ?_
    refine G_goto (tg := 137) hX dX6_goesDown_130 (by decide) ?_
    exact nr_sub (by exact ⟨rfl, rfl, rfl, trivial⟩) (sp_X6_goesDown_137 Γ ρ d X hX a1 a2 (57 : Int32) (g 21 ((57 : Int32)).toNatClampNeg) (z 32) z g R0 hR hok)
def T_X6_goesDown_83  (a1 : Int32) (a2 : Int32) (a3 : Int32) (a4 : Int32) (z : Nat → Int32) (g : Nat → Nat → Int32) : Int32 × nr_S := (if a3 = (91 : Int32) then (if a4 = 0 then (T_X6_goesDown_166 a3 z g) else (if (z 30) = (4 : Int32) then (T_X6_goesDown_110 a1 a2 z g) else (if (z 30) = (5 : Int32) then (T_X6_goesDown_110 a1 a2 z g) else (T_X6_goesDown_166 a3 z g)))) else (T_X6_goesDown_166 a3 z g))
def O_X6_goesDown_83  (a1 : Int32) (a2 : Int32) (a3 : Int32) (a4 : Int32) (z : Nat → Int32) (g : Nat → Nat → Int32) : Prop := ((a3 = (91 : Int32) → ((a4 = 0 → (O_X6_goesDown_166 a3 z g)) ∧ (¬ (a4 = 0) → (((z 30) = (4 : Int32) → (O_X6_goesDown_110 a1 a2 z g)) ∧ (¬ ((z 30) = (4 : Int32)) → (((z 30) = (5 : Int32) → (O_X6_goesDown_110 a1 a2 z g)) ∧ (¬ ((z 30) = (5 : Int32)) → (O_X6_goesDown_166 a3 z g)))))))) ∧ (¬ (a3 = (91 : Int32)) → (O_X6_goesDown_166 a3 z g)))
set_option maxHeartbeats 4000000 in
set_option maxRecDepth 100000 in
theorem sp_X6_goesDown_83 (Γ : nr_M) (ρ : Nat → Nat) (d : Nat) (X : nr_CX) (hX : nr_Cx Γ ρ X yX6_goesDown cX6_goesDown 5 none (d + 4)) (a1 : Int32) (a2 : Int32) (a3 : Int32) (a4 : Int32) (z : Nat → Int32) (g : Nat → Nat → Int32) (R0 : Int32 × nr_S) (hR : T_X6_goesDown_83 a1 a2 a3 a4 z g = R0) (hok : O_X6_goesDown_83 a1 a2 a3 a4 z g) : nr_G Γ ρ X 5 (nr_Qv Γ ρ X (fun u => R0 = (0, u))) 83 [(0, .ref (ρ 20)), (1, .int a1), (2, .int a2), (3, .int a3), (4, .int a4)] [] z g := by
  rw [T_X6_goesDown_83] at hR
  rw [O_X6_goesDown_83] at hok
  refine G_iload_n hX dX6_goesDown_83 rfl rfl ?_
  refine G_bipush (v := (91 : Int32)) hX dX6_goesDown_84 (by decide) rfl ?_
  refine G_icmp_ne (tg := 166) hX dX6_goesDown_86 (by decide) rfl (fun (h_86 : ¬ (a3 = (91 : Int32))) => ?_) (fun (h_86 : a3 = (91 : Int32)) => ?_)
  · rw [if_neg h_86] at hR
    replace hok := hok.2 h_86
    exact nr_sub (by exact ⟨rfl, rfl, trivial⟩) (sp_X6_goesDown_166 Γ ρ d X hX a3 z g R0 hR hok)
  · rw [if_pos h_86] at hR
    replace hok := hok.1 h_86
    refine G_iload hX dX6_goesDown_89 rfl rfl ?_
    refine G_if_eq (tg := 166) hX dX6_goesDown_91 (by decide) rfl (fun (h_91 : a4 = 0) => ?_) (fun (h_91 : ¬ (a4 = 0)) => ?_)
    · rw [if_pos h_91] at hR
      replace hok := hok.1 h_91
      exact nr_sub (by exact ⟨rfl, rfl, trivial⟩) (sp_X6_goesDown_166 Γ ρ d X hX a3 z g R0 hR hok)
    · rw [if_neg h_91] at hR
      replace hok := hok.2 h_91
      refine G_aload_n hX dX6_goesDown_94 rfl rfl ?_
      refine G_geti hX dX6_goesDown_95 gt_RX6_145 rfl ?_
      refine G_iconst (v := (4 : Int32)) hX dX6_goesDown_98 (by decide) rfl ?_
      refine G_icmp_eq (tg := 110) hX dX6_goesDown_99 (by decide) rfl (fun (h_99 : (z 30) = (4 : Int32)) => ?_) (fun (h_99 : ¬ ((z 30) = (4 : Int32))) => ?_)
      · rw [if_pos h_99] at hR
        replace hok := hok.1 h_99
        exact nr_sub (by exact ⟨rfl, rfl, rfl, trivial⟩) (sp_X6_goesDown_110 Γ ρ d X hX a1 a2 z g R0 hR hok)
      · rw [if_neg h_99] at hR
        replace hok := hok.2 h_99
        refine G_aload_n hX dX6_goesDown_102 rfl rfl ?_
        refine G_geti hX dX6_goesDown_103 gt_RX6_145 rfl ?_
        refine G_iconst (v := (5 : Int32)) hX dX6_goesDown_106 (by decide) rfl ?_
        refine G_icmp_ne (tg := 166) hX dX6_goesDown_107 (by decide) rfl (fun (h_107 : ¬ ((z 30) = (5 : Int32))) => ?_) (fun (h_107 : (z 30) = (5 : Int32)) => ?_)
        · rw [if_neg h_107] at hR
          replace hok := hok.2 h_107
          exact nr_sub (by exact ⟨rfl, rfl, trivial⟩) (sp_X6_goesDown_166 Γ ρ d X hX a3 z g R0 hR hok)
        · rw [if_pos h_107] at hR
          replace hok := hok.1 h_107
          exact nr_sub (by exact ⟨rfl, rfl, rfl, trivial⟩) (sp_X6_goesDown_110 Γ ρ d X hX a1 a2 z g R0 hR hok)
def T_X6_goesDown_35  (a1 : Int32) (a2 : Int32) (a3 : Int32) (s0 : Int32) (z : Nat → Int32) (g : Nat → Nat → Int32) : Int32 × nr_S := (if a3 = (40 : Int32) then (if s0 = 0 then (T_X6_goesDown_83 a1 a2 a3 s0 z g) else (if (3 : Int32) < (z 30) then (T_X6_goesDown_83 a1 a2 a3 s0 z g) else (0, (va_up (va_up z 30 (0 : Int32)) 25 (((nr_st g 32 a1 (1 : Int32)) 26 (a2).toNatClampNeg) + (1 : Int32))), (nr_st g 32 a1 (1 : Int32))))) else (T_X6_goesDown_83 a1 a2 a3 s0 z g))
def O_X6_goesDown_35  (a1 : Int32) (a2 : Int32) (a3 : Int32) (s0 : Int32) (z : Nat → Int32) (g : Nat → Nat → Int32) : Prop := ((a3 = (40 : Int32) → ((s0 = 0 → (O_X6_goesDown_83 a1 a2 a3 s0 z g)) ∧ (¬ (s0 = 0) → (((3 : Int32) < (z 30) → (O_X6_goesDown_83 a1 a2 a3 s0 z g)) ∧ (¬ ((3 : Int32) < (z 30)) → (vp_in a1 9 ∧ (vp_in a2 100 ∧ True))))))) ∧ (¬ (a3 = (40 : Int32)) → (O_X6_goesDown_83 a1 a2 a3 s0 z g)))
set_option maxHeartbeats 4000000 in
set_option maxRecDepth 100000 in
theorem sp_X6_goesDown_35 (Γ : nr_M) (ρ : Nat → Nat) (d : Nat) (X : nr_CX) (hX : nr_Cx Γ ρ X yX6_goesDown cX6_goesDown 5 none (d + 4)) (a1 : Int32) (a2 : Int32) (a3 : Int32) (s0 : Int32) (z : Nat → Int32) (g : Nat → Nat → Int32) (R0 : Int32 × nr_S) (hR : T_X6_goesDown_35 a1 a2 a3 s0 z g = R0) (hok : O_X6_goesDown_35 a1 a2 a3 s0 z g) : nr_G Γ ρ X 5 (nr_Qv Γ ρ X (fun u => R0 = (0, u))) 35 [(0, .ref (ρ 20)), (1, .int a1), (2, .int a2), (3, .int a3)] [.int s0] z g := by
  rw [T_X6_goesDown_35] at hR
  rw [O_X6_goesDown_35] at hok
  refine G_istore hX dX6_goesDown_35 (by decide) rfl rfl ?_
  refine G_iload_n hX dX6_goesDown_37 rfl rfl ?_
  refine G_bipush (v := (40 : Int32)) hX dX6_goesDown_38 (by decide) rfl ?_
  refine G_icmp_ne (tg := 83) hX dX6_goesDown_40 (by decide) rfl (fun (h_40 : ¬ (a3 = (40 : Int32))) => ?_) (fun (h_40 : a3 = (40 : Int32)) => ?_)
  · rw [if_neg h_40] at hR
    replace hok := hok.2 h_40
    exact nr_sub (by exact ⟨rfl, rfl, rfl, rfl, rfl, trivial⟩) (sp_X6_goesDown_83 Γ ρ d X hX a1 a2 a3 s0 z g R0 hR hok)
  · rw [if_pos h_40] at hR
    replace hok := hok.1 h_40
    refine G_iload hX dX6_goesDown_43 rfl rfl ?_
    refine G_if_eq (tg := 83) hX dX6_goesDown_45 (by decide) rfl (fun (h_45 : s0 = 0) => ?_) (fun (h_45 : ¬ (s0 = 0)) => ?_)
    · rw [if_pos h_45] at hR
      replace hok := hok.1 h_45
      exact nr_sub (by exact ⟨rfl, rfl, rfl, rfl, rfl, trivial⟩) (sp_X6_goesDown_83 Γ ρ d X hX a1 a2 a3 s0 z g R0 hR hok)
    · rw [if_neg h_45] at hR
      replace hok := hok.2 h_45
      refine G_aload_n hX dX6_goesDown_48 rfl rfl ?_
      refine G_geti hX dX6_goesDown_49 gt_RX6_145 rfl ?_
      refine G_iconst (v := (3 : Int32)) hX dX6_goesDown_52 (by decide) rfl ?_
      refine G_icmp_gt (tg := 83) hX dX6_goesDown_53 (by decide) rfl (fun (h_53 : (3 : Int32) < (z 30)) => ?_) (fun (h_53 : ¬ ((3 : Int32) < (z 30))) => ?_)
      · rw [if_pos h_53] at hR
        replace hok := hok.1 h_53
        exact nr_sub (by exact ⟨rfl, rfl, rfl, rfl, rfl, trivial⟩) (sp_X6_goesDown_83 Γ ρ d X hX a1 a2 a3 s0 z g R0 hR hok)
      · rw [if_neg h_53] at hR
        replace hok := hok.2 h_53
        refine G_aload_n hX dX6_goesDown_56 rfl rfl ?_
        refine G_iconst (v := (0 : Int32)) hX dX6_goesDown_57 (by decide) rfl ?_
        refine G_put hX dX6_goesDown_58 pt_RX6_145 rfl rfl rfl ?_
        refine G_aload_n hX dX6_goesDown_61 rfl rfl ?_
        refine G_getr hX dX6_goesDown_62 gt_RX6_43 rfl ?_
        refine G_iload_n hX dX6_goesDown_65 rfl rfl ?_
        refine G_iconst (v := (1 : Int32)) hX dX6_goesDown_66 (by decide) rfl ?_
        obtain ⟨hi_67, hok⟩ := hok
        refine G_zst hX dX6_goesDown_67 hi_67 (by decide) rfl ?_
        refine G_aload_n hX dX6_goesDown_68 rfl rfl ?_
        refine G_aload_n hX dX6_goesDown_69 rfl rfl ?_
        refine G_getr hX dX6_goesDown_70 gt_RX6_25 rfl ?_
        refine G_iload_n hX dX6_goesDown_73 rfl rfl ?_
        obtain ⟨hi_74, hok⟩ := hok
        refine G_iald hX dX6_goesDown_74 (rfl : nr_il 26 = 100) (by decide) hi_74 rfl ?_
        refine G_iconst (v := (1 : Int32)) hX dX6_goesDown_75 (by decide) rfl ?_
        refine G_iadd hX dX6_goesDown_76 rfl ?_
        refine G_put hX dX6_goesDown_77 pt_RX6_113 rfl rfl rfl ?_
        refine G_goto (tg := 210) hX dX6_goesDown_80 (by decide) ?_
        exact G_vret hX dX6_goesDown_210 hR.symm
def T_X6_goesDown  (z : Nat → Int32) (g : Nat → Nat → Int32) : Int32 × nr_S := (if (g 32 (((z 35) - (1 : Int32))).toNatClampNeg) = 0 then (T_X6_goesDown_35 ((z 35) - (1 : Int32)) (g 29 (((z 35) - (1 : Int32))).toNatClampNeg) (g 24 ((g 29 (((z 35) - (1 : Int32))).toNatClampNeg)).toNatClampNeg) (1 : Int32) z g) else (T_X6_goesDown_35 ((z 35) - (1 : Int32)) (g 29 (((z 35) - (1 : Int32))).toNatClampNeg) (g 24 ((g 29 (((z 35) - (1 : Int32))).toNatClampNeg)).toNatClampNeg) (0 : Int32) z g))
def O_X6_goesDown  (z : Nat → Int32) (g : Nat → Nat → Int32) : Prop := (vp_in ((z 35) - (1 : Int32)) 9 ∧ (vp_in (g 29 (((z 35) - (1 : Int32))).toNatClampNeg) 100 ∧ (vp_in ((z 35) - (1 : Int32)) 9 ∧ (((g 32 (((z 35) - (1 : Int32))).toNatClampNeg) = 0 → (O_X6_goesDown_35 ((z 35) - (1 : Int32)) (g 29 (((z 35) - (1 : Int32))).toNatClampNeg) (g 24 ((g 29 (((z 35) - (1 : Int32))).toNatClampNeg)).toNatClampNeg) (1 : Int32) z g)) ∧ (¬ ((g 32 (((z 35) - (1 : Int32))).toNatClampNeg) = 0) → (O_X6_goesDown_35 ((z 35) - (1 : Int32)) (g 29 (((z 35) - (1 : Int32))).toNatClampNeg) (g 24 ((g 29 (((z 35) - (1 : Int32))).toNatClampNeg)).toNatClampNeg) (0 : Int32) z g))))))
set_option maxHeartbeats 4000000 in
set_option maxRecDepth 100000 in
theorem sp_X6_goesDown (Γ : nr_M) (ρ : Nat → Nat) (d : Nat) (z : Nat → Int32) (g : Nat → Nat → Int32) (hok : O_X6_goesDown z g) : nr_Sv Γ ρ (d + 4) yX6_goesDown cX6_goesDown 5 none [.ref (ρ 20)] z g (fun u => (T_X6_goesDown z g) = (0, u)) := by
  refine nr_body_v (lv := [(0, .ref (ρ 20))]) (by decide +kernel) (Nat.le_of_ble_eq_true rfl) rfl (fun X hX => ?_)
  generalize hR : (T_X6_goesDown z g) = R0
  rw [T_X6_goesDown] at hR
  rw [O_X6_goesDown] at hok
  refine G_aload_n hX dX6_goesDown_0 rfl rfl ?_
  refine G_geti hX dX6_goesDown_1 gt_RX6_166 rfl ?_
  refine G_iconst (v := (1 : Int32)) hX dX6_goesDown_4 (by decide) rfl ?_
  refine G_isub hX dX6_goesDown_5 rfl ?_
  refine G_istore_n hX dX6_goesDown_6 (by decide) rfl rfl ?_
  refine G_aload_n hX dX6_goesDown_7 rfl rfl ?_
  refine G_getr hX dX6_goesDown_8 gt_RX6_34 rfl ?_
  refine G_iload_n hX dX6_goesDown_11 rfl rfl ?_
  obtain ⟨hi_12, hok⟩ := hok
  refine G_iald hX dX6_goesDown_12 (rfl : nr_il 29 = 9) (by decide) hi_12 rfl ?_
  refine G_istore_n hX dX6_goesDown_13 (by decide) rfl rfl ?_
  refine G_aload_n hX dX6_goesDown_14 rfl rfl ?_
  refine G_getr hX dX6_goesDown_15 gt_RX6_19 rfl ?_
  refine G_iload_n hX dX6_goesDown_18 rfl rfl ?_
  obtain ⟨hi_19, hok⟩ := hok
  refine G_iald hX dX6_goesDown_19 (rfl : nr_il 24 = 100) (by decide) hi_19 rfl ?_
  refine G_istore_n hX dX6_goesDown_20 (by decide) rfl rfl ?_
  refine G_aload_n hX dX6_goesDown_21 rfl rfl ?_
  refine G_getr hX dX6_goesDown_22 gt_RX6_43 rfl ?_
  refine G_iload_n hX dX6_goesDown_25 rfl rfl ?_
  obtain ⟨hi_26, hok⟩ := hok
  refine G_zald hX dX6_goesDown_26 hi_26 rfl ?_
  refine G_if_ne (tg := 34) hX dX6_goesDown_27 (by decide) rfl (fun (h_27 : ¬ ((g 32 (((z 35) - (1 : Int32))).toNatClampNeg) = 0)) => ?_) (fun (h_27 : (g 32 (((z 35) - (1 : Int32))).toNatClampNeg) = 0) => ?_)
  · rw [if_neg h_27] at hR
    replace hok := hok.2 h_27
    refine G_iconst (v := (0 : Int32)) hX dX6_goesDown_34 (by decide) rfl ?_
    exact nr_sub (by exact ⟨rfl, rfl, rfl, rfl, trivial⟩) (sp_X6_goesDown_35 Γ ρ d X hX ((z 35) - (1 : Int32)) (g 29 (((z 35) - (1 : Int32))).toNatClampNeg) (g 24 ((g 29 (((z 35) - (1 : Int32))).toNatClampNeg)).toNatClampNeg) (0 : Int32) z g R0 hR hok)
  · rw [if_pos h_27] at hR
    replace hok := hok.1 h_27
    refine G_iconst (v := (1 : Int32)) hX dX6_goesDown_30 (by decide) rfl ?_
    refine G_goto (tg := 35) hX dX6_goesDown_31 (by decide) ?_
    exact nr_sub (by exact ⟨rfl, rfl, rfl, rfl, trivial⟩) (sp_X6_goesDown_35 Γ ρ d X hX ((z 35) - (1 : Int32)) (g 29 (((z 35) - (1 : Int32))).toNatClampNeg) (g 24 ((g 29 (((z 35) - (1 : Int32))).toNatClampNeg)).toNatClampNeg) (1 : Int32) z g R0 hR hok)
def T_X6_round_165   (z : Nat → Int32) (g : Nat → Nat → Int32) : Int32 × nr_S := ((z 30), z, g)
def O_X6_round_165   (z : Nat → Int32) (g : Nat → Nat → Int32) : Prop := True
set_option maxHeartbeats 4000000 in
set_option maxRecDepth 100000 in
theorem sp_X6_round_165 (Γ : nr_M) (ρ : Nat → Nat) (d : Nat) (X : nr_CX) (hX : nr_Cx Γ ρ X yX6_round cX6_round 2 (some .int) (d + 5))  (z : Nat → Int32) (g : Nat → Nat → Int32) (R0 : Int32 × nr_S) (hR : T_X6_round_165  z g = R0) (hok : O_X6_round_165  z g) : nr_G Γ ρ X 2 (nr_Qi Γ ρ X (fun x u => R0 = (x, u))) 165 [(0, .ref (ρ 20))] [] z g := by
  rw [T_X6_round_165] at hR
  rw [O_X6_round_165] at hok
  refine G_aload_n hX dX6_round_165 rfl rfl ?_
  refine G_geti hX dX6_round_166 gt_RX6_145 rfl ?_
  exact G_iret hX rfl dX6_round_169 rfl hR.symm
def T_X6_round_158 (kT_54 : (Nat → Int32) → (Nat → Nat → Int32) → Int32 × nr_S)  (z : Nat → Int32) (g : Nat → Nat → Int32) : Int32 × nr_S := (nr_K (T_X6_skip z g) (fun r_159 z_159 g_159 => (kT_54  z_159 g_159)))
def O_X6_round_158 (kT_54 : (Nat → Int32) → (Nat → Nat → Int32) → Int32 × nr_S) (kO_54 : (Nat → Int32) → (Nat → Nat → Int32) → Prop)  (z : Nat → Int32) (g : Nat → Nat → Int32) : Prop := ((O_X6_skip z g ∧ nr_KP (T_X6_skip z g) (fun r_159 z_159 g_159 => (kO_54  z_159 g_159))))
set_option maxHeartbeats 4000000 in
set_option maxRecDepth 100000 in
theorem sp_X6_round_158 (Γ : nr_M) (ρ : Nat → Nat) (d : Nat) (kT_54 : (Nat → Int32) → (Nat → Nat → Int32) → Int32 × nr_S) (kO_54 : (Nat → Int32) → (Nat → Nat → Int32) → Prop) (X : nr_CX) (hX : nr_Cx Γ ρ X yX6_round cX6_round 2 (some .int) (d + 5)) (hk_54 : ∀  (z : Nat → Int32) (g : Nat → Nat → Int32) (R0 : Int32 × nr_S) (_ : kT_54  z g = R0) (_ : kO_54  z g), nr_G Γ ρ X 2 (nr_Qi Γ ρ X (fun x u => R0 = (x, u))) 54 [(0, .ref (ρ 20))] [] z g)  (z : Nat → Int32) (g : Nat → Nat → Int32) (R0 : Int32 × nr_S) (hR : T_X6_round_158 kT_54  z g = R0) (hok : O_X6_round_158 kT_54 kO_54  z g) : nr_G Γ ρ X 2 (nr_Qi Γ ρ X (fun x u => R0 = (x, u))) 158 [(0, .ref (ρ 20))] [] z g := by
  rw [T_X6_round_158] at hR
  rw [O_X6_round_158] at hok
  refine G_aload_n hX dX6_round_158 rfl rfl ?_
  obtain ⟨ho_159, hok⟩ := hok
  refine G_cVv hX dX6_round_159 lv_RX6_116 (sp_X6_skip Γ ρ d z g ho_159) (by omega) nr_is_20 rfl rfl (Nat.le_of_ble_eq_true rfl) rfl (fun u_159 e_159 => ?_)
  obtain ⟨z_159, g_159⟩ := u_159
  rw [e_159, nr_K_mk] at hR
  rw [e_159, nr_KP_mk] at hok
  refine G_goto (tg := 54) hX dX6_round_162 (by decide) ?_
  exact nr_sub (by exact ⟨rfl, trivial⟩) (hk_54  z_159 g_159 R0 hR hok)
def T_X6_round_142 (kT_54 : (Nat → Int32) → (Nat → Nat → Int32) → Int32 × nr_S) (a1 : Int32) (z : Nat → Int32) (g : Nat → Nat → Int32) : Int32 × nr_S := (nr_K (T_X6_endsAt a1 z g) (fun r_144 z_144 g_144 => (T_X6_round_158 kT_54  z_144 g_144)))
def O_X6_round_142 (kT_54 : (Nat → Int32) → (Nat → Nat → Int32) → Int32 × nr_S) (kO_54 : (Nat → Int32) → (Nat → Nat → Int32) → Prop) (a1 : Int32) (z : Nat → Int32) (g : Nat → Nat → Int32) : Prop := ((O_X6_endsAt a1 z g ∧ nr_KP (T_X6_endsAt a1 z g) (fun r_144 z_144 g_144 => (O_X6_round_158 kT_54 kO_54  z_144 g_144))))
set_option maxHeartbeats 4000000 in
set_option maxRecDepth 100000 in
theorem sp_X6_round_142 (Γ : nr_M) (ρ : Nat → Nat) (d : Nat) (kT_54 : (Nat → Int32) → (Nat → Nat → Int32) → Int32 × nr_S) (kO_54 : (Nat → Int32) → (Nat → Nat → Int32) → Prop) (X : nr_CX) (hX : nr_Cx Γ ρ X yX6_round cX6_round 2 (some .int) (d + 5)) (hk_54 : ∀  (z : Nat → Int32) (g : Nat → Nat → Int32) (R0 : Int32 × nr_S) (_ : kT_54  z g = R0) (_ : kO_54  z g), nr_G Γ ρ X 2 (nr_Qi Γ ρ X (fun x u => R0 = (x, u))) 54 [(0, .ref (ρ 20))] [] z g) (a1 : Int32) (z : Nat → Int32) (g : Nat → Nat → Int32) (R0 : Int32 × nr_S) (hR : T_X6_round_142 kT_54 a1 z g = R0) (hok : O_X6_round_142 kT_54 kO_54 a1 z g) : nr_G Γ ρ X 2 (nr_Qi Γ ρ X (fun x u => R0 = (x, u))) 142 [(0, .ref (ρ 20)), (1, .int a1)] [] z g := by
  rw [T_X6_round_142] at hR
  rw [O_X6_round_142] at hok
  refine G_aload_n hX dX6_round_142 rfl rfl ?_
  refine G_iload_n hX dX6_round_143 rfl rfl ?_
  obtain ⟨ho_144, hok⟩ := hok
  refine G_cVv hX dX6_round_144 lv_RX6_219 (sp_X6_endsAt Γ ρ d a1 z g ho_144) (by omega) nr_is_20 rfl rfl (Nat.le_of_ble_eq_true rfl) rfl (fun u_144 e_144 => ?_)
  obtain ⟨z_144, g_144⟩ := u_144
  rw [e_144, nr_K_mk] at hR
  rw [e_144, nr_KP_mk] at hok
  refine G_goto (tg := 158) hX dX6_round_147 (by decide) ?_
  exact nr_sub (by exact ⟨rfl, trivial⟩) (sp_X6_round_158 Γ ρ d kT_54 kO_54 X hX hk_54 z_144 g_144 R0 hR hok)
def T_X6_round_82 (kT_54 : (Nat → Int32) → (Nat → Nat → Int32) → Int32 × nr_S)  (z : Nat → Int32) (g : Nat → Nat → Int32) : Int32 × nr_S := (if (z 30) = 0 then (if (g 24 ((z 25)).toNatClampNeg) = (47 : Int32) then (T_X6_round_142 kT_54 (g 24 ((z 25)).toNatClampNeg) z g) else (if (g 24 ((z 25)).toNatClampNeg) = (125 : Int32) then (T_X6_round_142 kT_54 (g 24 ((z 25)).toNatClampNeg) z g) else (if (g 24 ((z 25)).toNatClampNeg) = (41 : Int32) then (T_X6_round_142 kT_54 (g 24 ((z 25)).toNatClampNeg) z g) else (if (g 24 ((z 25)).toNatClampNeg) = (93 : Int32) then (T_X6_round_142 kT_54 (g 24 ((z 25)).toNatClampNeg) z g) else (if (g 24 ((z 25)).toNatClampNeg) = (62 : Int32) then (T_X6_round_142 kT_54 (g 24 ((z 25)).toNatClampNeg) z g) else (if (g 24 ((z 25)).toNatClampNeg) = (59 : Int32) then (T_X6_round_142 kT_54 (g 24 ((z 25)).toNatClampNeg) z g) else (nr_K (T_X6_begins (z 25) z g) (fun r_155 z_155 g_155 => (T_X6_round_158 kT_54  z_155 g_155))))))))) else (nr_K (T_X6_goesDown z g) (fun r_90 z_90 g_90 => (T_X6_round_158 kT_54  z_90 g_90))))
def O_X6_round_82 (kT_54 : (Nat → Int32) → (Nat → Nat → Int32) → Int32 × nr_S) (kO_54 : (Nat → Int32) → (Nat → Nat → Int32) → Prop)  (z : Nat → Int32) (g : Nat → Nat → Int32) : Prop := (((z 30) = 0 → (vp_in (z 25) 100 ∧ (((g 24 ((z 25)).toNatClampNeg) = (47 : Int32) → (O_X6_round_142 kT_54 kO_54 (g 24 ((z 25)).toNatClampNeg) z g)) ∧ (¬ ((g 24 ((z 25)).toNatClampNeg) = (47 : Int32)) → (((g 24 ((z 25)).toNatClampNeg) = (125 : Int32) → (O_X6_round_142 kT_54 kO_54 (g 24 ((z 25)).toNatClampNeg) z g)) ∧ (¬ ((g 24 ((z 25)).toNatClampNeg) = (125 : Int32)) → (((g 24 ((z 25)).toNatClampNeg) = (41 : Int32) → (O_X6_round_142 kT_54 kO_54 (g 24 ((z 25)).toNatClampNeg) z g)) ∧ (¬ ((g 24 ((z 25)).toNatClampNeg) = (41 : Int32)) → (((g 24 ((z 25)).toNatClampNeg) = (93 : Int32) → (O_X6_round_142 kT_54 kO_54 (g 24 ((z 25)).toNatClampNeg) z g)) ∧ (¬ ((g 24 ((z 25)).toNatClampNeg) = (93 : Int32)) → (((g 24 ((z 25)).toNatClampNeg) = (62 : Int32) → (O_X6_round_142 kT_54 kO_54 (g 24 ((z 25)).toNatClampNeg) z g)) ∧ (¬ ((g 24 ((z 25)).toNatClampNeg) = (62 : Int32)) → (((g 24 ((z 25)).toNatClampNeg) = (59 : Int32) → (O_X6_round_142 kT_54 kO_54 (g 24 ((z 25)).toNatClampNeg) z g)) ∧ (¬ ((g 24 ((z 25)).toNatClampNeg) = (59 : Int32)) → ((O_X6_begins (z 25) z g ∧ nr_KP (T_X6_begins (z 25) z g) (fun r_155 z_155 g_155 => (O_X6_round_158 kT_54 kO_54  z_155 g_155)))))))))))))))))) ∧ (¬ ((z 30) = 0) → ((O_X6_goesDown z g ∧ nr_KP (T_X6_goesDown z g) (fun r_90 z_90 g_90 => (O_X6_round_158 kT_54 kO_54  z_90 g_90))))))
set_option maxHeartbeats 4000000 in
set_option maxRecDepth 100000 in
theorem sp_X6_round_82 (Γ : nr_M) (ρ : Nat → Nat) (d : Nat) (kT_54 : (Nat → Int32) → (Nat → Nat → Int32) → Int32 × nr_S) (kO_54 : (Nat → Int32) → (Nat → Nat → Int32) → Prop) (X : nr_CX) (hX : nr_Cx Γ ρ X yX6_round cX6_round 2 (some .int) (d + 5)) (hk_54 : ∀  (z : Nat → Int32) (g : Nat → Nat → Int32) (R0 : Int32 × nr_S) (_ : kT_54  z g = R0) (_ : kO_54  z g), nr_G Γ ρ X 2 (nr_Qi Γ ρ X (fun x u => R0 = (x, u))) 54 [(0, .ref (ρ 20))] [] z g)  (z : Nat → Int32) (g : Nat → Nat → Int32) (R0 : Int32 × nr_S) (hR : T_X6_round_82 kT_54  z g = R0) (hok : O_X6_round_82 kT_54 kO_54  z g) : nr_G Γ ρ X 2 (nr_Qi Γ ρ X (fun x u => R0 = (x, u))) 82 [(0, .ref (ρ 20))] [] z g := by
  rw [T_X6_round_82] at hR
  rw [O_X6_round_82] at hok
  refine G_aload_n hX dX6_round_82 rfl rfl ?_
  refine G_geti hX dX6_round_83 gt_RX6_145 rfl ?_
  refine G_if_eq (tg := 96) hX dX6_round_86 (by decide) rfl (fun (h_86 : (z 30) = 0) => ?_) (fun (h_86 : ¬ ((z 30) = 0)) => ?_)
  · rw [if_pos h_86] at hR
    replace hok := hok.1 h_86
    refine G_aload_n hX dX6_round_96 rfl rfl ?_
    refine G_getr hX dX6_round_97 gt_RX6_19 rfl ?_
    refine G_aload_n hX dX6_round_100 rfl rfl ?_
    refine G_geti hX dX6_round_101 gt_RX6_113 rfl ?_
    obtain ⟨hi_104, hok⟩ := hok
    refine G_iald hX dX6_round_104 (rfl : nr_il 24 = 100) (by decide) hi_104 rfl ?_
    refine G_istore_n hX dX6_round_105 (by decide) rfl rfl ?_
    refine G_iload_n hX dX6_round_106 rfl rfl ?_
    refine G_bipush (v := (47 : Int32)) hX dX6_round_107 (by decide) rfl ?_
    refine G_icmp_eq (tg := 142) hX dX6_round_109 (by decide) rfl (fun (h_109 : (g 24 ((z 25)).toNatClampNeg) = (47 : Int32)) => ?_) (fun (h_109 : ¬ ((g 24 ((z 25)).toNatClampNeg) = (47 : Int32))) => ?_)
    · rw [if_pos h_109] at hR
      replace hok := hok.1 h_109
      exact nr_sub (by exact ⟨rfl, rfl, trivial⟩) (sp_X6_round_142 Γ ρ d kT_54 kO_54 X hX hk_54 (g 24 ((z 25)).toNatClampNeg) z g R0 hR hok)
    · rw [if_neg h_109] at hR
      replace hok := hok.2 h_109
      refine G_iload_n hX dX6_round_112 rfl rfl ?_
      refine G_bipush (v := (125 : Int32)) hX dX6_round_113 (by decide) rfl ?_
      refine G_icmp_eq (tg := 142) hX dX6_round_115 (by decide) rfl (fun (h_115 : (g 24 ((z 25)).toNatClampNeg) = (125 : Int32)) => ?_) (fun (h_115 : ¬ ((g 24 ((z 25)).toNatClampNeg) = (125 : Int32))) => ?_)
      · rw [if_pos h_115] at hR
        replace hok := hok.1 h_115
        exact nr_sub (by exact ⟨rfl, rfl, trivial⟩) (sp_X6_round_142 Γ ρ d kT_54 kO_54 X hX hk_54 (g 24 ((z 25)).toNatClampNeg) z g R0 hR hok)
      · rw [if_neg h_115] at hR
        replace hok := hok.2 h_115
        refine G_iload_n hX dX6_round_118 rfl rfl ?_
        refine G_bipush (v := (41 : Int32)) hX dX6_round_119 (by decide) rfl ?_
        refine G_icmp_eq (tg := 142) hX dX6_round_121 (by decide) rfl (fun (h_121 : (g 24 ((z 25)).toNatClampNeg) = (41 : Int32)) => ?_) (fun (h_121 : ¬ ((g 24 ((z 25)).toNatClampNeg) = (41 : Int32))) => ?_)
        · rw [if_pos h_121] at hR
          replace hok := hok.1 h_121
          exact nr_sub (by exact ⟨rfl, rfl, trivial⟩) (sp_X6_round_142 Γ ρ d kT_54 kO_54 X hX hk_54 (g 24 ((z 25)).toNatClampNeg) z g R0 hR hok)
        · rw [if_neg h_121] at hR
          replace hok := hok.2 h_121
          refine G_iload_n hX dX6_round_124 rfl rfl ?_
          refine G_bipush (v := (93 : Int32)) hX dX6_round_125 (by decide) rfl ?_
          refine G_icmp_eq (tg := 142) hX dX6_round_127 (by decide) rfl (fun (h_127 : (g 24 ((z 25)).toNatClampNeg) = (93 : Int32)) => ?_) (fun (h_127 : ¬ ((g 24 ((z 25)).toNatClampNeg) = (93 : Int32))) => ?_)
          · rw [if_pos h_127] at hR
            replace hok := hok.1 h_127
            exact nr_sub (by exact ⟨rfl, rfl, trivial⟩) (sp_X6_round_142 Γ ρ d kT_54 kO_54 X hX hk_54 (g 24 ((z 25)).toNatClampNeg) z g R0 hR hok)
          · rw [if_neg h_127] at hR
            replace hok := hok.2 h_127
            refine G_iload_n hX dX6_round_130 rfl rfl ?_
            refine G_bipush (v := (62 : Int32)) hX dX6_round_131 (by decide) rfl ?_
            refine G_icmp_eq (tg := 142) hX dX6_round_133 (by decide) rfl (fun (h_133 : (g 24 ((z 25)).toNatClampNeg) = (62 : Int32)) => ?_) (fun (h_133 : ¬ ((g 24 ((z 25)).toNatClampNeg) = (62 : Int32))) => ?_)
            · rw [if_pos h_133] at hR
              replace hok := hok.1 h_133
              exact nr_sub (by exact ⟨rfl, rfl, trivial⟩) (sp_X6_round_142 Γ ρ d kT_54 kO_54 X hX hk_54 (g 24 ((z 25)).toNatClampNeg) z g R0 hR hok)
            · rw [if_neg h_133] at hR
              replace hok := hok.2 h_133
              refine G_iload_n hX dX6_round_136 rfl rfl ?_
              refine G_bipush (v := (59 : Int32)) hX dX6_round_137 (by decide) rfl ?_
              refine G_icmp_ne (tg := 150) hX dX6_round_139 (by decide) rfl (fun (h_139 : ¬ ((g 24 ((z 25)).toNatClampNeg) = (59 : Int32))) => ?_) (fun (h_139 : (g 24 ((z 25)).toNatClampNeg) = (59 : Int32)) => ?_)
              · rw [if_neg h_139] at hR
                replace hok := hok.2 h_139
                refine G_aload_n hX dX6_round_150 rfl rfl ?_
                refine G_aload_n hX dX6_round_151 rfl rfl ?_
                refine G_geti hX dX6_round_152 gt_RX6_113 rfl ?_
                obtain ⟨ho_155, hok⟩ := hok
                refine G_cVv hX dX6_round_155 lv_RX6_222 (sp_X6_begins Γ ρ d (z 25) z g ho_155) (by omega) nr_is_20 rfl rfl (Nat.le_of_ble_eq_true rfl) rfl (fun u_155 e_155 => ?_)
                obtain ⟨z_155, g_155⟩ := u_155
                rw [e_155, nr_K_mk] at hR
                rw [e_155, nr_KP_mk] at hok
                exact nr_sub (by exact ⟨rfl, trivial⟩) (sp_X6_round_158 Γ ρ d kT_54 kO_54 X hX hk_54 z_155 g_155 R0 hR hok)
              · rw [if_pos h_139] at hR
                replace hok := hok.1 h_139
                exact nr_sub (by exact ⟨rfl, rfl, trivial⟩) (sp_X6_round_142 Γ ρ d kT_54 kO_54 X hX hk_54 (g 24 ((z 25)).toNatClampNeg) z g R0 hR hok)
  · rw [if_neg h_86] at hR
    replace hok := hok.2 h_86
    refine G_aload_n hX dX6_round_89 rfl rfl ?_
    obtain ⟨ho_90, hok⟩ := hok
    refine G_cVv hX dX6_round_90 lv_RX6_216 (sp_X6_goesDown Γ ρ d z g ho_90) (by omega) nr_is_20 rfl rfl (Nat.le_of_ble_eq_true rfl) rfl (fun u_90 e_90 => ?_)
    obtain ⟨z_90, g_90⟩ := u_90
    rw [e_90, nr_K_mk] at hR
    rw [e_90, nr_KP_mk] at hok
    refine G_goto (tg := 158) hX dX6_round_93 (by decide) ?_
    exact nr_sub (by exact ⟨rfl, trivial⟩) (sp_X6_round_158 Γ ρ d kT_54 kO_54 X hX hk_54 z_90 g_90 R0 hR hok)
def T_X6_round_54  : Nat → (Nat → Int32) → (Nat → Nat → Int32) → Int32 × nr_S
  | 0,  z, g => (0, z, g)
  | n + 1, z, g => (if (z 30) = 0 then (if (z 21) ≤ (z 25) then (T_X6_round_165  z g) else (T_X6_round_82 (T_X6_round_54 n)  z g)) else (if (z 35) ≤ 0 then (T_X6_round_165  z g) else (T_X6_round_82 (T_X6_round_54 n)  z g)))
def O_X6_round_54  : Nat → (Nat → Int32) → (Nat → Nat → Int32) → Prop
  | 0,  _, _ => False
  | n + 1, z, g => (((z 30) = 0 → (((z 21) ≤ (z 25) → (O_X6_round_165  z g)) ∧ (¬ ((z 21) ≤ (z 25)) → (O_X6_round_82 (T_X6_round_54 n) (O_X6_round_54 n)  z g)))) ∧ (¬ ((z 30) = 0) → (((z 35) ≤ 0 → (O_X6_round_165  z g)) ∧ (¬ ((z 35) ≤ 0) → (O_X6_round_82 (T_X6_round_54 n) (O_X6_round_54 n)  z g)))))
set_option maxHeartbeats 4000000 in
set_option maxRecDepth 100000 in
theorem sp_X6_round_54 (Γ : nr_M) (ρ : Nat → Nat) (d : Nat) (X : nr_CX) (hX : nr_Cx Γ ρ X yX6_round cX6_round 2 (some .int) (d + 5)) : ∀ (n : Nat)  (z : Nat → Int32) (g : Nat → Nat → Int32) (R0 : Int32 × nr_S) (_ : T_X6_round_54 n  z g = R0) (_ : O_X6_round_54 n  z g), nr_G Γ ρ X 2 (nr_Qi Γ ρ X (fun x u => R0 = (x, u))) 54 [(0, .ref (ρ 20))] [] z g := by
  intro n
  induction n with
  | zero => intro  z g R0 hR hok; exact False.elim hok
  | succ n ih =>
    intro  z g R0 hR hok
    rw [T_X6_round_54] at hR
    rw [O_X6_round_54] at hok
    refine G_aload_n hX dX6_round_54 rfl rfl ?_
    refine G_geti hX dX6_round_55 gt_RX6_145 rfl ?_
    refine G_if_ne (tg := 75) hX dX6_round_58 (by decide) rfl (fun (h_58 : ¬ ((z 30) = 0)) => ?_) (fun (h_58 : (z 30) = 0) => ?_)
    · rw [if_neg h_58] at hR
      replace hok := hok.2 h_58
      refine G_aload_n hX dX6_round_75 rfl rfl ?_
      refine G_geti hX dX6_round_76 gt_RX6_166 rfl ?_
      refine G_if_le (tg := 165) hX dX6_round_79 (by decide) rfl (fun (h_79 : (z 35) ≤ 0) => ?_) (fun (h_79 : ¬ ((z 35) ≤ 0)) => ?_)
      · rw [if_pos h_79] at hR
        replace hok := hok.1 h_79
        exact nr_sub (by exact ⟨rfl, trivial⟩) (sp_X6_round_165 Γ ρ d X hX z g R0 hR hok)
      · rw [if_neg h_79] at hR
        replace hok := hok.2 h_79
        exact nr_sub (by exact ⟨rfl, trivial⟩) (sp_X6_round_82 Γ ρ d (T_X6_round_54 n) (O_X6_round_54 n) X hX ih z g R0 hR hok)
    · rw [if_pos h_58] at hR
      replace hok := hok.1 h_58
      refine G_aload_n hX dX6_round_61 rfl rfl ?_
      refine G_geti hX dX6_round_62 gt_RX6_113 rfl ?_
      refine G_aload_n hX dX6_round_65 rfl rfl ?_
      refine G_geti hX dX6_round_66 gt_RX6_107 rfl ?_
      refine G_icmp_ge (tg := 165) hX dX6_round_69 (by decide) rfl (fun (h_69 : (z 21) ≤ (z 25)) => ?_) (fun (h_69 : ¬ ((z 21) ≤ (z 25))) => ?_)
      · rw [if_pos h_69] at hR
        replace hok := hok.1 h_69
        exact nr_sub (by exact ⟨rfl, trivial⟩) (sp_X6_round_165 Γ ρ d X hX z g R0 hR hok)
      · rw [if_neg h_69] at hR
        replace hok := hok.2 h_69
        refine G_goto (tg := 82) hX dX6_round_72 (by decide) ?_
        exact nr_sub (by exact ⟨rfl, trivial⟩) (sp_X6_round_82 Γ ρ d (T_X6_round_54 n) (O_X6_round_54 n) X hX ih z g R0 hR hok)
def T_X6_round (N : Nat) (z : Nat → Int32) (g : Nat → Nat → Int32) : Int32 × nr_S := (nr_K (T_X6_skip (va_up (va_up (va_up (va_up (va_up (va_up (va_up (va_up (va_up (va_up z 26 (0 : Int32)) 27 (0 : Int32)) 28 (0 : Int32)) 29 (0 : Int32)) 30 (0 : Int32)) 31 (-1 : Int32)) 35 (0 : Int32)) 36 (-1 : Int32)) 37 (0 : Int32)) 25 (0 : Int32)) g) (fun r_51 z_51 g_51 => (T_X6_round_54 N  z_51 g_51)))
def O_X6_round (N : Nat) (z : Nat → Int32) (g : Nat → Nat → Int32) : Prop := ((O_X6_skip (va_up (va_up (va_up (va_up (va_up (va_up (va_up (va_up (va_up (va_up z 26 (0 : Int32)) 27 (0 : Int32)) 28 (0 : Int32)) 29 (0 : Int32)) 30 (0 : Int32)) 31 (-1 : Int32)) 35 (0 : Int32)) 36 (-1 : Int32)) 37 (0 : Int32)) 25 (0 : Int32)) g ∧ nr_KP (T_X6_skip (va_up (va_up (va_up (va_up (va_up (va_up (va_up (va_up (va_up (va_up z 26 (0 : Int32)) 27 (0 : Int32)) 28 (0 : Int32)) 29 (0 : Int32)) 30 (0 : Int32)) 31 (-1 : Int32)) 35 (0 : Int32)) 36 (-1 : Int32)) 37 (0 : Int32)) 25 (0 : Int32)) g) (fun r_51 z_51 g_51 => (O_X6_round_54 N  z_51 g_51))))
set_option maxHeartbeats 4000000 in
set_option maxRecDepth 100000 in
theorem sp_X6_round (Γ : nr_M) (ρ : Nat → Nat) (d : Nat) (N : Nat) (z : Nat → Int32) (g : Nat → Nat → Int32) (hok : O_X6_round N z g) : nr_Si Γ ρ (d + 5) yX6_round cX6_round 2 (some .int) [.ref (ρ 20)] z g (fun x u => (T_X6_round N z g) = (x, u)) := by
  refine nr_body_i (lv := [(0, .ref (ρ 20))]) (by decide +kernel) (Nat.le_of_ble_eq_true rfl) rfl (fun X hX => ?_)
  generalize hR : (T_X6_round N z g) = R0
  rw [T_X6_round] at hR
  rw [O_X6_round] at hok
  refine G_aload_n hX dX6_round_0 rfl rfl ?_
  refine G_iconst (v := (0 : Int32)) hX dX6_round_1 (by decide) rfl ?_
  refine G_put hX dX6_round_2 pt_RX6_142 rfl rfl rfl ?_
  refine G_aload_n hX dX6_round_5 rfl rfl ?_
  refine G_iconst (v := (0 : Int32)) hX dX6_round_6 (by decide) rfl ?_
  refine G_put hX dX6_round_7 pt_RX6_192 rfl rfl rfl ?_
  refine G_aload_n hX dX6_round_10 rfl rfl ?_
  refine G_iconst (v := (0 : Int32)) hX dX6_round_11 (by decide) rfl ?_
  refine G_put hX dX6_round_12 pt_RX6_186 rfl rfl rfl ?_
  refine G_aload_n hX dX6_round_15 rfl rfl ?_
  refine G_iconst (v := (0 : Int32)) hX dX6_round_16 (by decide) rfl ?_
  refine G_put hX dX6_round_17 pt_RX6_163 rfl rfl rfl ?_
  refine G_aload_n hX dX6_round_20 rfl rfl ?_
  refine G_iconst (v := (0 : Int32)) hX dX6_round_21 (by decide) rfl ?_
  refine G_put hX dX6_round_22 pt_RX6_145 rfl rfl rfl ?_
  refine G_aload_n hX dX6_round_25 rfl rfl ?_
  refine G_iconst (v := (-1 : Int32)) hX dX6_round_26 (by decide) rfl ?_
  refine G_put hX dX6_round_27 pt_RX6_151 rfl rfl rfl ?_
  refine G_aload_n hX dX6_round_30 rfl rfl ?_
  refine G_iconst (v := (0 : Int32)) hX dX6_round_31 (by decide) rfl ?_
  refine G_put hX dX6_round_32 pt_RX6_166 rfl rfl rfl ?_
  refine G_aload_n hX dX6_round_35 rfl rfl ?_
  refine G_iconst (v := (-1 : Int32)) hX dX6_round_36 (by decide) rfl ?_
  refine G_put hX dX6_round_37 pt_RX6_148 rfl rfl rfl ?_
  refine G_aload_n hX dX6_round_40 rfl rfl ?_
  refine G_iconst (v := (0 : Int32)) hX dX6_round_41 (by decide) rfl ?_
  refine G_put hX dX6_round_42 pt_RX6_169 rfl rfl rfl ?_
  refine G_aload_n hX dX6_round_45 rfl rfl ?_
  refine G_iconst (v := (0 : Int32)) hX dX6_round_46 (by decide) rfl ?_
  refine G_put hX dX6_round_47 pt_RX6_113 rfl rfl rfl ?_
  refine G_aload_n hX dX6_round_50 rfl rfl ?_
  obtain ⟨ho_51, hok⟩ := hok
  refine G_cVv hX dX6_round_51 lv_RX6_116 (sp_X6_skip Γ ρ d (va_up (va_up (va_up (va_up (va_up (va_up (va_up (va_up (va_up (va_up z 26 (0 : Int32)) 27 (0 : Int32)) 28 (0 : Int32)) 29 (0 : Int32)) 30 (0 : Int32)) 31 (-1 : Int32)) 35 (0 : Int32)) 36 (-1 : Int32)) 37 (0 : Int32)) 25 (0 : Int32)) g ho_51) (by omega) nr_is_20 rfl rfl (Nat.le_of_ble_eq_true rfl) rfl (fun u_51 e_51 => ?_)
  obtain ⟨z_51, g_51⟩ := u_51
  rw [e_51, nr_K_mk] at hR
  rw [e_51, nr_KP_mk] at hok
  exact nr_sub (by exact ⟨rfl, trivial⟩) (sp_X6_round_54 Γ ρ d X hX N z_51 g_51 R0 hR hok)
