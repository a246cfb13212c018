def R_X6_in (a0 : Int64) (a2 : Int64) (a4 : Int64) : Int32 := (if (lg_cmp a0 a2) < 0 then (0 : Int32) else (if 0 < (lg_cmp a0 a4) then (0 : Int32) else (1 : Int32)))
set_option maxHeartbeats 4000000 in
set_option maxRecDepth 100000 in
theorem sp_X6_in (Γ : nr_M) (ρ : Nat → Nat) (d : Nat) (a0 : Int64) (a2 : Int64) (a4 : Int64) (z : Nat → Int32) (g : Nat → Nat → Int32) : nr_Si Γ ρ (d + 0) yX6_in cX6_in 6 (some .boolean) [.long a0, .long a2, .long a4] z g (fun x u => x = (R_X6_in a0 a2 a4) ∧ u = (z, g)) := by
  refine nr_body_i (lv := [(0, .long a0), (2, .long a2), (4, .long a4)]) (by decide +kernel) (Nat.le_of_ble_eq_true rfl) rfl (fun X hX => ?_)
  generalize hR : (R_X6_in a0 a2 a4) = R0
  rw [R_X6_in] at hR
  refine G_lload_n hX dX6_in_0 rfl rfl ?_
  refine G_lload_n hX dX6_in_1 rfl rfl ?_
  refine G_lcmp hX dX6_in_2 rfl ?_
  refine G_if_lt (tg := 17) hX dX6_in_3 (by decide) rfl (fun (h_3 : (lg_cmp a0 a2) < 0) => ?_) (fun (h_3 : ¬ ((lg_cmp a0 a2) < 0)) => ?_)
  · rw [if_pos h_3] at hR
    refine G_iconst (v := (0 : Int32)) hX dX6_in_17 (by decide) rfl ?_
    exact G_iret hX rfl dX6_in_18 rfl ⟨hR, rfl⟩
  · rw [if_neg h_3] at hR
    refine G_lload_n hX dX6_in_6 rfl rfl ?_
    refine G_lload hX dX6_in_7 rfl rfl ?_
    refine G_lcmp hX dX6_in_9 rfl ?_
    refine G_if_gt (tg := 17) hX dX6_in_10 (by decide) rfl (fun (h_10 : 0 < (lg_cmp a0 a4)) => ?_) (fun (h_10 : ¬ (0 < (lg_cmp a0 a4))) => ?_)
    · rw [if_pos h_10] at hR
      refine G_iconst (v := (0 : Int32)) hX dX6_in_17 (by decide) rfl ?_
      exact G_iret hX rfl dX6_in_18 rfl ⟨hR, rfl⟩
    · rw [if_neg h_10] at hR
      refine G_iconst (v := (1 : Int32)) hX dX6_in_13 (by decide) rfl ?_
      refine G_goto (tg := 18) hX dX6_in_14 (by decide) ?_
      exact G_iret hX rfl dX6_in_18 rfl ⟨hR, rfl⟩
theorem nb_X6_in (a0 : Int64) (a2 : Int64) (a4 : Int64) : narrow .boolean (.int (R_X6_in a0 a2 a4)) = .int (R_X6_in a0 a2 a4) := by
  unfold R_X6_in; repeat' split
  all_goals first | rfl | exact nb_X5_within _ _ _ | exact nb_X6_in _ _ _ | exact nb_X3_isRoomSign _ | exact nb_X3_holdsActs _
def R_X6_endsBy (a0 : Int32) : Int32 := (if (R_X6_in (a0).toInt64 (48 : Int64) (55 : Int64)) = 0 then (if a0 = (40 : Int32) then (41 : Int32) else (if a0 = (91 : Int32) then (93 : Int32) else (if a0 = (60 : Int32) then (62 : Int32) else (59 : Int32)))) else (125 : Int32))
set_option maxHeartbeats 4000000 in
set_option maxRecDepth 100000 in
theorem sp_X6_endsBy (Γ : nr_M) (ρ : Nat → Nat) (d : Nat) (a0 : Int32) (z : Nat → Int32) (g : Nat → Nat → Int32) : nr_Si Γ ρ (d + 1) yX6_endsBy cX6_endsBy 1 (some .int) [.int a0] z g (fun x u => x = (R_X6_endsBy a0) ∧ u = (z, g)) := by
  refine nr_body_i (lv := [(0, .int a0)]) (by decide +kernel) (Nat.le_of_ble_eq_true rfl) rfl (fun X hX => ?_)
  generalize hR : (R_X6_endsBy a0) = R0
  rw [R_X6_endsBy] at hR
  refine G_iload_n hX dX6_endsBy_0 rfl rfl ?_
  refine G_i2l hX dX6_endsBy_1 rfl ?_
  refine G_ldc2 (v := (48 : Int64)) hX dX6_endsBy_2 wk_RX6_119 rfl ?_
  refine G_ldc2 (v := (55 : Int64)) hX dX6_endsBy_5 wk_RX6_121 rfl ?_
  refine G_fSi hX dX6_endsBy_8 ls_RX6_62 (sp_X6_in Γ ρ d (a0).toInt64 (48 : Int64) (55 : Int64) z g) (by omega) rfl rfl (Nat.le_of_ble_eq_true rfl) rfl ?_
  refine G_if_eq (tg := 19) hX dX6_endsBy_11 (by decide) rfl (fun (h_11 : (R_X6_in (a0).toInt64 (48 : Int64) (55 : Int64)) = 0) => ?_) (fun (h_11 : ¬ ((R_X6_in (a0).toInt64 (48 : Int64) (55 : Int64)) = 0)) => ?_)
  · rw [if_pos h_11] at hR
    refine G_iload_n hX dX6_endsBy_19 rfl rfl ?_
    refine G_bipush (v := (40 : Int32)) hX dX6_endsBy_20 (by decide) rfl ?_
    refine G_icmp_ne (tg := 30) hX dX6_endsBy_22 (by decide) rfl (fun (h_22 : ¬ (a0 = (40 : Int32))) => ?_) (fun (h_22 : a0 = (40 : Int32)) => ?_)
    · rw [if_neg h_22] at hR
      refine G_iload_n hX dX6_endsBy_30 rfl rfl ?_
      refine G_bipush (v := (91 : Int32)) hX dX6_endsBy_31 (by decide) rfl ?_
      refine G_icmp_ne (tg := 41) hX dX6_endsBy_33 (by decide) rfl (fun (h_33 : ¬ (a0 = (91 : Int32))) => ?_) (fun (h_33 : a0 = (91 : Int32)) => ?_)
      · rw [if_neg h_33] at hR
        refine G_iload_n hX dX6_endsBy_41 rfl rfl ?_
        refine G_bipush (v := (60 : Int32)) hX dX6_endsBy_42 (by decide) rfl ?_
        refine G_icmp_ne (tg := 52) hX dX6_endsBy_44 (by decide) rfl (fun (h_44 : ¬ (a0 = (60 : Int32))) => ?_) (fun (h_44 : a0 = (60 : Int32)) => ?_)
        · rw [if_neg h_44] at hR
          refine G_bipush (v := (59 : Int32)) hX dX6_endsBy_52 (by decide) rfl ?_
          exact G_iret hX rfl dX6_endsBy_54 rfl ⟨hR, rfl⟩
        · rw [if_pos h_44] at hR
          refine G_bipush (v := (62 : Int32)) hX dX6_endsBy_47 (by decide) rfl ?_
          refine G_goto (tg := 54) hX dX6_endsBy_49 (by decide) ?_
          exact G_iret hX rfl dX6_endsBy_54 rfl ⟨hR, rfl⟩
      · rw [if_pos h_33] at hR
        refine G_bipush (v := (93 : Int32)) hX dX6_endsBy_36 (by decide) rfl ?_
        refine G_goto (tg := 54) hX dX6_endsBy_38 (by decide) ?_
        exact G_iret hX rfl dX6_endsBy_54 rfl ⟨hR, rfl⟩
    · rw [if_pos h_22] at hR
      refine G_bipush (v := (41 : Int32)) hX dX6_endsBy_25 (by decide) rfl ?_
      refine G_goto (tg := 54) hX dX6_endsBy_27 (by decide) ?_
      exact G_iret hX rfl dX6_endsBy_54 rfl ⟨hR, rfl⟩
  · rw [if_neg h_11] at hR
    refine G_bipush (v := (125 : Int32)) hX dX6_endsBy_14 (by decide) rfl ?_
    refine G_goto (tg := 54) hX dX6_endsBy_16 (by decide) ?_
    exact G_iret hX rfl dX6_endsBy_54 rfl ⟨hR, rfl⟩
def T_X6_skip_0  : Nat → (Nat → Int32) → (Nat → Nat → Int32) → Int32 × nr_S
  | 0,  z, g => (0, z, g)
  | n + 1, z, g => (if (z 21) ≤ (z 25) then (0, z, g) else (if (g 24 ((z 25)).toNatClampNeg) = (32 : Int32) then (T_X6_skip_0 n  (va_up z 25 ((z 25) + (1 : Int32))) g) else (0, z, g)))
def O_X6_skip_0  : Nat → (Nat → Int32) → (Nat → Nat → Int32) → Prop
  | 0,  _, _ => False
  | n + 1, z, g => (((z 21) ≤ (z 25) → True) ∧ (¬ ((z 21) ≤ (z 25)) → (vp_in (z 25) 100 ∧ (((g 24 ((z 25)).toNatClampNeg) = (32 : Int32) → (O_X6_skip_0 n  (va_up z 25 ((z 25) + (1 : Int32))) g)) ∧ (¬ ((g 24 ((z 25)).toNatClampNeg) = (32 : Int32)) → True)))))
set_option maxHeartbeats 4000000 in
set_option maxRecDepth 100000 in
theorem sp_X6_skip_0 (Γ : nr_M) (ρ : Nat → Nat) (d : Nat) (X : nr_CX) (hX : nr_Cx Γ ρ X yX6_skip cX6_skip 1 none (d + 0)) : ∀ (n : Nat)  (z : Nat → Int32) (g : Nat → Nat → Int32) (R0 : Int32 × nr_S) (_ : T_X6_skip_0 n  z g = R0) (_ : O_X6_skip_0 n  z g), nr_G Γ ρ X 1 (nr_Qv Γ ρ X (fun u => R0 = (0, u))) 0 [(0, .ref (ρ 20))] [] z g := by
  intro n
  induction n with
  | zero => intro  z g R0 hR hok; exact False.elim hok
  | succ n ih =>
    intro  z g R0 hR hok
    rw [T_X6_skip_0] at hR
    rw [O_X6_skip_0] at hok
    refine G_aload_n hX dX6_skip_0 rfl rfl ?_
    refine G_geti hX dX6_skip_1 gt_RX6_113 rfl ?_
    refine G_aload_n hX dX6_skip_4 rfl rfl ?_
    refine G_geti hX dX6_skip_5 gt_RX6_107 rfl ?_
    refine G_icmp_ge (tg := 38) hX dX6_skip_8 (by decide) rfl (fun (h_8 : (z 21) ≤ (z 25)) => ?_) (fun (h_8 : ¬ ((z 21) ≤ (z 25))) => ?_)
    · rw [if_pos h_8] at hR
      replace hok := hok.1 h_8
      exact G_vret hX dX6_skip_38 hR.symm
    · rw [if_neg h_8] at hR
      replace hok := hok.2 h_8
      refine G_aload_n hX dX6_skip_11 rfl rfl ?_
      refine G_getr hX dX6_skip_12 gt_RX6_19 rfl ?_
      refine G_aload_n hX dX6_skip_15 rfl rfl ?_
      refine G_geti hX dX6_skip_16 gt_RX6_113 rfl ?_
      obtain ⟨hi_19, hok⟩ := hok
      refine G_iald hX dX6_skip_19 (rfl : nr_il 24 = 100) (by decide) hi_19 rfl ?_
      refine G_bipush (v := (32 : Int32)) hX dX6_skip_20 (by decide) rfl ?_
      refine G_icmp_ne (tg := 38) hX dX6_skip_22 (by decide) rfl (fun (h_22 : ¬ ((g 24 ((z 25)).toNatClampNeg) = (32 : Int32))) => ?_) (fun (h_22 : (g 24 ((z 25)).toNatClampNeg) = (32 : Int32)) => ?_)
      · rw [if_neg h_22] at hR
        replace hok := hok.2 h_22
        exact G_vret hX dX6_skip_38 hR.symm
      · rw [if_pos h_22] at hR
        replace hok := hok.1 h_22
        refine G_aload_n hX dX6_skip_25 rfl rfl ?_
        refine G_dup hX dX6_skip_26 rfl rfl ?_
        refine G_geti hX dX6_skip_27 gt_RX6_113 rfl ?_
        refine G_iconst (v := (1 : Int32)) hX dX6_skip_30 (by decide) rfl ?_
        refine G_iadd hX dX6_skip_31 rfl ?_
        refine G_put hX dX6_skip_32 pt_RX6_113 rfl rfl rfl ?_
        refine G_goto (tg := 0) hX dX6_skip_35 (by decide) ?_
        exact nr_sub (by exact ⟨rfl, trivial⟩) (ih  (va_up z 25 ((z 25) + (1 : Int32))) g R0 hR hok)
def T_X6_skip  (z : Nat → Int32) (g : Nat → Nat → Int32) : Int32 × nr_S := (T_X6_skip_0 500  z g)
def O_X6_skip  (z : Nat → Int32) (g : Nat → Nat → Int32) : Prop := (O_X6_skip_0 500  z g)
set_option maxHeartbeats 4000000 in
set_option maxRecDepth 100000 in
theorem sp_X6_skip (Γ : nr_M) (ρ : Nat → Nat) (d : Nat) (z : Nat → Int32) (g : Nat → Nat → Int32) (hok : O_X6_skip z g) : nr_Sv Γ ρ (d + 0) yX6_skip cX6_skip 1 none [.ref (ρ 20)] z g (fun u => (T_X6_skip z g) = (0, u)) := by
  refine nr_body_v (lv := [(0, .ref (ρ 20))]) (by decide +kernel) (Nat.le_of_ble_eq_true rfl) rfl (fun X hX => ?_)
  generalize hR : (T_X6_skip z g) = R0
  rw [T_X6_skip] at hR
  rw [O_X6_skip] at hok
  exact nr_sub (by exact ⟨rfl, trivial⟩) (sp_X6_skip_0 Γ ρ d X hX 500 z g R0 hR hok)
def T_X6_meets_55  (a3 : Int32) (s1 : Int32) (s2 : Int32) (z : Nat → Int32) (g : Nat → Nat → Int32) : Int32 × nr_S := (a3, (va_up z 25 (s1 + s2)), g)
def O_X6_meets_55  (a3 : Int32) (s1 : Int32) (s2 : Int32) (z : Nat → Int32) (g : Nat → Nat → Int32) : Prop := (narrow .boolean (.int a3) = .int a3 ∧ True)
set_option maxHeartbeats 4000000 in
set_option maxRecDepth 100000 in
theorem sp_X6_meets_55 (Γ : nr_M) (ρ : Nat → Nat) (d : Nat) (X : nr_CX) (hX : nr_Cx Γ ρ X yX6_meets cX6_meets 4 (some .boolean) (d + 1)) (a3 : Int32) (s1 : Int32) (s2 : Int32) (z : Nat → Int32) (g : Nat → Nat → Int32) (R0 : Int32 × nr_S) (hR : T_X6_meets_55 a3 s1 s2 z g = R0) (hok : O_X6_meets_55 a3 s1 s2 z g) : nr_G Γ ρ X 4 (nr_Qi Γ ρ X (fun x u => narrow .boolean (.int x) = .int x ∧ R0 = (x, u))) 55 [(3, .int a3)] [.int s2, .int s1, .ref (ρ 20)] z g := by
  rw [T_X6_meets_55] at hR
  rw [O_X6_meets_55] at hok
  refine G_iadd hX dX6_meets_55 rfl ?_
  refine G_put hX dX6_meets_56 pt_RX6_113 rfl rfl rfl ?_
  refine G_iload_n hX dX6_meets_59 rfl rfl ?_
  obtain ⟨hb_60, hok⟩ := hok
  exact G_iret hX rfl dX6_meets_60 hb_60 ⟨hb_60, hR.symm⟩
def T_X6_meets_40  (s0 : Int32) (z : Nat → Int32) (g : Nat → Nat → Int32) : Int32 × nr_S := (if s0 = 0 then (T_X6_meets_55 s0 (z 25) (0 : Int32) z g) else (T_X6_meets_55 s0 (z 25) (1 : Int32) z g))
def O_X6_meets_40  (s0 : Int32) (z : Nat → Int32) (g : Nat → Nat → Int32) : Prop := ((s0 = 0 → (O_X6_meets_55 s0 (z 25) (0 : Int32) z g)) ∧ (¬ (s0 = 0) → (O_X6_meets_55 s0 (z 25) (1 : Int32) z g)))
set_option maxHeartbeats 4000000 in
set_option maxRecDepth 100000 in
theorem sp_X6_meets_40 (Γ : nr_M) (ρ : Nat → Nat) (d : Nat) (X : nr_CX) (hX : nr_Cx Γ ρ X yX6_meets cX6_meets 4 (some .boolean) (d + 1)) (s0 : Int32) (z : Nat → Int32) (g : Nat → Nat → Int32) (R0 : Int32 × nr_S) (hR : T_X6_meets_40 s0 z g = R0) (hok : O_X6_meets_40 s0 z g) : nr_G Γ ρ X 4 (nr_Qi Γ ρ X (fun x u => narrow .boolean (.int x) = .int x ∧ R0 = (x, u))) 40 [(0, .ref (ρ 20))] [.int s0] z g := by
  rw [T_X6_meets_40] at hR
  rw [O_X6_meets_40] at hok
  refine G_istore_n hX dX6_meets_40 (by decide) rfl rfl ?_
  refine G_aload_n hX dX6_meets_41 rfl rfl ?_
  refine G_dup hX dX6_meets_42 rfl rfl ?_
  refine G_geti hX dX6_meets_43 gt_RX6_113 rfl ?_
  refine G_iload_n hX dX6_meets_46 rfl rfl ?_
  refine G_if_eq (tg := 54) hX dX6_meets_47 (by decide) rfl (fun (h_47 : s0 = 0) => ?_) (fun (h_47 : ¬ (s0 = 0)) => ?_)
  · rw [if_pos h_47] at hR
    replace hok := hok.1 h_47
    refine G_iconst (v := (0 : Int32)) hX dX6_meets_54 (by decide) rfl ?_
    exact nr_sub (by exact ⟨rfl, trivial⟩) (sp_X6_meets_55 Γ ρ d X hX s0 (z 25) (0 : Int32) z g R0 hR hok)
  · rw [if_neg h_47] at hR
    replace hok := hok.2 h_47
    refine G_iconst (v := (1 : Int32)) hX dX6_meets_50 (by decide) rfl ?_
    refine G_goto (tg := 55) hX dX6_meets_51 (by decide) ?_
    exact nr_sub (by exact ⟨rfl, trivial⟩) (sp_X6_meets_55 Γ ρ d X hX s0 (z 25) (1 : Int32) z g R0 hR hok)
def T_X6_meets_39   (z : Nat → Int32) (g : Nat → Nat → Int32) : Int32 × nr_S := (T_X6_meets_40 (0 : Int32) z g)
def O_X6_meets_39   (z : Nat → Int32) (g : Nat → Nat → Int32) : Prop := (O_X6_meets_40 (0 : Int32) z g)
set_option maxHeartbeats 4000000 in
set_option maxRecDepth 100000 in
theorem sp_X6_meets_39 (Γ : nr_M) (ρ : Nat → Nat) (d : Nat) (X : nr_CX) (hX : nr_Cx Γ ρ X yX6_meets cX6_meets 4 (some .boolean) (d + 1))  (z : Nat → Int32) (g : Nat → Nat → Int32) (R0 : Int32 × nr_S) (hR : T_X6_meets_39  z g = R0) (hok : O_X6_meets_39  z g) : nr_G Γ ρ X 4 (nr_Qi Γ ρ X (fun x u => narrow .boolean (.int x) = .int x ∧ R0 = (x, u))) 39 [(0, .ref (ρ 20))] [] z g := by
  rw [T_X6_meets_39] at hR
  rw [O_X6_meets_39] at hok
  refine G_iconst (v := (0 : Int32)) hX dX6_meets_39 (by decide) rfl ?_
  exact nr_sub (by exact ⟨rfl, trivial⟩) (sp_X6_meets_40 Γ ρ d X hX (0 : Int32) z g R0 hR hok)
def T_X6_meets (a1 : Int32) (a2 : Int32) (z : Nat → Int32) (g : Nat → Nat → Int32) : Int32 × nr_S := (nr_K (T_X6_skip z g) (fun r_1 z_1 g_1 => (if (z_1 21) ≤ (z_1 25) then (T_X6_meets_39  z_1 g_1) else (if (R_X6_in ((g_1 24 ((z_1 25)).toNatClampNeg)).toInt64 (a1).toInt64 (a2).toInt64) = 0 then (T_X6_meets_39  z_1 g_1) else (T_X6_meets_40 (1 : Int32) z_1 g_1)))))
def O_X6_meets (a1 : Int32) (a2 : Int32) (z : Nat → Int32) (g : Nat → Nat → Int32) : Prop := ((O_X6_skip z g ∧ nr_KP (T_X6_skip z g) (fun r_1 z_1 g_1 => (((z_1 21) ≤ (z_1 25) → (O_X6_meets_39  z_1 g_1)) ∧ (¬ ((z_1 21) ≤ (z_1 25)) → (vp_in (z_1 25) 100 ∧ (((R_X6_in ((g_1 24 ((z_1 25)).toNatClampNeg)).toInt64 (a1).toInt64 (a2).toInt64) = 0 → (O_X6_meets_39  z_1 g_1)) ∧ (¬ ((R_X6_in ((g_1 24 ((z_1 25)).toNatClampNeg)).toInt64 (a1).toInt64 (a2).toInt64) = 0) → (O_X6_meets_40 (1 : Int32) z_1 g_1)))))))))
set_option maxHeartbeats 4000000 in
set_option maxRecDepth 100000 in
theorem sp_X6_meets (Γ : nr_M) (ρ : Nat → Nat) (d : Nat) (a1 : Int32) (a2 : Int32) (z : Nat → Int32) (g : Nat → Nat → Int32) (hok : O_X6_meets a1 a2 z g) : nr_Si Γ ρ (d + 1) yX6_meets cX6_meets 4 (some .boolean) [.ref (ρ 20), .int a1, .int a2] z g (fun x u => narrow .boolean (.int x) = .int x ∧ (T_X6_meets a1 a2 z g) = (x, u)) := by
  refine nr_body_i (lv := [(0, .ref (ρ 20)), (1, .int a1), (2, .int a2)]) (by decide +kernel) (Nat.le_of_ble_eq_true rfl) rfl (fun X hX => ?_)
  generalize hR : (T_X6_meets a1 a2 z g) = R0
  rw [T_X6_meets] at hR
  rw [O_X6_meets] at hok
  refine G_aload_n hX dX6_meets_0 rfl rfl ?_
  obtain ⟨ho_1, hok⟩ := hok
  refine G_cVv hX dX6_meets_1 lv_RX6_116 (sp_X6_skip Γ ρ d z g ho_1) (by omega) nr_is_20 rfl rfl (Nat.le_of_ble_eq_true rfl) rfl (fun u_1 e_1 => ?_)
  obtain ⟨z_1, g_1⟩ := u_1
  rw [e_1, nr_K_mk] at hR
  rw [e_1, nr_KP_mk] at hok
  refine G_aload_n hX dX6_meets_4 rfl rfl ?_
  refine G_geti hX dX6_meets_5 gt_RX6_113 rfl ?_
  refine G_aload_n hX dX6_meets_8 rfl rfl ?_
  refine G_geti hX dX6_meets_9 gt_RX6_107 rfl ?_
  refine G_icmp_ge (tg := 39) hX dX6_meets_12 (by decide) rfl (fun (h_12 : (z_1 21) ≤ (z_1 25)) => ?_) (fun (h_12 : ¬ ((z_1 21) ≤ (z_1 25))) => ?_)
  · rw [if_pos h_12] at hR
    replace hok := hok.1 h_12
    exact nr_sub (by exact ⟨rfl, trivial⟩) (sp_X6_meets_39 Γ ρ d X hX z_1 g_1 R0 hR hok)
  · rw [if_neg h_12] at hR
    replace hok := hok.2 h_12
    refine G_aload_n hX dX6_meets_15 rfl rfl ?_
    refine G_getr hX dX6_meets_16 gt_RX6_19 rfl ?_
    refine G_aload_n hX dX6_meets_19 rfl rfl ?_
    refine G_geti hX dX6_meets_20 gt_RX6_113 rfl ?_
    obtain ⟨hi_23, hok⟩ := hok
    refine G_iald hX dX6_meets_23 (rfl : nr_il 24 = 100) (by decide) hi_23 rfl ?_
    refine G_i2l hX dX6_meets_24 rfl ?_
    refine G_iload_n hX dX6_meets_25 rfl rfl ?_
    refine G_i2l hX dX6_meets_26 rfl ?_
    refine G_iload_n hX dX6_meets_27 rfl rfl ?_
    refine G_i2l hX dX6_meets_28 rfl ?_
    refine G_fSi hX dX6_meets_29 ls_RX6_62 (sp_X6_in Γ ρ d ((g_1 24 ((z_1 25)).toNatClampNeg)).toInt64 (a1).toInt64 (a2).toInt64 z_1 g_1) (by omega) rfl rfl (Nat.le_of_ble_eq_true rfl) rfl ?_
    refine G_if_eq (tg := 39) hX dX6_meets_32 (by decide) rfl (fun (h_32 : (R_X6_in ((g_1 24 ((z_1 25)).toNatClampNeg)).toInt64 (a1).toInt64 (a2).toInt64) = 0) => ?_) (fun (h_32 : ¬ ((R_X6_in ((g_1 24 ((z_1 25)).toNatClampNeg)).toInt64 (a1).toInt64 (a2).toInt64) = 0)) => ?_)
    · rw [if_pos h_32] at hR
      replace hok := hok.1 h_32
      exact nr_sub (by exact ⟨rfl, trivial⟩) (sp_X6_meets_39 Γ ρ d X hX z_1 g_1 R0 hR hok)
    · rw [if_neg h_32] at hR
      replace hok := hok.2 h_32
      refine G_iconst (v := (1 : Int32)) hX dX6_meets_35 (by decide) rfl ?_
      refine G_goto (tg := 40) hX dX6_meets_36 (by decide) ?_
      exact nr_sub (by exact ⟨rfl, trivial⟩) (sp_X6_meets_40 Γ ρ d X hX (1 : Int32) z_1 g_1 R0 hR hok)
def R_X6_opens (a0 : Int32) : Int32 := (if (R_X6_in (a0).toInt64 (48 : Int64) (55 : Int64)) = 0 then (if a0 = (40 : Int32) then (1 : Int32) else (if a0 = (91 : Int32) then (1 : Int32) else (if a0 = (60 : Int32) then (1 : Int32) else (if a0 = (120 : Int32) then (1 : Int32) else (0 : Int32))))) else (1 : Int32))
set_option maxHeartbeats 4000000 in
set_option maxRecDepth 100000 in
theorem sp_X6_opens (Γ : nr_M) (ρ : Nat → Nat) (d : Nat) (a0 : Int32) (z : Nat → Int32) (g : Nat → Nat → Int32) : nr_Si Γ ρ (d + 1) yX6_opens cX6_opens 1 (some .boolean) [.int a0] z g (fun x u => x = (R_X6_opens a0) ∧ u = (z, g)) := by
  refine nr_body_i (lv := [(0, .int a0)]) (by decide +kernel) (Nat.le_of_ble_eq_true rfl) rfl (fun X hX => ?_)
  generalize hR : (R_X6_opens a0) = R0
  rw [R_X6_opens] at hR
  refine G_iload_n hX dX6_opens_0 rfl rfl ?_
  refine G_i2l hX dX6_opens_1 rfl ?_
  refine G_ldc2 (v := (48 : Int64)) hX dX6_opens_2 wk_RX6_119 rfl ?_
  refine G_ldc2 (v := (55 : Int64)) hX dX6_opens_5 wk_RX6_121 rfl ?_
  refine G_fSi hX dX6_opens_8 ls_RX6_62 (sp_X6_in Γ ρ d (a0).toInt64 (48 : Int64) (55 : Int64) z g) (by omega) rfl rfl (Nat.le_of_ble_eq_true rfl) rfl ?_
  refine G_if_ne (tg := 38) hX dX6_opens_11 (by decide) rfl (fun (h_11 : ¬ ((R_X6_in (a0).toInt64 (48 : Int64) (55 : Int64)) = 0)) => ?_) (fun (h_11 : (R_X6_in (a0).toInt64 (48 : Int64) (55 : Int64)) = 0) => ?_)
  · rw [if_neg h_11] at hR
    refine G_iconst (v := (1 : Int32)) hX dX6_opens_38 (by decide) rfl ?_
    refine G_goto (tg := 43) hX dX6_opens_39 (by decide) ?_
    exact G_iret hX rfl dX6_opens_43 rfl ⟨hR, rfl⟩
  · rw [if_pos h_11] at hR
    refine G_iload_n hX dX6_opens_14 rfl rfl ?_
    refine G_bipush (v := (40 : Int32)) hX dX6_opens_15 (by decide) rfl ?_
    refine G_icmp_eq (tg := 38) hX dX6_opens_17 (by decide) rfl (fun (h_17 : a0 = (40 : Int32)) => ?_) (fun (h_17 : ¬ (a0 = (40 : Int32))) => ?_)
    · rw [if_pos h_17] at hR
      refine G_iconst (v := (1 : Int32)) hX dX6_opens_38 (by decide) rfl ?_
      refine G_goto (tg := 43) hX dX6_opens_39 (by decide) ?_
      exact G_iret hX rfl dX6_opens_43 rfl ⟨hR, rfl⟩
    · rw [if_neg h_17] at hR
      refine G_iload_n hX dX6_opens_20 rfl rfl ?_
      refine G_bipush (v := (91 : Int32)) hX dX6_opens_21 (by decide) rfl ?_
      refine G_icmp_eq (tg := 38) hX dX6_opens_23 (by decide) rfl (fun (h_23 : a0 = (91 : Int32)) => ?_) (fun (h_23 : ¬ (a0 = (91 : Int32))) => ?_)
      · rw [if_pos h_23] at hR
        refine G_iconst (v := (1 : Int32)) hX dX6_opens_38 (by decide) rfl ?_
        refine G_goto (tg := 43) hX dX6_opens_39 (by decide) ?_
        exact G_iret hX rfl dX6_opens_43 rfl ⟨hR, rfl⟩
      · rw [if_neg h_23] at hR
        refine G_iload_n hX dX6_opens_26 rfl rfl ?_
        refine G_bipush (v := (60 : Int32)) hX dX6_opens_27 (by decide) rfl ?_
        refine G_icmp_eq (tg := 38) hX dX6_opens_29 (by decide) rfl (fun (h_29 : a0 = (60 : Int32)) => ?_) (fun (h_29 : ¬ (a0 = (60 : Int32))) => ?_)
        · rw [if_pos h_29] at hR
          refine G_iconst (v := (1 : Int32)) hX dX6_opens_38 (by decide) rfl ?_
          refine G_goto (tg := 43) hX dX6_opens_39 (by decide) ?_
          exact G_iret hX rfl dX6_opens_43 rfl ⟨hR, rfl⟩
        · rw [if_neg h_29] at hR
          refine G_iload_n hX dX6_opens_32 rfl rfl ?_
          refine G_bipush (v := (120 : Int32)) hX dX6_opens_33 (by decide) rfl ?_
          refine G_icmp_ne (tg := 42) hX dX6_opens_35 (by decide) rfl (fun (h_35 : ¬ (a0 = (120 : Int32))) => ?_) (fun (h_35 : a0 = (120 : Int32)) => ?_)
          · rw [if_neg h_35] at hR
            refine G_iconst (v := (0 : Int32)) hX dX6_opens_42 (by decide) rfl ?_
            exact G_iret hX rfl dX6_opens_43 rfl ⟨hR, rfl⟩
          · rw [if_pos h_35] at hR
            refine G_iconst (v := (1 : Int32)) hX dX6_opens_38 (by decide) rfl ?_
            refine G_goto (tg := 43) hX dX6_opens_39 (by decide) ?_
            exact G_iret hX rfl dX6_opens_43 rfl ⟨hR, rfl⟩
theorem nb_X6_opens (a0 : Int32) : narrow .boolean (.int (R_X6_opens a0)) = .int (R_X6_opens a0) := by
  unfold R_X6_opens; repeat' split
  all_goals first | rfl | exact nb_X5_within _ _ _ | exact nb_X6_in _ _ _ | exact nb_X3_isRoomSign _ | exact nb_X3_holdsActs _
def T_X6_reads_476 (kT_26 : Int32 → (Nat → Int32) → (Nat → Nat → Int32) → Int32 × nr_S) (a1 : Int32) (z : Nat → Int32) (g : Nat → Nat → Int32) : Int32 × nr_S := (nr_K (T_X6_skip z g) (fun r_477 z_477 g_477 => (kT_26 a1 z_477 g_477)))
def O_X6_reads_476 (kT_26 : Int32 → (Nat → Int32) → (Nat → Nat → Int32) → Int32 × nr_S) (kO_26 : Int32 → (Nat → Int32) → (Nat → Nat → Int32) → Prop) (a1 : Int32) (z : Nat → Int32) (g : Nat → Nat → Int32) : Prop := ((O_X6_skip z g ∧ nr_KP (T_X6_skip z g) (fun r_477 z_477 g_477 => (kO_26 a1 z_477 g_477))))
set_option maxHeartbeats 4000000 in
set_option maxRecDepth 100000 in
theorem sp_X6_reads_476 (Γ : nr_M) (ρ : Nat → Nat) (d : Nat) (kT_26 : Int32 → (Nat → Int32) → (Nat → Nat → Int32) → Int32 × nr_S) (kO_26 : Int32 → (Nat → Int32) → (Nat → Nat → Int32) → Prop) (X : nr_CX) (hX : nr_Cx Γ ρ X yX6_reads cX6_reads 6 (some .int) (d + 2)) (hk_26 : ∀ (a1 : Int32) (z : Nat → Int32) (g : Nat → Nat → Int32) (R0 : Int32 × nr_S) (_ : kT_26 a1 z g = R0) (_ : kO_26 a1 z g), nr_G Γ ρ X 6 (nr_Qi Γ ρ X (fun x u => R0 = (x, u))) 26 [(0, .ref (ρ 20)), (1, .int a1)] [] z g) (a1 : Int32) (z : Nat → Int32) (g : Nat → Nat → Int32) (R0 : Int32 × nr_S) (hR : T_X6_reads_476 kT_26 a1 z g = R0) (hok : O_X6_reads_476 kT_26 kO_26 a1 z g) : nr_G Γ ρ X 6 (nr_Qi Γ ρ X (fun x u => R0 = (x, u))) 476 [(0, .ref (ρ 20)), (1, .int a1)] [] z g := by
  rw [T_X6_reads_476] at hR
  rw [O_X6_reads_476] at hok
  refine G_aload_n hX dX6_reads_476 rfl rfl ?_
  obtain ⟨ho_477, hok⟩ := hok
  refine G_cVv hX dX6_reads_477 lv_RX6_116 (sp_X6_skip Γ ρ d z g ho_477) (by omega) nr_is_20 rfl rfl (Nat.le_of_ble_eq_true rfl) rfl (fun u_477 e_477 => ?_)
  obtain ⟨z_477, g_477⟩ := u_477
  rw [e_477, nr_K_mk] at hR
  rw [e_477, nr_KP_mk] at hok
  refine G_goto (tg := 26) hX dX6_reads_480 (by decide) ?_
  exact nr_sub (by exact ⟨rfl, rfl, trivial⟩) (hk_26 a1 z_477 g_477 R0 hR hok)
def T_X6_reads_304 (kT_26 : Int32 → (Nat → Int32) → (Nat → Nat → Int32) → Int32 × nr_S) (a1 : Int32) (z : Nat → Int32) (g : Nat → Nat → Int32) : Int32 × nr_S := (T_X6_reads_476 kT_26 a1 (va_up (va_up z 25 ((z 25) + (1 : Int32))) 22 ((z 22) + (1 : Int32))) g)
def O_X6_reads_304 (kT_26 : Int32 → (Nat → Int32) → (Nat → Nat → Int32) → Int32 × nr_S) (kO_26 : Int32 → (Nat → Int32) → (Nat → Nat → Int32) → Prop) (a1 : Int32) (z : Nat → Int32) (g : Nat → Nat → Int32) : Prop := (O_X6_reads_476 kT_26 kO_26 a1 (va_up (va_up z 25 ((z 25) + (1 : Int32))) 22 ((z 22) + (1 : Int32))) g)
set_option maxHeartbeats 4000000 in
set_option maxRecDepth 100000 in
theorem sp_X6_reads_304 (Γ : nr_M) (ρ : Nat → Nat) (d : Nat) (kT_26 : Int32 → (Nat → Int32) → (Nat → Nat → Int32) → Int32 × nr_S) (kO_26 : Int32 → (Nat → Int32) → (Nat → Nat → Int32) → Prop) (X : nr_CX) (hX : nr_Cx Γ ρ X yX6_reads cX6_reads 6 (some .int) (d + 2)) (hk_26 : ∀ (a1 : Int32) (z : Nat → Int32) (g : Nat → Nat → Int32) (R0 : Int32 × nr_S) (_ : kT_26 a1 z g = R0) (_ : kO_26 a1 z g), nr_G Γ ρ X 6 (nr_Qi Γ ρ X (fun x u => R0 = (x, u))) 26 [(0, .ref (ρ 20)), (1, .int a1)] [] z g) (a1 : Int32) (z : Nat → Int32) (g : Nat → Nat → Int32) (R0 : Int32 × nr_S) (hR : T_X6_reads_304 kT_26 a1 z g = R0) (hok : O_X6_reads_304 kT_26 kO_26 a1 z g) : nr_G Γ ρ X 6 (nr_Qi Γ ρ X (fun x u => R0 = (x, u))) 304 [(0, .ref (ρ 20)), (1, .int a1)] [] z g := by
  rw [T_X6_reads_304] at hR
  rw [O_X6_reads_304] at hok
  refine G_aload_n hX dX6_reads_304 rfl rfl ?_
  refine G_dup hX dX6_reads_305 rfl rfl ?_
  refine G_geti hX dX6_reads_306 gt_RX6_113 rfl ?_
  refine G_iconst (v := (1 : Int32)) hX dX6_reads_309 (by decide) rfl ?_
  refine G_iadd hX dX6_reads_310 rfl ?_
  refine G_put hX dX6_reads_311 pt_RX6_113 rfl rfl rfl ?_
  refine G_aload_n hX dX6_reads_314 rfl rfl ?_
  refine G_dup hX dX6_reads_315 rfl rfl ?_
  refine G_geti hX dX6_reads_316 gt_RX6_123 rfl ?_
  refine G_iconst (v := (1 : Int32)) hX dX6_reads_319 (by decide) rfl ?_
  refine G_iadd hX dX6_reads_320 rfl ?_
  refine G_put hX dX6_reads_321 pt_RX6_123 rfl rfl rfl ?_
  refine G_goto (tg := 476) hX dX6_reads_324 (by decide) ?_
  exact nr_sub (by exact ⟨rfl, rfl, trivial⟩) (sp_X6_reads_476 Γ ρ d kT_26 kO_26 X hX hk_26 a1 (va_up (va_up z 25 ((z 25) + (1 : Int32))) 22 ((z 22) + (1 : Int32))) g R0 hR hok)
def T_X6_reads_450 (kT_26 : Int32 → (Nat → Int32) → (Nat → Nat → Int32) → Int32 × nr_S) (a1 : Int32) (a2 : Int32) (a4 : Int32) (z : Nat → Int32) (g : Nat → Nat → Int32) : Int32 × nr_S := (T_X6_reads_476 kT_26 (a1 + (-1 : Int32)) (va_up z 25 ((z 25) + (1 : Int32))) (nr_st g 25 a4 a2))
def O_X6_reads_450 (kT_26 : Int32 → (Nat → Int32) → (Nat → Nat → Int32) → Int32 × nr_S) (kO_26 : Int32 → (Nat → Int32) → (Nat → Nat → Int32) → Prop) (a1 : Int32) (a2 : Int32) (a4 : Int32) (z : Nat → Int32) (g : Nat → Nat → Int32) : Prop := (vp_in a4 100 ∧ (O_X6_reads_476 kT_26 kO_26 (a1 + (-1 : Int32)) (va_up z 25 ((z 25) + (1 : Int32))) (nr_st g 25 a4 a2)))
set_option maxHeartbeats 4000000 in
set_option maxRecDepth 100000 in
theorem sp_X6_reads_450 (Γ : nr_M) (ρ : Nat → Nat) (d : Nat) (kT_26 : Int32 → (Nat → Int32) → (Nat → Nat → Int32) → Int32 × nr_S) (kO_26 : Int32 → (Nat → Int32) → (Nat → Nat → Int32) → Prop) (X : nr_CX) (hX : nr_Cx Γ ρ X yX6_reads cX6_reads 6 (some .int) (d + 2)) (hk_26 : ∀ (a1 : Int32) (z : Nat → Int32) (g : Nat → Nat → Int32) (R0 : Int32 × nr_S) (_ : kT_26 a1 z g = R0) (_ : kO_26 a1 z g), nr_G Γ ρ X 6 (nr_Qi Γ ρ X (fun x u => R0 = (x, u))) 26 [(0, .ref (ρ 20)), (1, .int a1)] [] z g) (a1 : Int32) (a2 : Int32) (a4 : Int32) (z : Nat → Int32) (g : Nat → Nat → Int32) (R0 : Int32 × nr_S) (hR : T_X6_reads_450 kT_26 a1 a2 a4 z g = R0) (hok : O_X6_reads_450 kT_26 kO_26 a1 a2 a4 z g) : nr_G Γ ρ X 6 (nr_Qi Γ ρ X (fun x u => R0 = (x, u))) 450 [(0, .ref (ρ 20)), (1, .int a1), (2, .int a2), (4, .int a4)] [] z g := by
  rw [T_X6_reads_450] at hR
  rw [O_X6_reads_450] at hok
  refine G_aload_n hX dX6_reads_450 rfl rfl ?_
  refine G_getr hX dX6_reads_451 gt_RX6_22 rfl ?_
  refine G_iload hX dX6_reads_454 rfl rfl ?_
  refine G_iload_n hX dX6_reads_456 rfl rfl ?_
  obtain ⟨hi_457, hok⟩ := hok
  refine G_ist hX dX6_reads_457 (rfl : nr_il 25 = 100) (by decide) hi_457 rfl ?_
  refine G_iinc (v := (a1 + (-1 : Int32))) hX dX6_reads_458 rfl rfl (by decide) rfl rfl ?_
  refine G_aload_n hX dX6_reads_461 rfl rfl ?_
  refine G_dup hX dX6_reads_462 rfl rfl ?_
  refine G_geti hX dX6_reads_463 gt_RX6_113 rfl ?_
  refine G_iconst (v := (1 : Int32)) hX dX6_reads_466 (by decide) rfl ?_
  refine G_iadd hX dX6_reads_467 rfl ?_
  refine G_put hX dX6_reads_468 pt_RX6_113 rfl rfl rfl ?_
  refine G_goto (tg := 476) hX dX6_reads_471 (by decide) ?_
  exact nr_sub (by exact ⟨rfl, rfl, trivial⟩) (sp_X6_reads_476 Γ ρ d kT_26 kO_26 X hX hk_26 (a1 + (-1 : Int32)) (va_up z 25 ((z 25) + (1 : Int32))) (nr_st g 25 a4 a2) R0 hR hok)
def T_X6_reads_439 (kT_26 : Int32 → (Nat → Int32) → (Nat → Nat → Int32) → Int32 × nr_S) (a1 : Int32) (a2 : Int32) (a4 : Int32) (z : Nat → Int32) (g : Nat → Nat → Int32) : Int32 × nr_S := (if (g 26 (a4).toNatClampNeg) = (-1 : Int32) then (a2, z, g) else (T_X6_reads_450 kT_26 a1 a2 a4 z g))
def O_X6_reads_439 (kT_26 : Int32 → (Nat → Int32) → (Nat → Nat → Int32) → Int32 × nr_S) (kO_26 : Int32 → (Nat → Int32) → (Nat → Nat → Int32) → Prop) (a1 : Int32) (a2 : Int32) (a4 : Int32) (z : Nat → Int32) (g : Nat → Nat → Int32) : Prop := (vp_in a4 100 ∧ (((g 26 (a4).toNatClampNeg) = (-1 : Int32) → True) ∧ (¬ ((g 26 (a4).toNatClampNeg) = (-1 : Int32)) → (O_X6_reads_450 kT_26 kO_26 a1 a2 a4 z g))))
set_option maxHeartbeats 4000000 in
set_option maxRecDepth 100000 in
theorem sp_X6_reads_439 (Γ : nr_M) (ρ : Nat → Nat) (d : Nat) (kT_26 : Int32 → (Nat → Int32) → (Nat → Nat → Int32) → Int32 × nr_S) (kO_26 : Int32 → (Nat → Int32) → (Nat → Nat → Int32) → Prop) (X : nr_CX) (hX : nr_Cx Γ ρ X yX6_reads cX6_reads 6 (some .int) (d + 2)) (hk_26 : ∀ (a1 : Int32) (z : Nat → Int32) (g : Nat → Nat → Int32) (R0 : Int32 × nr_S) (_ : kT_26 a1 z g = R0) (_ : kO_26 a1 z g), nr_G Γ ρ X 6 (nr_Qi Γ ρ X (fun x u => R0 = (x, u))) 26 [(0, .ref (ρ 20)), (1, .int a1)] [] z g) (a1 : Int32) (a2 : Int32) (a4 : Int32) (z : Nat → Int32) (g : Nat → Nat → Int32) (R0 : Int32 × nr_S) (hR : T_X6_reads_439 kT_26 a1 a2 a4 z g = R0) (hok : O_X6_reads_439 kT_26 kO_26 a1 a2 a4 z g) : nr_G Γ ρ X 6 (nr_Qi Γ ρ X (fun x u => R0 = (x, u))) 439 [(0, .ref (ρ 20)), (1, .int a1), (2, .int a2), (4, .int a4)] [] z g := by
  rw [T_X6_reads_439] at hR
  rw [O_X6_reads_439] at hok
  refine G_aload_n hX dX6_reads_439 rfl rfl ?_
  refine G_getr hX dX6_reads_440 gt_RX6_25 rfl ?_
  refine G_iload hX dX6_reads_443 rfl rfl ?_
  obtain ⟨hi_445, hok⟩ := hok
  refine G_iald hX dX6_reads_445 (rfl : nr_il 26 = 100) (by decide) hi_445 rfl ?_
  refine G_iconst (v := (-1 : Int32)) hX dX6_reads_446 (by decide) rfl ?_
  refine G_icmp_eq (tg := 474) hX dX6_reads_447 (by decide) rfl (fun (h_447 : (g 26 (a4).toNatClampNeg) = (-1 : Int32)) => ?_) (fun (h_447 : ¬ ((g 26 (a4).toNatClampNeg) = (-1 : Int32))) => ?_)
  · rw [if_pos h_447] at hR
    replace hok := hok.1 h_447
    refine G_iload_n hX dX6_reads_474 rfl rfl ?_
    exact G_iret hX rfl dX6_reads_475 rfl hR.symm
  · rw [if_neg h_447] at hR
    replace hok := hok.2 h_447
    exact nr_sub (by exact ⟨rfl, rfl, rfl, rfl, trivial⟩) (sp_X6_reads_450 Γ ρ d kT_26 kO_26 X hX hk_26 a1 a2 a4 z g R0 hR hok)
def T_X6_reads_395 (kT_26 : Int32 → (Nat → Int32) → (Nat → Nat → Int32) → Int32 × nr_S) (a1 : Int32) (a2 : Int32) (a3 : Int32) (a4 : Int32) (z : Nat → Int32) (g : Nat → Nat → Int32) : Int32 × nr_S := (if a4 = (-1 : Int32) then (a2, z, g) else (if a3 = (R_X6_endsBy (g 24 (a4).toNatClampNeg)) then (if (g 24 (a4).toNatClampNeg) = (40 : Int32) then (T_X6_reads_439 kT_26 a1 a2 a4 z g) else (if (g 24 (a4).toNatClampNeg) = (91 : Int32) then (T_X6_reads_439 kT_26 a1 a2 a4 z g) else (T_X6_reads_450 kT_26 a1 a2 a4 z g))) else (a2, z, g)))
def O_X6_reads_395 (kT_26 : Int32 → (Nat → Int32) → (Nat → Nat → Int32) → Int32 × nr_S) (kO_26 : Int32 → (Nat → Int32) → (Nat → Nat → Int32) → Prop) (a1 : Int32) (a2 : Int32) (a3 : Int32) (a4 : Int32) (z : Nat → Int32) (g : Nat → Nat → Int32) : Prop := ((a4 = (-1 : Int32) → True) ∧ (¬ (a4 = (-1 : Int32)) → (vp_in a4 100 ∧ ((a3 = (R_X6_endsBy (g 24 (a4).toNatClampNeg)) → (vp_in a4 100 ∧ (((g 24 (a4).toNatClampNeg) = (40 : Int32) → (O_X6_reads_439 kT_26 kO_26 a1 a2 a4 z g)) ∧ (¬ ((g 24 (a4).toNatClampNeg) = (40 : Int32)) → (vp_in a4 100 ∧ (((g 24 (a4).toNatClampNeg) = (91 : Int32) → (O_X6_reads_439 kT_26 kO_26 a1 a2 a4 z g)) ∧ (¬ ((g 24 (a4).toNatClampNeg) = (91 : Int32)) → (O_X6_reads_450 kT_26 kO_26 a1 a2 a4 z g)))))))) ∧ (¬ (a3 = (R_X6_endsBy (g 24 (a4).toNatClampNeg))) → True)))))
set_option maxHeartbeats 4000000 in
set_option maxRecDepth 100000 in
theorem sp_X6_reads_395 (Γ : nr_M) (ρ : Nat → Nat) (d : Nat) (kT_26 : Int32 → (Nat → Int32) → (Nat → Nat → Int32) → Int32 × nr_S) (kO_26 : Int32 → (Nat → Int32) → (Nat → Nat → Int32) → Prop) (X : nr_CX) (hX : nr_Cx Γ ρ X yX6_reads cX6_reads 6 (some .int) (d + 2)) (hk_26 : ∀ (a1 : Int32) (z : Nat → Int32) (g : Nat → Nat → Int32) (R0 : Int32 × nr_S) (_ : kT_26 a1 z g = R0) (_ : kO_26 a1 z g), nr_G Γ ρ X 6 (nr_Qi Γ ρ X (fun x u => R0 = (x, u))) 26 [(0, .ref (ρ 20)), (1, .int a1)] [] z g) (a1 : Int32) (a2 : Int32) (a3 : Int32) (a4 : Int32) (z : Nat → Int32) (g : Nat → Nat → Int32) (R0 : Int32 × nr_S) (hR : T_X6_reads_395 kT_26 a1 a2 a3 a4 z g = R0) (hok : O_X6_reads_395 kT_26 kO_26 a1 a2 a3 a4 z g) : nr_G Γ ρ X 6 (nr_Qi Γ ρ X (fun x u => R0 = (x, u))) 395 [(0, .ref (ρ 20)), (1, .int a1), (2, .int a2), (3, .int a3), (4, .int a4)] [] z g := by
  rw [T_X6_reads_395] at hR
  rw [O_X6_reads_395] at hok
  refine G_iload hX dX6_reads_395 rfl rfl ?_
  refine G_iconst (v := (-1 : Int32)) hX dX6_reads_397 (by decide) rfl ?_
  refine G_icmp_eq (tg := 474) hX dX6_reads_398 (by decide) rfl (fun (h_398 : a4 = (-1 : Int32)) => ?_) (fun (h_398 : ¬ (a4 = (-1 : Int32))) => ?_)
  · rw [if_pos h_398] at hR
    replace hok := hok.1 h_398
    refine G_iload_n hX dX6_reads_474 rfl rfl ?_
    exact G_iret hX rfl dX6_reads_475 rfl hR.symm
  · rw [if_neg h_398] at hR
    replace hok := hok.2 h_398
    refine G_iload_n hX dX6_reads_401 rfl rfl ?_
    refine G_aload_n hX dX6_reads_402 rfl rfl ?_
    refine G_getr hX dX6_reads_403 gt_RX6_19 rfl ?_
    refine G_iload hX dX6_reads_406 rfl rfl ?_
    obtain ⟨hi_408, hok⟩ := hok
    refine G_iald hX dX6_reads_408 (rfl : nr_il 24 = 100) (by decide) hi_408 rfl ?_
    refine G_fSi hX dX6_reads_409 ls_RX6_139 (sp_X6_endsBy Γ ρ d (g 24 (a4).toNatClampNeg) z g) (by omega) rfl rfl (Nat.le_of_ble_eq_true rfl) rfl ?_
    refine G_icmp_ne (tg := 474) hX dX6_reads_412 (by decide) rfl (fun (h_412 : ¬ (a3 = (R_X6_endsBy (g 24 (a4).toNatClampNeg)))) => ?_) (fun (h_412 : a3 = (R_X6_endsBy (g 24 (a4).toNatClampNeg))) => ?_)
    · rw [if_neg h_412] at hR
      replace hok := hok.2 h_412
      refine G_iload_n hX dX6_reads_474 rfl rfl ?_
      exact G_iret hX rfl dX6_reads_475 rfl hR.symm
    · rw [if_pos h_412] at hR
      replace hok := hok.1 h_412
      refine G_aload_n hX dX6_reads_415 rfl rfl ?_
      refine G_getr hX dX6_reads_416 gt_RX6_19 rfl ?_
      refine G_iload hX dX6_reads_419 rfl rfl ?_
      obtain ⟨hi_421, hok⟩ := hok
      refine G_iald hX dX6_reads_421 (rfl : nr_il 24 = 100) (by decide) hi_421 rfl ?_
      refine G_bipush (v := (40 : Int32)) hX dX6_reads_422 (by decide) rfl ?_
      refine G_icmp_eq (tg := 439) hX dX6_reads_424 (by decide) rfl (fun (h_424 : (g 24 (a4).toNatClampNeg) = (40 : Int32)) => ?_) (fun (h_424 : ¬ ((g 24 (a4).toNatClampNeg) = (40 : Int32))) => ?_)
      · rw [if_pos h_424] at hR
        replace hok := hok.1 h_424
        exact nr_sub (by exact ⟨rfl, rfl, rfl, rfl, trivial⟩) (sp_X6_reads_439 Γ ρ d kT_26 kO_26 X hX hk_26 a1 a2 a4 z g R0 hR hok)
      · rw [if_neg h_424] at hR
        replace hok := hok.2 h_424
        refine G_aload_n hX dX6_reads_427 rfl rfl ?_
        refine G_getr hX dX6_reads_428 gt_RX6_19 rfl ?_
        refine G_iload hX dX6_reads_431 rfl rfl ?_
        obtain ⟨hi_433, hok⟩ := hok
        refine G_iald hX dX6_reads_433 (rfl : nr_il 24 = 100) (by decide) hi_433 rfl ?_
        refine G_bipush (v := (91 : Int32)) hX dX6_reads_434 (by decide) rfl ?_
        refine G_icmp_ne (tg := 450) hX dX6_reads_436 (by decide) rfl (fun (h_436 : ¬ ((g 24 (a4).toNatClampNeg) = (91 : Int32))) => ?_) (fun (h_436 : (g 24 (a4).toNatClampNeg) = (91 : Int32)) => ?_)
        · rw [if_neg h_436] at hR
          replace hok := hok.2 h_436
          exact nr_sub (by exact ⟨rfl, rfl, rfl, rfl, trivial⟩) (sp_X6_reads_450 Γ ρ d kT_26 kO_26 X hX hk_26 a1 a2 a4 z g R0 hR hok)
        · rw [if_pos h_436] at hR
          replace hok := hok.1 h_436
          exact nr_sub (by exact ⟨rfl, rfl, rfl, rfl, trivial⟩) (sp_X6_reads_439 Γ ρ d kT_26 kO_26 X hX hk_26 a1 a2 a4 z g R0 hR hok)
def T_X6_reads_363 (kT_26 : Int32 → (Nat → Int32) → (Nat → Nat → Int32) → Int32 × nr_S) (a1 : Int32) (a2 : Int32) (a3 : Int32) (a4 : Int32) (z : Nat → Int32) (g : Nat → Nat → Int32) : Int32 × nr_S := (if (g 26 (a4).toNatClampNeg) = (-1 : Int32) then (T_X6_reads_476 kT_26 a1 (va_up z 25 ((z 25) + (1 : Int32))) (nr_st g 26 a4 a2)) else (T_X6_reads_395 kT_26 a1 a2 a3 a4 z g))
def O_X6_reads_363 (kT_26 : Int32 → (Nat → Int32) → (Nat → Nat → Int32) → Int32 × nr_S) (kO_26 : Int32 → (Nat → Int32) → (Nat → Nat → Int32) → Prop) (a1 : Int32) (a2 : Int32) (a3 : Int32) (a4 : Int32) (z : Nat → Int32) (g : Nat → Nat → Int32) : Prop := (vp_in a4 100 ∧ (((g 26 (a4).toNatClampNeg) = (-1 : Int32) → (vp_in a4 100 ∧ (O_X6_reads_476 kT_26 kO_26 a1 (va_up z 25 ((z 25) + (1 : Int32))) (nr_st g 26 a4 a2)))) ∧ (¬ ((g 26 (a4).toNatClampNeg) = (-1 : Int32)) → (O_X6_reads_395 kT_26 kO_26 a1 a2 a3 a4 z g))))
set_option maxHeartbeats 4000000 in
set_option maxRecDepth 100000 in
theorem sp_X6_reads_363 (Γ : nr_M) (ρ : Nat → Nat) (d : Nat) (kT_26 : Int32 → (Nat → Int32) → (Nat → Nat → Int32) → Int32 × nr_S) (kO_26 : Int32 → (Nat → Int32) → (Nat → Nat → Int32) → Prop) (X : nr_CX) (hX : nr_Cx Γ ρ X yX6_reads cX6_reads 6 (some .int) (d + 2)) (hk_26 : ∀ (a1 : Int32) (z : Nat → Int32) (g : Nat → Nat → Int32) (R0 : Int32 × nr_S) (_ : kT_26 a1 z g = R0) (_ : kO_26 a1 z g), nr_G Γ ρ X 6 (nr_Qi Γ ρ X (fun x u => R0 = (x, u))) 26 [(0, .ref (ρ 20)), (1, .int a1)] [] z g) (a1 : Int32) (a2 : Int32) (a3 : Int32) (a4 : Int32) (z : Nat → Int32) (g : Nat → Nat → Int32) (R0 : Int32 × nr_S) (hR : T_X6_reads_363 kT_26 a1 a2 a3 a4 z g = R0) (hok : O_X6_reads_363 kT_26 kO_26 a1 a2 a3 a4 z g) : nr_G Γ ρ X 6 (nr_Qi Γ ρ X (fun x u => R0 = (x, u))) 363 [(0, .ref (ρ 20)), (1, .int a1), (2, .int a2), (3, .int a3), (4, .int a4)] [] z g := by
  rw [T_X6_reads_363] at hR
  rw [O_X6_reads_363] at hok
  refine G_aload_n hX dX6_reads_363 rfl rfl ?_
  refine G_getr hX dX6_reads_364 gt_RX6_25 rfl ?_
  refine G_iload hX dX6_reads_367 rfl rfl ?_
  obtain ⟨hi_369, hok⟩ := hok
  refine G_iald hX dX6_reads_369 (rfl : nr_il 26 = 100) (by decide) hi_369 rfl ?_
  refine G_iconst (v := (-1 : Int32)) hX dX6_reads_370 (by decide) rfl ?_
  refine G_icmp_ne (tg := 395) hX dX6_reads_371 (by decide) rfl (fun (h_371 : ¬ ((g 26 (a4).toNatClampNeg) = (-1 : Int32))) => ?_) (fun (h_371 : (g 26 (a4).toNatClampNeg) = (-1 : Int32)) => ?_)
  · rw [if_neg h_371] at hR
    replace hok := hok.2 h_371
    exact nr_sub (by exact ⟨rfl, rfl, rfl, rfl, rfl, trivial⟩) (sp_X6_reads_395 Γ ρ d kT_26 kO_26 X hX hk_26 a1 a2 a3 a4 z g R0 hR hok)
  · rw [if_pos h_371] at hR
    replace hok := hok.1 h_371
    refine G_aload_n hX dX6_reads_374 rfl rfl ?_
    refine G_getr hX dX6_reads_375 gt_RX6_25 rfl ?_
    refine G_iload hX dX6_reads_378 rfl rfl ?_
    refine G_iload_n hX dX6_reads_380 rfl rfl ?_
    obtain ⟨hi_381, hok⟩ := hok
    refine G_ist hX dX6_reads_381 (rfl : nr_il 26 = 100) (by decide) hi_381 rfl ?_
    refine G_aload_n hX dX6_reads_382 rfl rfl ?_
    refine G_dup hX dX6_reads_383 rfl rfl ?_
    refine G_geti hX dX6_reads_384 gt_RX6_113 rfl ?_
    refine G_iconst (v := (1 : Int32)) hX dX6_reads_387 (by decide) rfl ?_
    refine G_iadd hX dX6_reads_388 rfl ?_
    refine G_put hX dX6_reads_389 pt_RX6_113 rfl rfl rfl ?_
    refine G_goto (tg := 476) hX dX6_reads_392 (by decide) ?_
    exact nr_sub (by exact ⟨rfl, rfl, trivial⟩) (sp_X6_reads_476 Γ ρ d kT_26 kO_26 X hX hk_26 a1 (va_up z 25 ((z 25) + (1 : Int32))) (nr_st g 26 a4 a2) R0 hR hok)
def T_X6_reads_216 (kT_26 : Int32 → (Nat → Int32) → (Nat → Nat → Int32) → Int32 × nr_S) (a1 : Int32) (s1 : Int32) (z : Nat → Int32) (g : Nat → Nat → Int32) : Int32 × nr_S := (T_X6_reads_476 kT_26 a1 (va_up (va_up z 23 s1) 22 ((z 22) + (1 : Int32))) g)
def O_X6_reads_216 (kT_26 : Int32 → (Nat → Int32) → (Nat → Nat → Int32) → Int32 × nr_S) (kO_26 : Int32 → (Nat → Int32) → (Nat → Nat → Int32) → Prop) (a1 : Int32) (s1 : Int32) (z : Nat → Int32) (g : Nat → Nat → Int32) : Prop := (O_X6_reads_476 kT_26 kO_26 a1 (va_up (va_up z 23 s1) 22 ((z 22) + (1 : Int32))) g)
set_option maxHeartbeats 4000000 in
set_option maxRecDepth 100000 in
theorem sp_X6_reads_216 (Γ : nr_M) (ρ : Nat → Nat) (d : Nat) (kT_26 : Int32 → (Nat → Int32) → (Nat → Nat → Int32) → Int32 × nr_S) (kO_26 : Int32 → (Nat → Int32) → (Nat → Nat → Int32) → Prop) (X : nr_CX) (hX : nr_Cx Γ ρ X yX6_reads cX6_reads 6 (some .int) (d + 2)) (hk_26 : ∀ (a1 : Int32) (z : Nat → Int32) (g : Nat → Nat → Int32) (R0 : Int32 × nr_S) (_ : kT_26 a1 z g = R0) (_ : kO_26 a1 z g), nr_G Γ ρ X 6 (nr_Qi Γ ρ X (fun x u => R0 = (x, u))) 26 [(0, .ref (ρ 20)), (1, .int a1)] [] z g) (a1 : Int32) (s1 : Int32) (z : Nat → Int32) (g : Nat → Nat → Int32) (R0 : Int32 × nr_S) (hR : T_X6_reads_216 kT_26 a1 s1 z g = R0) (hok : O_X6_reads_216 kT_26 kO_26 a1 s1 z g) : nr_G Γ ρ X 6 (nr_Qi Γ ρ X (fun x u => R0 = (x, u))) 216 [(0, .ref (ρ 20)), (1, .int a1)] [.int s1, .ref (ρ 20)] z g := by
  rw [T_X6_reads_216] at hR
  rw [O_X6_reads_216] at hok
  refine G_put hX dX6_reads_216 pt_RX6_126 rfl rfl rfl ?_
  refine G_aload_n hX dX6_reads_219 rfl rfl ?_
  refine G_dup hX dX6_reads_220 rfl rfl ?_
  refine G_geti hX dX6_reads_221 gt_RX6_123 rfl ?_
  refine G_iconst (v := (1 : Int32)) hX dX6_reads_224 (by decide) rfl ?_
  refine G_iadd hX dX6_reads_225 rfl ?_
  refine G_put hX dX6_reads_226 pt_RX6_123 rfl rfl rfl ?_
  refine G_goto (tg := 476) hX dX6_reads_229 (by decide) ?_
  exact nr_sub (by exact ⟨rfl, rfl, trivial⟩) (sp_X6_reads_476 Γ ρ d kT_26 kO_26 X hX hk_26 a1 (va_up (va_up z 23 s1) 22 ((z 22) + (1 : Int32))) g R0 hR hok)
def T_X6_reads_172 (kT_26 : Int32 → (Nat → Int32) → (Nat → Nat → Int32) → Int32 × nr_S) (a1 : Int32) (a2 : Int32) (a5 : Int32) (z : Nat → Int32) (g : Nat → Nat → Int32) : Int32 × nr_S := (if a5 = 0 then ((z 25), z, g) else (if (a1 + (1 : Int32)) ≤ (z 23) then (T_X6_reads_216 kT_26 (a1 + (1 : Int32)) (z 23) z (nr_st (nr_st g 27 a1 a2) 26 a2 (-1 : Int32))) else (T_X6_reads_216 kT_26 (a1 + (1 : Int32)) (a1 + (1 : Int32)) z (nr_st (nr_st g 27 a1 a2) 26 a2 (-1 : Int32)))))
def O_X6_reads_172 (kT_26 : Int32 → (Nat → Int32) → (Nat → Nat → Int32) → Int32 × nr_S) (kO_26 : Int32 → (Nat → Int32) → (Nat → Nat → Int32) → Prop) (a1 : Int32) (a2 : Int32) (a5 : Int32) (z : Nat → Int32) (g : Nat → Nat → Int32) : Prop := ((a5 = 0 → True) ∧ (¬ (a5 = 0) → (vp_in a1 9 ∧ (vp_in a2 100 ∧ (((a1 + (1 : Int32)) ≤ (z 23) → (O_X6_reads_216 kT_26 kO_26 (a1 + (1 : Int32)) (z 23) z (nr_st (nr_st g 27 a1 a2) 26 a2 (-1 : Int32)))) ∧ (¬ ((a1 + (1 : Int32)) ≤ (z 23)) → (O_X6_reads_216 kT_26 kO_26 (a1 + (1 : Int32)) (a1 + (1 : Int32)) z (nr_st (nr_st g 27 a1 a2) 26 a2 (-1 : Int32)))))))))
set_option maxHeartbeats 4000000 in
set_option maxRecDepth 100000 in
theorem sp_X6_reads_172 (Γ : nr_M) (ρ : Nat → Nat) (d : Nat) (kT_26 : Int32 → (Nat → Int32) → (Nat → Nat → Int32) → Int32 × nr_S) (kO_26 : Int32 → (Nat → Int32) → (Nat → Nat → Int32) → Prop) (X : nr_CX) (hX : nr_Cx Γ ρ X yX6_reads cX6_reads 6 (some .int) (d + 2)) (hk_26 : ∀ (a1 : Int32) (z : Nat → Int32) (g : Nat → Nat → Int32) (R0 : Int32 × nr_S) (_ : kT_26 a1 z g = R0) (_ : kO_26 a1 z g), nr_G Γ ρ X 6 (nr_Qi Γ ρ X (fun x u => R0 = (x, u))) 26 [(0, .ref (ρ 20)), (1, .int a1)] [] z g) (a1 : Int32) (a2 : Int32) (a5 : Int32) (z : Nat → Int32) (g : Nat → Nat → Int32) (R0 : Int32 × nr_S) (hR : T_X6_reads_172 kT_26 a1 a2 a5 z g = R0) (hok : O_X6_reads_172 kT_26 kO_26 a1 a2 a5 z g) : nr_G Γ ρ X 6 (nr_Qi Γ ρ X (fun x u => R0 = (x, u))) 172 [(0, .ref (ρ 20)), (1, .int a1), (2, .int a2), (5, .int a5)] [] z g := by
  rw [T_X6_reads_172] at hR
  rw [O_X6_reads_172] at hok
  refine G_iload hX dX6_reads_172 rfl rfl ?_
  refine G_if_ne (tg := 182) hX dX6_reads_174 (by decide) rfl (fun (h_174 : ¬ (a5 = 0)) => ?_) (fun (h_174 : a5 = 0) => ?_)
  · rw [if_neg h_174] at hR
    replace hok := hok.2 h_174
    refine G_aload_n hX dX6_reads_182 rfl rfl ?_
    refine G_getr hX dX6_reads_183 gt_RX6_28 rfl ?_
    refine G_iload_n hX dX6_reads_186 rfl rfl ?_
    refine G_iload_n hX dX6_reads_187 rfl rfl ?_
    obtain ⟨hi_188, hok⟩ := hok
    refine G_ist hX dX6_reads_188 (rfl : nr_il 27 = 9) (by decide) hi_188 rfl ?_
    refine G_aload_n hX dX6_reads_189 rfl rfl ?_
    refine G_getr hX dX6_reads_190 gt_RX6_25 rfl ?_
    refine G_iload_n hX dX6_reads_193 rfl rfl ?_
    refine G_iconst (v := (-1 : Int32)) hX dX6_reads_194 (by decide) rfl ?_
    obtain ⟨hi_195, hok⟩ := hok
    refine G_ist hX dX6_reads_195 (rfl : nr_il 26 = 100) (by decide) hi_195 rfl ?_
    refine G_iinc (v := (a1 + (1 : Int32))) hX dX6_reads_196 rfl rfl (by decide) rfl rfl ?_
    refine G_aload_n hX dX6_reads_199 rfl rfl ?_
    refine G_iload_n hX dX6_reads_200 rfl rfl ?_
    refine G_aload_n hX dX6_reads_201 rfl rfl ?_
    refine G_geti hX dX6_reads_202 gt_RX6_126 rfl ?_
    refine G_icmp_le (tg := 212) hX dX6_reads_205 (by decide) rfl (fun (h_205 : (a1 + (1 : Int32)) ≤ (z 23)) => ?_) (fun (h_205 : ¬ ((a1 + (1 : Int32)) ≤ (z 23))) => ?_)
    · rw [if_pos h_205] at hR
      replace hok := hok.1 h_205
      refine G_aload_n hX dX6_reads_212 rfl rfl ?_
      refine G_geti hX dX6_reads_213 gt_RX6_126 rfl ?_
      exact nr_sub (by exact ⟨rfl, rfl, trivial⟩) (sp_X6_reads_216 Γ ρ d kT_26 kO_26 X hX hk_26 (a1 + (1 : Int32)) (z 23) z (nr_st (nr_st g 27 a1 a2) 26 a2 (-1 : Int32)) R0 hR hok)
    · rw [if_neg h_205] at hR
      replace hok := hok.2 h_205
      refine G_iload_n hX dX6_reads_208 rfl rfl ?_
      refine G_goto (tg := 216) hX dX6_reads_209 (by decide) ?_
      exact nr_sub (by exact ⟨rfl, rfl, trivial⟩) (sp_X6_reads_216 Γ ρ d kT_26 kO_26 X hX hk_26 (a1 + (1 : Int32)) (a1 + (1 : Int32)) z (nr_st (nr_st g 27 a1 a2) 26 a2 (-1 : Int32)) R0 hR hok)
  · rw [if_pos h_174] at hR
    replace hok := hok.1 h_174
    refine G_aload_n hX dX6_reads_177 rfl rfl ?_
    refine G_geti hX dX6_reads_178 gt_RX6_113 rfl ?_
    exact G_iret hX rfl dX6_reads_181 rfl hR.symm
def T_X6_reads_170 (kT_26 : Int32 → (Nat → Int32) → (Nat → Nat → Int32) → Int32 × nr_S) (a1 : Int32) (a2 : Int32) (s0 : Int32) (z : Nat → Int32) (g : Nat → Nat → Int32) : Int32 × nr_S := (T_X6_reads_172 kT_26 a1 a2 s0 z g)
def O_X6_reads_170 (kT_26 : Int32 → (Nat → Int32) → (Nat → Nat → Int32) → Int32 × nr_S) (kO_26 : Int32 → (Nat → Int32) → (Nat → Nat → Int32) → Prop) (a1 : Int32) (a2 : Int32) (s0 : Int32) (z : Nat → Int32) (g : Nat → Nat → Int32) : Prop := (O_X6_reads_172 kT_26 kO_26 a1 a2 s0 z g)
set_option maxHeartbeats 4000000 in
set_option maxRecDepth 100000 in
theorem sp_X6_reads_170 (Γ : nr_M) (ρ : Nat → Nat) (d : Nat) (kT_26 : Int32 → (Nat → Int32) → (Nat → Nat → Int32) → Int32 × nr_S) (kO_26 : Int32 → (Nat → Int32) → (Nat → Nat → Int32) → Prop) (X : nr_CX) (hX : nr_Cx Γ ρ X yX6_reads cX6_reads 6 (some .int) (d + 2)) (hk_26 : ∀ (a1 : Int32) (z : Nat → Int32) (g : Nat → Nat → Int32) (R0 : Int32 × nr_S) (_ : kT_26 a1 z g = R0) (_ : kO_26 a1 z g), nr_G Γ ρ X 6 (nr_Qi Γ ρ X (fun x u => R0 = (x, u))) 26 [(0, .ref (ρ 20)), (1, .int a1)] [] z g) (a1 : Int32) (a2 : Int32) (s0 : Int32) (z : Nat → Int32) (g : Nat → Nat → Int32) (R0 : Int32 × nr_S) (hR : T_X6_reads_170 kT_26 a1 a2 s0 z g = R0) (hok : O_X6_reads_170 kT_26 kO_26 a1 a2 s0 z g) : nr_G Γ ρ X 6 (nr_Qi Γ ρ X (fun x u => R0 = (x, u))) 170 [(0, .ref (ρ 20)), (1, .int a1), (2, .int a2)] [.int s0] z g := by
  rw [T_X6_reads_170] at hR
  rw [O_X6_reads_170] at hok
  refine G_istore hX dX6_reads_170 (by decide) rfl rfl ?_
  exact nr_sub (by exact ⟨rfl, rfl, rfl, rfl, trivial⟩) (sp_X6_reads_172 Γ ρ d kT_26 kO_26 X hX hk_26 a1 a2 s0 z g R0 hR hok)
def T_X6_reads_169 (kT_26 : Int32 → (Nat → Int32) → (Nat → Nat → Int32) → Int32 × nr_S) (a1 : Int32) (a2 : Int32) (z : Nat → Int32) (g : Nat → Nat → Int32) : Int32 × nr_S := (T_X6_reads_170 kT_26 a1 a2 (0 : Int32) z g)
def O_X6_reads_169 (kT_26 : Int32 → (Nat → Int32) → (Nat → Nat → Int32) → Int32 × nr_S) (kO_26 : Int32 → (Nat → Int32) → (Nat → Nat → Int32) → Prop) (a1 : Int32) (a2 : Int32) (z : Nat → Int32) (g : Nat → Nat → Int32) : Prop := (O_X6_reads_170 kT_26 kO_26 a1 a2 (0 : Int32) z g)
set_option maxHeartbeats 4000000 in
set_option maxRecDepth 100000 in
theorem sp_X6_reads_169 (Γ : nr_M) (ρ : Nat → Nat) (d : Nat) (kT_26 : Int32 → (Nat → Int32) → (Nat → Nat → Int32) → Int32 × nr_S) (kO_26 : Int32 → (Nat → Int32) → (Nat → Nat → Int32) → Prop) (X : nr_CX) (hX : nr_Cx Γ ρ X yX6_reads cX6_reads 6 (some .int) (d + 2)) (hk_26 : ∀ (a1 : Int32) (z : Nat → Int32) (g : Nat → Nat → Int32) (R0 : Int32 × nr_S) (_ : kT_26 a1 z g = R0) (_ : kO_26 a1 z g), nr_G Γ ρ X 6 (nr_Qi Γ ρ X (fun x u => R0 = (x, u))) 26 [(0, .ref (ρ 20)), (1, .int a1)] [] z g) (a1 : Int32) (a2 : Int32) (z : Nat → Int32) (g : Nat → Nat → Int32) (R0 : Int32 × nr_S) (hR : T_X6_reads_169 kT_26 a1 a2 z g = R0) (hok : O_X6_reads_169 kT_26 kO_26 a1 a2 z g) : nr_G Γ ρ X 6 (nr_Qi Γ ρ X (fun x u => R0 = (x, u))) 169 [(0, .ref (ρ 20)), (1, .int a1), (2, .int a2)] [] z g := by
  rw [T_X6_reads_169] at hR
  rw [O_X6_reads_169] at hok
  refine G_iconst (v := (0 : Int32)) hX dX6_reads_169 (by decide) rfl ?_
  exact nr_sub (by exact ⟨rfl, rfl, rfl, trivial⟩) (sp_X6_reads_170 Γ ρ d kT_26 kO_26 X hX hk_26 a1 a2 (0 : Int32) z g R0 hR hok)
def T_X6_reads_65 (kT_26 : Int32 → (Nat → Int32) → (Nat → Nat → Int32) → Int32 × nr_S) (a1 : Int32) (a2 : Int32) (a3 : Int32) (s0 : Int32) (z : Nat → Int32) (g : Nat → Nat → Int32) : Int32 × nr_S := (if (R_X6_opens a3) = 0 then (if a3 = (33 : Int32) then (nr_K (T_X6_meets (48 : Int32) (57 : Int32) (va_up (va_up z 25 ((z 25) + (1 : Int32))) 22 ((z 22) + (1 : Int32))) g) (fun r_263 z_263 g_263 => (if r_263 = 0 then ((z_263 25), z_263, g_263) else (T_X6_reads_476 kT_26 a1 z_263 g_263)))) else (if a3 = (108 : Int32) then (T_X6_reads_304 kT_26 a1 z g) else (if a3 = (107 : Int32) then (T_X6_reads_304 kT_26 a1 z g) else (if a3 = (119 : Int32) then (T_X6_reads_304 kT_26 a1 z g) else (if a3 = (98 : Int32) then (T_X6_reads_304 kT_26 a1 z g) else (if a3 = (43 : Int32) then (T_X6_reads_304 kT_26 a1 z g) else (if s0 = (-1 : Int32) then (T_X6_reads_395 kT_26 a1 a2 a3 s0 z g) else (if a3 = (47 : Int32) then (if (g 24 (s0).toNatClampNeg) = (40 : Int32) then (T_X6_reads_363 kT_26 a1 a2 a3 s0 z g) else (if (g 24 (s0).toNatClampNeg) = (91 : Int32) then (T_X6_reads_363 kT_26 a1 a2 a3 s0 z g) else (T_X6_reads_395 kT_26 a1 a2 a3 s0 z g))) else (T_X6_reads_395 kT_26 a1 a2 a3 s0 z g))))))))) else (if a1 = (8 : Int32) then (a2, z, g) else (if (R_X6_in (a3).toInt64 (48 : Int64) (55 : Int64)) = 0 then (if a3 = (120 : Int32) then (nr_K (T_X6_meets (48 : Int32) (57 : Int32) (va_up z 25 ((z 25) + (1 : Int32))) g) (fun r_148 z_148 g_148 => (if r_148 = 0 then (T_X6_reads_169 kT_26 a1 a2 z_148 g_148) else (nr_K (T_X6_meets (58 : Int32) (58 : Int32) z_148 g_148) (fun r_159 z_159 g_159 => (if r_159 = 0 then (T_X6_reads_169 kT_26 a1 a2 z_159 g_159) else (T_X6_reads_170 kT_26 a1 a2 (1 : Int32) z_159 g_159))))))) else (T_X6_reads_172 kT_26 a1 a2 (1 : Int32) (va_up z 25 ((z 25) + (1 : Int32))) g)) else (nr_K (T_X6_meets (123 : Int32) (123 : Int32) (va_up z 25 ((z 25) + (1 : Int32))) g) (fun r_114 z_114 g_114 => (T_X6_reads_172 kT_26 a1 a2 r_114 (va_up z_114 24 ((z_114 24) ||| ((1 : Int32) <<< ((a3 - (48 : Int32)) &&& 31)))) g_114))))))
def O_X6_reads_65 (kT_26 : Int32 → (Nat → Int32) → (Nat → Nat → Int32) → Int32 × nr_S) (kO_26 : Int32 → (Nat → Int32) → (Nat → Nat → Int32) → Prop) (a1 : Int32) (a2 : Int32) (a3 : Int32) (s0 : Int32) (z : Nat → Int32) (g : Nat → Nat → Int32) : Prop := (((R_X6_opens a3) = 0 → ((a3 = (33 : Int32) → ((O_X6_meets (48 : Int32) (57 : Int32) (va_up (va_up z 25 ((z 25) + (1 : Int32))) 22 ((z 22) + (1 : Int32))) g ∧ nr_KP (T_X6_meets (48 : Int32) (57 : Int32) (va_up (va_up z 25 ((z 25) + (1 : Int32))) 22 ((z 22) + (1 : Int32))) g) (fun r_263 z_263 g_263 => ((r_263 = 0 → True) ∧ (¬ (r_263 = 0) → (O_X6_reads_476 kT_26 kO_26 a1 z_263 g_263))))))) ∧ (¬ (a3 = (33 : Int32)) → ((a3 = (108 : Int32) → (O_X6_reads_304 kT_26 kO_26 a1 z g)) ∧ (¬ (a3 = (108 : Int32)) → ((a3 = (107 : Int32) → (O_X6_reads_304 kT_26 kO_26 a1 z g)) ∧ (¬ (a3 = (107 : Int32)) → ((a3 = (119 : Int32) → (O_X6_reads_304 kT_26 kO_26 a1 z g)) ∧ (¬ (a3 = (119 : Int32)) → ((a3 = (98 : Int32) → (O_X6_reads_304 kT_26 kO_26 a1 z g)) ∧ (¬ (a3 = (98 : Int32)) → ((a3 = (43 : Int32) → (O_X6_reads_304 kT_26 kO_26 a1 z g)) ∧ (¬ (a3 = (43 : Int32)) → ((s0 = (-1 : Int32) → (O_X6_reads_395 kT_26 kO_26 a1 a2 a3 s0 z g)) ∧ (¬ (s0 = (-1 : Int32)) → ((a3 = (47 : Int32) → (vp_in s0 100 ∧ (((g 24 (s0).toNatClampNeg) = (40 : Int32) → (O_X6_reads_363 kT_26 kO_26 a1 a2 a3 s0 z g)) ∧ (¬ ((g 24 (s0).toNatClampNeg) = (40 : Int32)) → (vp_in s0 100 ∧ (((g 24 (s0).toNatClampNeg) = (91 : Int32) → (O_X6_reads_363 kT_26 kO_26 a1 a2 a3 s0 z g)) ∧ (¬ ((g 24 (s0).toNatClampNeg) = (91 : Int32)) → (O_X6_reads_395 kT_26 kO_26 a1 a2 a3 s0 z g)))))))) ∧ (¬ (a3 = (47 : Int32)) → (O_X6_reads_395 kT_26 kO_26 a1 a2 a3 s0 z g)))))))))))))))))) ∧ (¬ ((R_X6_opens a3) = 0) → ((a1 = (8 : Int32) → True) ∧ (¬ (a1 = (8 : Int32)) → (((R_X6_in (a3).toInt64 (48 : Int64) (55 : Int64)) = 0 → ((a3 = (120 : Int32) → ((O_X6_meets (48 : Int32) (57 : Int32) (va_up z 25 ((z 25) + (1 : Int32))) g ∧ nr_KP (T_X6_meets (48 : Int32) (57 : Int32) (va_up z 25 ((z 25) + (1 : Int32))) g) (fun r_148 z_148 g_148 => ((r_148 = 0 → (O_X6_reads_169 kT_26 kO_26 a1 a2 z_148 g_148)) ∧ (¬ (r_148 = 0) → ((O_X6_meets (58 : Int32) (58 : Int32) z_148 g_148 ∧ nr_KP (T_X6_meets (58 : Int32) (58 : Int32) z_148 g_148) (fun r_159 z_159 g_159 => ((r_159 = 0 → (O_X6_reads_169 kT_26 kO_26 a1 a2 z_159 g_159)) ∧ (¬ (r_159 = 0) → (O_X6_reads_170 kT_26 kO_26 a1 a2 (1 : Int32) z_159 g_159)))))))))))) ∧ (¬ (a3 = (120 : Int32)) → (O_X6_reads_172 kT_26 kO_26 a1 a2 (1 : Int32) (va_up z 25 ((z 25) + (1 : Int32))) g)))) ∧ (¬ ((R_X6_in (a3).toInt64 (48 : Int64) (55 : Int64)) = 0) → ((O_X6_meets (123 : Int32) (123 : Int32) (va_up z 25 ((z 25) + (1 : Int32))) g ∧ nr_KP (T_X6_meets (123 : Int32) (123 : Int32) (va_up z 25 ((z 25) + (1 : Int32))) g) (fun r_114 z_114 g_114 => (O_X6_reads_172 kT_26 kO_26 a1 a2 r_114 (va_up z_114 24 ((z_114 24) ||| ((1 : Int32) <<< ((a3 - (48 : Int32)) &&& 31)))) g_114))))))))))
set_option maxHeartbeats 4000000 in
set_option maxRecDepth 100000 in
theorem sp_X6_reads_65 (Γ : nr_M) (ρ : Nat → Nat) (d : Nat) (kT_26 : Int32 → (Nat → Int32) → (Nat → Nat → Int32) → Int32 × nr_S) (kO_26 : Int32 → (Nat → Int32) → (Nat → Nat → Int32) → Prop) (X : nr_CX) (hX : nr_Cx Γ ρ X yX6_reads cX6_reads 6 (some .int) (d + 2)) (hk_26 : ∀ (a1 : Int32) (z : Nat → Int32) (g : Nat → Nat → Int32) (R0 : Int32 × nr_S) (_ : kT_26 a1 z g = R0) (_ : kO_26 a1 z g), nr_G Γ ρ X 6 (nr_Qi Γ ρ X (fun x u => R0 = (x, u))) 26 [(0, .ref (ρ 20)), (1, .int a1)] [] z g) (a1 : Int32) (a2 : Int32) (a3 : Int32) (s0 : Int32) (z : Nat → Int32) (g : Nat → Nat → Int32) (R0 : Int32 × nr_S) (hR : T_X6_reads_65 kT_26 a1 a2 a3 s0 z g = R0) (hok : O_X6_reads_65 kT_26 kO_26 a1 a2 a3 s0 z g) : nr_G Γ ρ X 6 (nr_Qi Γ ρ X (fun x u => R0 = (x, u))) 65 [(0, .ref (ρ 20)), (1, .int a1), (2, .int a2), (3, .int a3)] [.int s0] z g := by
  rw [T_X6_reads_65] at hR
  rw [O_X6_reads_65] at hok
  refine G_istore hX dX6_reads_65 (by decide) rfl rfl ?_
  refine G_iload_n hX dX6_reads_67 rfl rfl ?_
  refine G_fSi hX dX6_reads_68 ls_RX6_132 (sp_X6_opens Γ ρ d a3 z g) (by omega) rfl rfl (Nat.le_of_ble_eq_true rfl) rfl ?_
  refine G_if_eq (tg := 232) hX dX6_reads_71 (by decide) rfl (fun (h_71 : (R_X6_opens a3) = 0) => ?_) (fun (h_71 : ¬ ((R_X6_opens a3) = 0)) => ?_)
  · rw [if_pos h_71] at hR
    replace hok := hok.1 h_71
    refine G_iload_n hX dX6_reads_232 rfl rfl ?_
    refine G_bipush (v := (33 : Int32)) hX dX6_reads_233 (by decide) rfl ?_
    refine G_icmp_ne (tg := 274) hX dX6_reads_235 (by decide) rfl (fun (h_235 : ¬ (a3 = (33 : Int32))) => ?_) (fun (h_235 : a3 = (33 : Int32)) => ?_)
    · rw [if_neg h_235] at hR
      replace hok := hok.2 h_235
      refine G_iload_n hX dX6_reads_274 rfl rfl ?_
      refine G_bipush (v := (108 : Int32)) hX dX6_reads_275 (by decide) rfl ?_
      refine G_icmp_eq (tg := 304) hX dX6_reads_277 (by decide) rfl (fun (h_277 : a3 = (108 : Int32)) => ?_) (fun (h_277 : ¬ (a3 = (108 : Int32))) => ?_)
      · rw [if_pos h_277] at hR
        replace hok := hok.1 h_277
        exact nr_sub (by exact ⟨rfl, rfl, trivial⟩) (sp_X6_reads_304 Γ ρ d kT_26 kO_26 X hX hk_26 a1 z g R0 hR hok)
      · rw [if_neg h_277] at hR
        replace hok := hok.2 h_277
        refine G_iload_n hX dX6_reads_280 rfl rfl ?_
        refine G_bipush (v := (107 : Int32)) hX dX6_reads_281 (by decide) rfl ?_
        refine G_icmp_eq (tg := 304) hX dX6_reads_283 (by decide) rfl (fun (h_283 : a3 = (107 : Int32)) => ?_) (fun (h_283 : ¬ (a3 = (107 : Int32))) => ?_)
        · rw [if_pos h_283] at hR
          replace hok := hok.1 h_283
          exact nr_sub (by exact ⟨rfl, rfl, trivial⟩) (sp_X6_reads_304 Γ ρ d kT_26 kO_26 X hX hk_26 a1 z g R0 hR hok)
        · rw [if_neg h_283] at hR
          replace hok := hok.2 h_283
          refine G_iload_n hX dX6_reads_286 rfl rfl ?_
          refine G_bipush (v := (119 : Int32)) hX dX6_reads_287 (by decide) rfl ?_
          refine G_icmp_eq (tg := 304) hX dX6_reads_289 (by decide) rfl (fun (h_289 : a3 = (119 : Int32)) => ?_) (fun (h_289 : ¬ (a3 = (119 : Int32))) => ?_)
          · rw [if_pos h_289] at hR
            replace hok := hok.1 h_289
            exact nr_sub (by exact ⟨rfl, rfl, trivial⟩) (sp_X6_reads_304 Γ ρ d kT_26 kO_26 X hX hk_26 a1 z g R0 hR hok)
          · rw [if_neg h_289] at hR
            replace hok := hok.2 h_289
            refine G_iload_n hX dX6_reads_292 rfl rfl ?_
            refine G_bipush (v := (98 : Int32)) hX dX6_reads_293 (by decide) rfl ?_
            refine G_icmp_eq (tg := 304) hX dX6_reads_295 (by decide) rfl (fun (h_295 : a3 = (98 : Int32)) => ?_) (fun (h_295 : ¬ (a3 = (98 : Int32))) => ?_)
            · rw [if_pos h_295] at hR
              replace hok := hok.1 h_295
              exact nr_sub (by exact ⟨rfl, rfl, trivial⟩) (sp_X6_reads_304 Γ ρ d kT_26 kO_26 X hX hk_26 a1 z g R0 hR hok)
            · rw [if_neg h_295] at hR
              replace hok := hok.2 h_295
              refine G_iload_n hX dX6_reads_298 rfl rfl ?_
              refine G_bipush (v := (43 : Int32)) hX dX6_reads_299 (by decide) rfl ?_
              refine G_icmp_ne (tg := 327) hX dX6_reads_301 (by decide) rfl (fun (h_301 : ¬ (a3 = (43 : Int32))) => ?_) (fun (h_301 : a3 = (43 : Int32)) => ?_)
              · rw [if_neg h_301] at hR
                replace hok := hok.2 h_301
                refine G_iload hX dX6_reads_327 rfl rfl ?_
                refine G_iconst (v := (-1 : Int32)) hX dX6_reads_329 (by decide) rfl ?_
                refine G_icmp_eq (tg := 395) hX dX6_reads_330 (by decide) rfl (fun (h_330 : s0 = (-1 : Int32)) => ?_) (fun (h_330 : ¬ (s0 = (-1 : Int32))) => ?_)
                · rw [if_pos h_330] at hR
                  replace hok := hok.1 h_330
                  exact nr_sub (by exact ⟨rfl, rfl, rfl, rfl, rfl, trivial⟩) (sp_X6_reads_395 Γ ρ d kT_26 kO_26 X hX hk_26 a1 a2 a3 s0 z g R0 hR hok)
                · rw [if_neg h_330] at hR
                  replace hok := hok.2 h_330
                  refine G_iload_n hX dX6_reads_333 rfl rfl ?_
                  refine G_bipush (v := (47 : Int32)) hX dX6_reads_334 (by decide) rfl ?_
                  refine G_icmp_ne (tg := 395) hX dX6_reads_336 (by decide) rfl (fun (h_336 : ¬ (a3 = (47 : Int32))) => ?_) (fun (h_336 : a3 = (47 : Int32)) => ?_)
                  · rw [if_neg h_336] at hR
                    replace hok := hok.2 h_336
                    exact nr_sub (by exact ⟨rfl, rfl, rfl, rfl, rfl, trivial⟩) (sp_X6_reads_395 Γ ρ d kT_26 kO_26 X hX hk_26 a1 a2 a3 s0 z g R0 hR hok)
                  · rw [if_pos h_336] at hR
                    replace hok := hok.1 h_336
                    refine G_aload_n hX dX6_reads_339 rfl rfl ?_
                    refine G_getr hX dX6_reads_340 gt_RX6_19 rfl ?_
                    refine G_iload hX dX6_reads_343 rfl rfl ?_
                    obtain ⟨hi_345, hok⟩ := hok
                    refine G_iald hX dX6_reads_345 (rfl : nr_il 24 = 100) (by decide) hi_345 rfl ?_
                    refine G_bipush (v := (40 : Int32)) hX dX6_reads_346 (by decide) rfl ?_
                    refine G_icmp_eq (tg := 363) hX dX6_reads_348 (by decide) rfl (fun (h_348 : (g 24 (s0).toNatClampNeg) = (40 : Int32)) => ?_) (fun (h_348 : ¬ ((g 24 (s0).toNatClampNeg) = (40 : Int32))) => ?_)
                    · rw [if_pos h_348] at hR
                      replace hok := hok.1 h_348
                      exact nr_sub (by exact ⟨rfl, rfl, rfl, rfl, rfl, trivial⟩) (sp_X6_reads_363 Γ ρ d kT_26 kO_26 X hX hk_26 a1 a2 a3 s0 z g R0 hR hok)
                    · rw [if_neg h_348] at hR
                      replace hok := hok.2 h_348
                      refine G_aload_n hX dX6_reads_351 rfl rfl ?_
                      refine G_getr hX dX6_reads_352 gt_RX6_19 rfl ?_
                      refine G_iload hX dX6_reads_355 rfl rfl ?_
                      obtain ⟨hi_357, hok⟩ := hok
                      refine G_iald hX dX6_reads_357 (rfl : nr_il 24 = 100) (by decide) hi_357 rfl ?_
                      refine G_bipush (v := (91 : Int32)) hX dX6_reads_358 (by decide) rfl ?_
                      refine G_icmp_ne (tg := 395) hX dX6_reads_360 (by decide) rfl (fun (h_360 : ¬ ((g 24 (s0).toNatClampNeg) = (91 : Int32))) => ?_) (fun (h_360 : (g 24 (s0).toNatClampNeg) = (91 : Int32)) => ?_)
                      · rw [if_neg h_360] at hR
                        replace hok := hok.2 h_360
                        exact nr_sub (by exact ⟨rfl, rfl, rfl, rfl, rfl, trivial⟩) (sp_X6_reads_395 Γ ρ d kT_26 kO_26 X hX hk_26 a1 a2 a3 s0 z g R0 hR hok)
                      · rw [if_pos h_360] at hR
                        replace hok := hok.1 h_360
                        exact nr_sub (by exact ⟨rfl, rfl, rfl, rfl, rfl, trivial⟩) (sp_X6_reads_363 Γ ρ d kT_26 kO_26 X hX hk_26 a1 a2 a3 s0 z g R0 hR hok)
              · rw [if_pos h_301] at hR
                replace hok := hok.1 h_301
                exact nr_sub (by exact ⟨rfl, rfl, trivial⟩) (sp_X6_reads_304 Γ ρ d kT_26 kO_26 X hX hk_26 a1 z g R0 hR hok)
    · rw [if_pos h_235] at hR
      replace hok := hok.1 h_235
      refine G_aload_n hX dX6_reads_238 rfl rfl ?_
      refine G_dup hX dX6_reads_239 rfl rfl ?_
      refine G_geti hX dX6_reads_240 gt_RX6_113 rfl ?_
      refine G_iconst (v := (1 : Int32)) hX dX6_reads_243 (by decide) rfl ?_
      refine G_iadd hX dX6_reads_244 rfl ?_
      refine G_put hX dX6_reads_245 pt_RX6_113 rfl rfl rfl ?_
      refine G_aload_n hX dX6_reads_248 rfl rfl ?_
      refine G_dup hX dX6_reads_249 rfl rfl ?_
      refine G_geti hX dX6_reads_250 gt_RX6_123 rfl ?_
      refine G_iconst (v := (1 : Int32)) hX dX6_reads_253 (by decide) rfl ?_
      refine G_iadd hX dX6_reads_254 rfl ?_
      refine G_put hX dX6_reads_255 pt_RX6_123 rfl rfl rfl ?_
      refine G_aload_n hX dX6_reads_258 rfl rfl ?_
      refine G_bipush (v := (48 : Int32)) hX dX6_reads_259 (by decide) rfl ?_
      refine G_bipush (v := (57 : Int32)) hX dX6_reads_261 (by decide) rfl ?_
      obtain ⟨ho_263, hok⟩ := hok
      refine G_cVi hX dX6_reads_263 lv_RX6_135 (sp_X6_meets Γ ρ d (48 : Int32) (57 : Int32) (va_up (va_up z 25 ((z 25) + (1 : Int32))) 22 ((z 22) + (1 : Int32))) g ho_263) (by omega) nr_is_20 rfl rfl (Nat.le_of_ble_eq_true rfl) rfl (fun r_263 u_263 e_263 => ?_)
      obtain ⟨z_263, g_263⟩ := u_263
      obtain ⟨hb_263, e_263⟩ := e_263
      rw [e_263, nr_K_mk] at hR
      rw [e_263, nr_KP_mk] at hok
      refine G_if_ne (tg := 476) hX dX6_reads_266 (by decide) rfl (fun (h_266 : ¬ (r_263 = 0)) => ?_) (fun (h_266 : r_263 = 0) => ?_)
      · rw [if_neg h_266] at hR
        replace hok := hok.2 h_266
        exact nr_sub (by exact ⟨rfl, rfl, trivial⟩) (sp_X6_reads_476 Γ ρ d kT_26 kO_26 X hX hk_26 a1 z_263 g_263 R0 hR hok)
      · rw [if_pos h_266] at hR
        replace hok := hok.1 h_266
        refine G_aload_n hX dX6_reads_269 rfl rfl ?_
        refine G_geti hX dX6_reads_270 gt_RX6_113 rfl ?_
        exact G_iret hX rfl dX6_reads_273 rfl hR.symm
  · rw [if_neg h_71] at hR
    replace hok := hok.2 h_71
    refine G_iload_n hX dX6_reads_74 rfl rfl ?_
    refine G_bipush (v := (8 : Int32)) hX dX6_reads_75 (by decide) rfl ?_
    refine G_icmp_ne (tg := 82) hX dX6_reads_77 (by decide) rfl (fun (h_77 : ¬ (a1 = (8 : Int32))) => ?_) (fun (h_77 : a1 = (8 : Int32)) => ?_)
    · rw [if_neg h_77] at hR
      replace hok := hok.2 h_77
      refine G_aload_n hX dX6_reads_82 rfl rfl ?_
      refine G_dup hX dX6_reads_83 rfl rfl ?_
      refine G_geti hX dX6_reads_84 gt_RX6_113 rfl ?_
      refine G_iconst (v := (1 : Int32)) hX dX6_reads_87 (by decide) rfl ?_
      refine G_iadd hX dX6_reads_88 rfl ?_
      refine G_put hX dX6_reads_89 pt_RX6_113 rfl rfl rfl ?_
      refine G_iconst (v := (1 : Int32)) hX dX6_reads_92 (by decide) rfl ?_
      refine G_istore hX dX6_reads_93 (by decide) rfl rfl ?_
      refine G_iload_n hX dX6_reads_95 rfl rfl ?_
      refine G_i2l hX dX6_reads_96 rfl ?_
      refine G_ldc2 (v := (48 : Int64)) hX dX6_reads_97 wk_RX6_119 rfl ?_
      refine G_ldc2 (v := (55 : Int64)) hX dX6_reads_100 wk_RX6_121 rfl ?_
      refine G_fSi hX dX6_reads_103 ls_RX6_62 (sp_X6_in Γ ρ d (a3).toInt64 (48 : Int64) (55 : Int64) (va_up z 25 ((z 25) + (1 : Int32))) g) (by omega) rfl rfl (Nat.le_of_ble_eq_true rfl) rfl ?_
      refine G_if_eq (tg := 137) hX dX6_reads_106 (by decide) rfl (fun (h_106 : (R_X6_in (a3).toInt64 (48 : Int64) (55 : Int64)) = 0) => ?_) (fun (h_106 : ¬ ((R_X6_in (a3).toInt64 (48 : Int64) (55 : Int64)) = 0)) => ?_)
      · rw [if_pos h_106] at hR
        replace hok := hok.1 h_106
        refine G_iload_n hX dX6_reads_137 rfl rfl ?_
        refine G_bipush (v := (120 : Int32)) hX dX6_reads_138 (by decide) rfl ?_
        refine G_icmp_ne (tg := 172) hX dX6_reads_140 (by decide) rfl (fun (h_140 : ¬ (a3 = (120 : Int32))) => ?_) (fun (h_140 : a3 = (120 : Int32)) => ?_)
        · rw [if_neg h_140] at hR
          replace hok := hok.2 h_140
          exact nr_sub (by exact ⟨rfl, rfl, rfl, rfl, trivial⟩) (sp_X6_reads_172 Γ ρ d kT_26 kO_26 X hX hk_26 a1 a2 (1 : Int32) (va_up z 25 ((z 25) + (1 : Int32))) g R0 hR hok)
        · rw [if_pos h_140] at hR
          replace hok := hok.1 h_140
          refine G_aload_n hX dX6_reads_143 rfl rfl ?_
          refine G_bipush (v := (48 : Int32)) hX dX6_reads_144 (by decide) rfl ?_
          refine G_bipush (v := (57 : Int32)) hX dX6_reads_146 (by decide) rfl ?_
          obtain ⟨ho_148, hok⟩ := hok
          refine G_cVi hX dX6_reads_148 lv_RX6_135 (sp_X6_meets Γ ρ d (48 : Int32) (57 : Int32) (va_up z 25 ((z 25) + (1 : Int32))) g ho_148) (by omega) nr_is_20 rfl rfl (Nat.le_of_ble_eq_true rfl) rfl (fun r_148 u_148 e_148 => ?_)
          obtain ⟨z_148, g_148⟩ := u_148
          obtain ⟨hb_148, e_148⟩ := e_148
          rw [e_148, nr_K_mk] at hR
          rw [e_148, nr_KP_mk] at hok
          refine G_if_eq (tg := 169) hX dX6_reads_151 (by decide) rfl (fun (h_151 : r_148 = 0) => ?_) (fun (h_151 : ¬ (r_148 = 0)) => ?_)
          · rw [if_pos h_151] at hR
            replace hok := hok.1 h_151
            exact nr_sub (by exact ⟨rfl, rfl, rfl, trivial⟩) (sp_X6_reads_169 Γ ρ d kT_26 kO_26 X hX hk_26 a1 a2 z_148 g_148 R0 hR hok)
          · rw [if_neg h_151] at hR
            replace hok := hok.2 h_151
            refine G_aload_n hX dX6_reads_154 rfl rfl ?_
            refine G_bipush (v := (58 : Int32)) hX dX6_reads_155 (by decide) rfl ?_
            refine G_bipush (v := (58 : Int32)) hX dX6_reads_157 (by decide) rfl ?_
            obtain ⟨ho_159, hok⟩ := hok
            refine G_cVi hX dX6_reads_159 lv_RX6_135 (sp_X6_meets Γ ρ d (58 : Int32) (58 : Int32) z_148 g_148 ho_159) (by omega) nr_is_20 rfl rfl (Nat.le_of_ble_eq_true rfl) rfl (fun r_159 u_159 e_159 => ?_)
            obtain ⟨z_159, g_159⟩ := u_159
            obtain ⟨hb_159, e_159⟩ := e_159
            rw [e_159, nr_K_mk] at hR
            rw [e_159, nr_KP_mk] at hok
            refine G_if_eq (tg := 169) hX dX6_reads_162 (by decide) rfl (fun (h_162 : r_159 = 0) => ?_) (fun (h_162 : ¬ (r_159 = 0)) => ?_)
            · rw [if_pos h_162] at hR
              replace hok := hok.1 h_162
              exact nr_sub (by exact ⟨rfl, rfl, rfl, trivial⟩) (sp_X6_reads_169 Γ ρ d kT_26 kO_26 X hX hk_26 a1 a2 z_159 g_159 R0 hR hok)
            · rw [if_neg h_162] at hR
              replace hok := hok.2 h_162
              refine G_iconst (v := (1 : Int32)) hX dX6_reads_165 (by decide) rfl ?_
              refine G_goto (tg := 170) hX dX6_reads_166 (by decide) ?_
              exact nr_sub (by exact ⟨rfl, rfl, rfl, trivial⟩) (sp_X6_reads_170 Γ ρ d kT_26 kO_26 X hX hk_26 a1 a2 (1 : Int32) z_159 g_159 R0 hR hok)
      · rw [if_neg h_106] at hR
        replace hok := hok.2 h_106
        refine G_aload_n hX dX6_reads_109 rfl rfl ?_
        refine G_bipush (v := (123 : Int32)) hX dX6_reads_110 (by decide) rfl ?_
        refine G_bipush (v := (123 : Int32)) hX dX6_reads_112 (by decide) rfl ?_
        obtain ⟨ho_114, hok⟩ := hok
        refine G_cVi hX dX6_reads_114 lv_RX6_135 (sp_X6_meets Γ ρ d (123 : Int32) (123 : Int32) (va_up z 25 ((z 25) + (1 : Int32))) g ho_114) (by omega) nr_is_20 rfl rfl (Nat.le_of_ble_eq_true rfl) rfl (fun r_114 u_114 e_114 => ?_)
        obtain ⟨z_114, g_114⟩ := u_114
        obtain ⟨hb_114, e_114⟩ := e_114
        rw [e_114, nr_K_mk] at hR
        rw [e_114, nr_KP_mk] at hok
        refine G_istore hX dX6_reads_117 (by decide) rfl rfl ?_
        refine G_aload_n hX dX6_reads_119 rfl rfl ?_
        refine G_dup hX dX6_reads_120 rfl rfl ?_
        refine G_geti hX dX6_reads_121 gt_RX6_129 rfl ?_
        refine G_iconst (v := (1 : Int32)) hX dX6_reads_124 (by decide) rfl ?_
        refine G_iload_n hX dX6_reads_125 rfl rfl ?_
        refine G_bipush (v := (48 : Int32)) hX dX6_reads_126 (by decide) rfl ?_
        refine G_isub hX dX6_reads_128 rfl ?_
        refine G_ishl hX dX6_reads_129 rfl ?_
        refine G_ior hX dX6_reads_130 rfl ?_
        refine G_put hX dX6_reads_131 pt_RX6_129 rfl rfl rfl ?_
        refine G_goto (tg := 172) hX dX6_reads_134 (by decide) ?_
        exact nr_sub (by exact ⟨rfl, rfl, rfl, rfl, trivial⟩) (sp_X6_reads_172 Γ ρ d kT_26 kO_26 X hX hk_26 a1 a2 r_114 (va_up z_114 24 ((z_114 24) ||| ((1 : Int32) <<< ((a3 - (48 : Int32)) &&& 31)))) g_114 R0 hR hok)
    · rw [if_pos h_77] at hR
      replace hok := hok.1 h_77
      refine G_iload_n hX dX6_reads_80 rfl rfl ?_
      exact G_iret hX rfl dX6_reads_81 rfl hR.symm
def T_X6_reads_26  : Nat → Int32 → (Nat → Int32) → (Nat → Nat → Int32) → Int32 × nr_S
  | 0, _, z, g => (0, z, g)
  | n + 1, a1, z, g => (if (z 21) ≤ (z 25) then (if a1 ≤ 0 then ((-1 : Int32), z, g) else ((z 21), z, g)) else (if a1 ≤ 0 then (T_X6_reads_65 (T_X6_reads_26 n) a1 (z 25) (g 24 ((z 25)).toNatClampNeg) (-1 : Int32) z g) else (T_X6_reads_65 (T_X6_reads_26 n) a1 (z 25) (g 24 ((z 25)).toNatClampNeg) (g 27 ((a1 - (1 : Int32))).toNatClampNeg) z g)))
def O_X6_reads_26  : Nat → Int32 → (Nat → Int32) → (Nat → Nat → Int32) → Prop
  | 0, _, _, _ => False
  | n + 1, a1, z, g => (((z 21) ≤ (z 25) → True) ∧ (¬ ((z 21) ≤ (z 25)) → (vp_in (z 25) 100 ∧ ((a1 ≤ 0 → (O_X6_reads_65 (T_X6_reads_26 n) (O_X6_reads_26 n) a1 (z 25) (g 24 ((z 25)).toNatClampNeg) (-1 : Int32) z g)) ∧ (¬ (a1 ≤ 0) → (vp_in (a1 - (1 : Int32)) 9 ∧ (O_X6_reads_65 (T_X6_reads_26 n) (O_X6_reads_26 n) a1 (z 25) (g 24 ((z 25)).toNatClampNeg) (g 27 ((a1 - (1 : Int32))).toNatClampNeg) z g)))))))
set_option maxHeartbeats 4000000 in
set_option maxRecDepth 100000 in
theorem sp_X6_reads_26 (Γ : nr_M) (ρ : Nat → Nat) (d : Nat) (X : nr_CX) (hX : nr_Cx Γ ρ X yX6_reads cX6_reads 6 (some .int) (d + 2)) : ∀ (n : Nat) (a1 : Int32) (z : Nat → Int32) (g : Nat → Nat → Int32) (R0 : Int32 × nr_S) (_ : T_X6_reads_26 n a1 z g = R0) (_ : O_X6_reads_26 n a1 z g), nr_G Γ ρ X 6 (nr_Qi Γ ρ X (fun x u => R0 = (x, u))) 26 [(0, .ref (ρ 20)), (1, .int a1)] [] z g := by
  intro n
  induction n with
  | zero => intro a1 z g R0 hR hok; exact False.elim hok
  | succ n ih =>
    intro a1 z g R0 hR hok
    rw [T_X6_reads_26] at hR
    rw [O_X6_reads_26] at hok
    refine G_aload_n hX dX6_reads_26 rfl rfl ?_
    refine G_geti hX dX6_reads_27 gt_RX6_113 rfl ?_
    refine G_aload_n hX dX6_reads_30 rfl rfl ?_
    refine G_geti hX dX6_reads_31 gt_RX6_107 rfl ?_
    refine G_icmp_ge (tg := 483) hX dX6_reads_34 (by decide) rfl (fun (h_34 : (z 21) ≤ (z 25)) => ?_) (fun (h_34 : ¬ ((z 21) ≤ (z 25))) => ?_)
    · rw [if_pos h_34] at hR
      replace hok := hok.1 h_34
      refine G_iload_n hX dX6_reads_483 rfl rfl ?_
      refine G_if_le (tg := 494) hX dX6_reads_484 (by decide) rfl (fun (h_484 : a1 ≤ 0) => ?_) (fun (h_484 : ¬ (a1 ≤ 0)) => ?_)
      · rw [if_pos h_484] at hR
        refine G_iconst (v := (-1 : Int32)) hX dX6_reads_494 (by decide) rfl ?_
        exact G_iret hX rfl dX6_reads_495 rfl hR.symm
      · rw [if_neg h_484] at hR
        refine G_aload_n hX dX6_reads_487 rfl rfl ?_
        refine G_geti hX dX6_reads_488 gt_RX6_107 rfl ?_
        refine G_goto (tg := 495) hX dX6_reads_491 (by decide) ?_
        exact G_iret hX rfl dX6_reads_495 rfl hR.symm
    · rw [if_neg h_34] at hR
      replace hok := hok.2 h_34
      refine G_aload_n hX dX6_reads_37 rfl rfl ?_
      refine G_geti hX dX6_reads_38 gt_RX6_113 rfl ?_
      refine G_istore_n hX dX6_reads_41 (by decide) rfl rfl ?_
      refine G_aload_n hX dX6_reads_42 rfl rfl ?_
      refine G_getr hX dX6_reads_43 gt_RX6_19 rfl ?_
      refine G_iload_n hX dX6_reads_46 rfl rfl ?_
      obtain ⟨hi_47, hok⟩ := hok
      refine G_iald hX dX6_reads_47 (rfl : nr_il 24 = 100) (by decide) hi_47 rfl ?_
      refine G_istore_n hX dX6_reads_48 (by decide) rfl rfl ?_
      refine G_iload_n hX dX6_reads_49 rfl rfl ?_
      refine G_if_le (tg := 64) hX dX6_reads_50 (by decide) rfl (fun (h_50 : a1 ≤ 0) => ?_) (fun (h_50 : ¬ (a1 ≤ 0)) => ?_)
      · rw [if_pos h_50] at hR
        replace hok := hok.1 h_50
        refine G_iconst (v := (-1 : Int32)) hX dX6_reads_64 (by decide) rfl ?_
        exact nr_sub (by exact ⟨rfl, rfl, rfl, rfl, trivial⟩) (sp_X6_reads_65 Γ ρ d (T_X6_reads_26 n) (O_X6_reads_26 n) X hX ih a1 (z 25) (g 24 ((z 25)).toNatClampNeg) (-1 : Int32) z g R0 hR hok)
      · rw [if_neg h_50] at hR
        replace hok := hok.2 h_50
        refine G_aload_n hX dX6_reads_53 rfl rfl ?_
        refine G_getr hX dX6_reads_54 gt_RX6_28 rfl ?_
        refine G_iload_n hX dX6_reads_57 rfl rfl ?_
        refine G_iconst (v := (1 : Int32)) hX dX6_reads_58 (by decide) rfl ?_
        refine G_isub hX dX6_reads_59 rfl ?_
        obtain ⟨hi_60, hok⟩ := hok
        refine G_iald hX dX6_reads_60 (rfl : nr_il 27 = 9) (by decide) hi_60 rfl ?_
        refine G_goto (tg := 65) hX dX6_reads_61 (by decide) ?_
        exact nr_sub (by exact ⟨rfl, rfl, rfl, rfl, trivial⟩) (sp_X6_reads_65 Γ ρ d (T_X6_reads_26 n) (O_X6_reads_26 n) X hX ih a1 (z 25) (g 24 ((z 25)).toNatClampNeg) (g 27 ((a1 - (1 : Int32))).toNatClampNeg) z g R0 hR hok)
def T_X6_reads (N : Nat) (z : Nat → Int32) (g : Nat → Nat → Int32) : Int32 × nr_S := (nr_K (T_X6_skip (va_up (va_up (va_up (va_up z 22 (0 : Int32)) 23 (0 : Int32)) 24 (0 : Int32)) 25 (0 : Int32)) g) (fun r_23 z_23 g_23 => (T_X6_reads_26 N (0 : Int32) z_23 g_23)))
def O_X6_reads (N : Nat) (z : Nat → Int32) (g : Nat → Nat → Int32) : Prop := ((O_X6_skip (va_up (va_up (va_up (va_up z 22 (0 : Int32)) 23 (0 : Int32)) 24 (0 : Int32)) 25 (0 : Int32)) g ∧ nr_KP (T_X6_skip (va_up (va_up (va_up (va_up z 22 (0 : Int32)) 23 (0 : Int32)) 24 (0 : Int32)) 25 (0 : Int32)) g) (fun r_23 z_23 g_23 => (O_X6_reads_26 N (0 : Int32) z_23 g_23))))
set_option maxHeartbeats 4000000 in
set_option maxRecDepth 100000 in
theorem sp_X6_reads (Γ : nr_M) (ρ : Nat → Nat) (d : Nat) (N : Nat) (z : Nat → Int32) (g : Nat → Nat → Int32) (hok : O_X6_reads N z g) : nr_Si Γ ρ (d + 2) yX6_reads cX6_reads 6 (some .int) [.ref (ρ 20)] z g (fun x u => (T_X6_reads N z g) = (x, u)) := by
  refine nr_body_i (lv := [(0, .ref (ρ 20))]) (by decide +kernel) (Nat.le_of_ble_eq_true rfl) rfl (fun X hX => ?_)
  generalize hR : (T_X6_reads N z g) = R0
  rw [T_X6_reads] at hR
  rw [O_X6_reads] at hok
  refine G_iconst (v := (0 : Int32)) hX dX6_reads_0 (by decide) rfl ?_
  refine G_istore_n hX dX6_reads_1 (by decide) rfl rfl ?_
  refine G_aload_n hX dX6_reads_2 rfl rfl ?_
  refine G_iconst (v := (0 : Int32)) hX dX6_reads_3 (by decide) rfl ?_
  refine G_put hX dX6_reads_4 pt_RX6_123 rfl rfl rfl ?_
  refine G_aload_n hX dX6_reads_7 rfl rfl ?_
  refine G_iconst (v := (0 : Int32)) hX dX6_reads_8 (by decide) rfl ?_
  refine G_put hX dX6_reads_9 pt_RX6_126 rfl rfl rfl ?_
  refine G_aload_n hX dX6_reads_12 rfl rfl ?_
  refine G_iconst (v := (0 : Int32)) hX dX6_reads_13 (by decide) rfl ?_
  refine G_put hX dX6_reads_14 pt_RX6_129 rfl rfl rfl ?_
  refine G_aload_n hX dX6_reads_17 rfl rfl ?_
  refine G_iconst (v := (0 : Int32)) hX dX6_reads_18 (by decide) rfl ?_
  refine G_put hX dX6_reads_19 pt_RX6_113 rfl rfl rfl ?_
  refine G_aload_n hX dX6_reads_22 rfl rfl ?_
  obtain ⟨ho_23, hok⟩ := hok
  refine G_cVv hX dX6_reads_23 lv_RX6_116 (sp_X6_skip Γ ρ d (va_up (va_up (va_up (va_up z 22 (0 : Int32)) 23 (0 : Int32)) 24 (0 : Int32)) 25 (0 : Int32)) g ho_23) (by omega) nr_is_20 rfl rfl (Nat.le_of_ble_eq_true rfl) rfl (fun u_23 e_23 => ?_)
  obtain ⟨z_23, g_23⟩ := u_23
  rw [e_23, nr_K_mk] at hR
  rw [e_23, nr_KP_mk] at hok
  exact nr_sub (by exact ⟨rfl, rfl, trivial⟩) (sp_X6_reads_26 Γ ρ d X hX N (0 : Int32) z_23 g_23 R0 hR hok)
