def T_X2_befalls (a1 : Int32) (a2 : Int32) (z : Nat → Int32) (g : Nat → Nat → Int32) : Int32 × nr_S := (nr_K (T_X4_befall (nr_ix (z 17)) a1 a2 (-1 : Int32) z g) (fun r_7 z_7 g_7 => ((0 : Int32), z_7, g_7)))
def O_X2_befalls (a1 : Int32) (a2 : Int32) (z : Nat → Int32) (g : Nat → Nat → Int32) : Prop := ((nr_ta (nr_ix (z 17)) ∧ True))
set_option maxHeartbeats 4000000 in
set_option maxRecDepth 100000 in
theorem sp_X2_befalls (Γ : nr_M) (ρ : Nat → Nat) (d : Nat) (a1 : Int32) (a2 : Int32) (z : Nat → Int32) (g : Nat → Nat → Int32) (hok : O_X2_befalls a1 a2 z g) : nr_Si Γ ρ (d + 1) yX2_befalls cX2_befalls 3 (some .boolean) [.ref (ρ 19), .int a1, .int a2] z g (fun x u => narrow .boolean (.int x) = .int x ∧ (T_X2_befalls a1 a2 z g) = (x, u)) := by
  refine nr_body_i (lv := [(0, .ref (ρ 19)), (1, .int a1), (2, .int a2)]) (by decide +kernel) (Nat.le_of_ble_eq_true rfl) rfl (fun X hX => ?_)
  generalize hR : (T_X2_befalls a1 a2 z g) = R0
  rw [T_X2_befalls] at hR
  rw [O_X2_befalls] at hok
  refine G_aload_n hX dX2_befalls_0 rfl rfl ?_
  refine G_gett hX dX2_befalls_1 gt_RX2_19 rfl ?_
  refine G_iload_n hX dX2_befalls_4 rfl rfl ?_
  refine G_iload_n hX dX2_befalls_5 rfl rfl ?_
  refine G_iconst (v := (-1 : Int32)) hX dX2_befalls_6 (by decide) rfl ?_
  obtain ⟨hh_7, hok⟩ := hok
  refine G_cVv hX dX2_befalls_7 lv_RX2_87 (sp_X4_befall Γ ρ d (nr_ix (z 17)) a1 a2 (-1 : Int32) hh_7 z g) (by omega) (nr_is_ta hh_7) rfl rfl (Nat.le_of_ble_eq_true rfl) rfl (fun u_7 e_7 => ?_)
  obtain ⟨z_7, g_7⟩ := u_7
  rw [e_7, nr_K_mk] at hR
  refine G_iconst (v := (0 : Int32)) hX dX2_befalls_10 (by decide) rfl ?_
  exact G_iret hX rfl dX2_befalls_11 rfl ⟨rfl, hR.symm⟩
def T_X2_doFirstPart (rc : Int32 → Int32 → Int32 → Int32 → nr_S → Int32 × nr_S) (oc : Int32 → Int32 → Int32 → Int32 → nr_S → Prop) (a1 : Int32) (a2 : Int32) (a3 : Int32) (z : Nat → Int32) (g : Nat → Nat → Int32) : Int32 × nr_S := (nr_K (rc (a1 + (1 : Int32)) (R_X3_middle a1 z g) a2 (a3 + (1 : Int32)) (z, g)) (fun r_16 z_16 g_16 => (r_16, z_16, g_16)))
def O_X2_doFirstPart (rc : Int32 → Int32 → Int32 → Int32 → nr_S → Int32 × nr_S) (oc : Int32 → Int32 → Int32 → Int32 → nr_S → Prop) (a1 : Int32) (a2 : Int32) (a3 : Int32) (z : Nat → Int32) (g : Nat → Nat → Int32) : Prop := (O_X3_middle a1 z g ∧ ((oc (a1 + (1 : Int32)) (R_X3_middle a1 z g) a2 (a3 + (1 : Int32)) (z, g) ∧ True)))
set_option maxHeartbeats 4000000 in
set_option maxRecDepth 100000 in
theorem sp_X2_doFirstPart (Γ : nr_M) (ρ : Nat → Nat) (d : Nat) (rc : Int32 → Int32 → Int32 → Int32 → nr_S → Int32 × nr_S) (oc : Int32 → Int32 → Int32 → Int32 → nr_S → Prop) (hA : ∀ (a1 : Int32) (a2 : Int32) (a3 : Int32) (a4 : Int32) (z : Nat → Int32) (g : Nat → Nat → Int32), oc a1 a2 a3 a4 (z, g) → nr_Si Γ ρ d yX2_doActs cX2_doActs 7 (some .boolean) [.ref (ρ 19), .int a1, .int a2, .int a3, .int a4] z g (fun x u => narrow .boolean (.int x) = .int x ∧ rc a1 a2 a3 a4 (z, g) = (x, u))) (a1 : Int32) (a2 : Int32) (a3 : Int32) (z : Nat → Int32) (g : Nat → Nat → Int32) (hok : O_X2_doFirstPart rc oc a1 a2 a3 z g) : nr_Si Γ ρ (d + 2) yX2_doFirstPart cX2_doFirstPart 4 (some .boolean) [.ref (ρ 19), .int a1, .int a2, .int a3] z g (fun x u => narrow .boolean (.int x) = .int x ∧ (T_X2_doFirstPart rc oc a1 a2 a3 z g) = (x, u)) := by
  refine nr_body_i (lv := [(0, .ref (ρ 19)), (1, .int a1), (2, .int a2), (3, .int a3)]) (by decide +kernel) (Nat.le_of_ble_eq_true rfl) rfl (fun X hX => ?_)
  generalize hR : (T_X2_doFirstPart rc oc a1 a2 a3 z g) = R0
  rw [T_X2_doFirstPart] at hR
  rw [O_X2_doFirstPart] at hok
  refine G_aload_n hX dX2_doFirstPart_0 rfl rfl ?_
  refine G_iload_n hX dX2_doFirstPart_1 rfl rfl ?_
  refine G_iconst (v := (1 : Int32)) hX dX2_doFirstPart_2 (by decide) rfl ?_
  refine G_iadd hX dX2_doFirstPart_3 rfl ?_
  refine G_aload_n hX dX2_doFirstPart_4 rfl rfl ?_
  refine G_getr hX dX2_doFirstPart_5 gt_RX2_9 rfl ?_
  refine G_iload_n hX dX2_doFirstPart_8 rfl rfl ?_
  obtain ⟨ho_9, hok⟩ := hok
  refine G_fVi hX dX2_doFirstPart_9 lv_RX2_100 (sp_X3_middle Γ ρ d a1 z g ho_9) (by omega) nr_is_7 rfl rfl (Nat.le_of_ble_eq_true rfl) rfl ?_
  refine G_iload_n hX dX2_doFirstPart_12 rfl rfl ?_
  refine G_iload_n hX dX2_doFirstPart_13 rfl rfl ?_
  refine G_iconst (v := (1 : Int32)) hX dX2_doFirstPart_14 (by decide) rfl ?_
  refine G_iadd hX dX2_doFirstPart_15 rfl ?_
  obtain ⟨ho_16, hok⟩ := hok
  refine G_cVi hX dX2_doFirstPart_16 lv_RX2_34 (hA (a1 + (1 : Int32)) (R_X3_middle a1 z g) a2 (a3 + (1 : Int32)) z g ho_16) (by omega) nr_is_19 rfl rfl (Nat.le_of_ble_eq_true rfl) rfl (fun r_16 u_16 e_16 => ?_)
  obtain ⟨z_16, g_16⟩ := u_16
  obtain ⟨hb_16, e_16⟩ := e_16
  rw [e_16, nr_K_mk] at hR
  exact G_iret hX rfl dX2_doFirstPart_19 hb_16 ⟨hb_16, hR.symm⟩
def T_X2_doSecondPart (rc : Int32 → Int32 → Int32 → Int32 → nr_S → Int32 × nr_S) (oc : Int32 → Int32 → Int32 → Int32 → nr_S → Prop) (a1 : Int32) (a2 : Int32) (a3 : Int32) (z : Nat → Int32) (g : Nat → Nat → Int32) : Int32 × nr_S := (nr_K (T_X4_calm (nr_ix (z 17)) z g) (fun r_4 z_4 g_4 => (nr_K (rc (R_X3_middle a1 z_4 g_4) (R_X3_next a1 z_4 g_4) a2 (a3 + (1 : Int32)) (z_4, g_4)) (fun r_28 z_28 g_28 => (r_28, z_28, g_28)))))
def O_X2_doSecondPart (rc : Int32 → Int32 → Int32 → Int32 → nr_S → Int32 × nr_S) (oc : Int32 → Int32 → Int32 → Int32 → nr_S → Prop) (a1 : Int32) (a2 : Int32) (a3 : Int32) (z : Nat → Int32) (g : Nat → Nat → Int32) : Prop := ((nr_ta (nr_ix (z 17)) ∧ nr_KP (T_X4_calm (nr_ix (z 17)) z g) (fun r_4 z_4 g_4 => (O_X3_middle a1 z_4 g_4 ∧ (O_X3_next a1 z_4 g_4 ∧ ((oc (R_X3_middle a1 z_4 g_4) (R_X3_next a1 z_4 g_4) a2 (a3 + (1 : Int32)) (z_4, g_4) ∧ True)))))))
set_option maxHeartbeats 4000000 in
set_option maxRecDepth 100000 in
theorem sp_X2_doSecondPart (Γ : nr_M) (ρ : Nat → Nat) (d : Nat) (rc : Int32 → Int32 → Int32 → Int32 → nr_S → Int32 × nr_S) (oc : Int32 → Int32 → Int32 → Int32 → nr_S → Prop) (hA : ∀ (a1 : Int32) (a2 : Int32) (a3 : Int32) (a4 : Int32) (z : Nat → Int32) (g : Nat → Nat → Int32), oc a1 a2 a3 a4 (z, g) → nr_Si Γ ρ d yX2_doActs cX2_doActs 7 (some .boolean) [.ref (ρ 19), .int a1, .int a2, .int a3, .int a4] z g (fun x u => narrow .boolean (.int x) = .int x ∧ rc a1 a2 a3 a4 (z, g) = (x, u))) (a1 : Int32) (a2 : Int32) (a3 : Int32) (z : Nat → Int32) (g : Nat → Nat → Int32) (hok : O_X2_doSecondPart rc oc a1 a2 a3 z g) : nr_Si Γ ρ (d + 2) yX2_doSecondPart cX2_doSecondPart 4 (some .boolean) [.ref (ρ 19), .int a1, .int a2, .int a3] z g (fun x u => narrow .boolean (.int x) = .int x ∧ (T_X2_doSecondPart rc oc a1 a2 a3 z g) = (x, u)) := by
  refine nr_body_i (lv := [(0, .ref (ρ 19)), (1, .int a1), (2, .int a2), (3, .int a3)]) (by decide +kernel) (Nat.le_of_ble_eq_true rfl) rfl (fun X hX => ?_)
  generalize hR : (T_X2_doSecondPart rc oc a1 a2 a3 z g) = R0
  rw [T_X2_doSecondPart] at hR
  rw [O_X2_doSecondPart] at hok
  refine G_aload_n hX dX2_doSecondPart_0 rfl rfl ?_
  refine G_gett hX dX2_doSecondPart_1 gt_RX2_19 rfl ?_
  obtain ⟨hh_4, hok⟩ := hok
  refine G_cVv hX dX2_doSecondPart_4 lv_RX2_103 (sp_X4_calm Γ ρ d (nr_ix (z 17)) hh_4 z g) (by omega) (nr_is_ta hh_4) rfl rfl (Nat.le_of_ble_eq_true rfl) rfl (fun u_4 e_4 => ?_)
  obtain ⟨z_4, g_4⟩ := u_4
  rw [e_4, nr_K_mk] at hR
  rw [e_4, nr_KP_mk] at hok
  refine G_aload_n hX dX2_doSecondPart_7 rfl rfl ?_
  refine G_aload_n hX dX2_doSecondPart_8 rfl rfl ?_
  refine G_getr hX dX2_doSecondPart_9 gt_RX2_9 rfl ?_
  refine G_iload_n hX dX2_doSecondPart_12 rfl rfl ?_
  obtain ⟨ho_13, hok⟩ := hok
  refine G_fVi hX dX2_doSecondPart_13 lv_RX2_100 (sp_X3_middle Γ ρ d a1 z_4 g_4 ho_13) (by omega) nr_is_7 rfl rfl (Nat.le_of_ble_eq_true rfl) rfl ?_
  refine G_aload_n hX dX2_doSecondPart_16 rfl rfl ?_
  refine G_getr hX dX2_doSecondPart_17 gt_RX2_9 rfl ?_
  refine G_iload_n hX dX2_doSecondPart_20 rfl rfl ?_
  obtain ⟨ho_21, hok⟩ := hok
  refine G_fVi hX dX2_doSecondPart_21 lv_RX2_55 (sp_X3_next Γ ρ d a1 z_4 g_4 ho_21) (by omega) nr_is_7 rfl rfl (Nat.le_of_ble_eq_true rfl) rfl ?_
  refine G_iload_n hX dX2_doSecondPart_24 rfl rfl ?_
  refine G_iload_n hX dX2_doSecondPart_25 rfl rfl ?_
  refine G_iconst (v := (1 : Int32)) hX dX2_doSecondPart_26 (by decide) rfl ?_
  refine G_iadd hX dX2_doSecondPart_27 rfl ?_
  obtain ⟨ho_28, hok⟩ := hok
  refine G_cVi hX dX2_doSecondPart_28 lv_RX2_34 (hA (R_X3_middle a1 z_4 g_4) (R_X3_next a1 z_4 g_4) a2 (a3 + (1 : Int32)) z_4 g_4 ho_28) (by omega) nr_is_19 rfl rfl (Nat.le_of_ble_eq_true rfl) rfl (fun r_28 u_28 e_28 => ?_)
  obtain ⟨z_28, g_28⟩ := u_28
  obtain ⟨hb_28, e_28⟩ := e_28
  rw [e_28, nr_K_mk] at hR
  exact G_iret hX rfl dX2_doSecondPart_31 hb_28 ⟨hb_28, hR.symm⟩
def T_X2_doAndHear_55 (rc : Int32 → Int32 → Int32 → Int32 → nr_S → Int32 × nr_S) (oc : Int32 → Int32 → Int32 → Int32 → nr_S → Prop) (a1 : Int32) (a2 : Int32) (a3 : Int32) (p0 : Nat) (p1 : Nat) (s2 : Int32) (z : Nat → Int32) (g : Nat → Nat → Int32) : Int32 × nr_S := (nr_K (T_X0_addToSum p0 (R_X4_fact p1 s2 z g) z g) (fun r_58 z_58 g_58 => (nr_K (T_X2_doSecondPart rc oc a1 a2 a3 z_58 g_58) (fun r_65 z_65 g_65 => (r_65, z_65, g_65)))))
def O_X2_doAndHear_55 (rc : Int32 → Int32 → Int32 → Int32 → nr_S → Int32 × nr_S) (oc : Int32 → Int32 → Int32 → Int32 → nr_S → Prop) (a1 : Int32) (a2 : Int32) (a3 : Int32) (p0 : Nat) (p1 : Nat) (s2 : Int32) (z : Nat → Int32) (g : Nat → Nat → Int32) : Prop := (nr_ta p1 ∧ (O_X4_fact p1 s2 z g ∧ ((nr_ho p0 ∧ nr_KP (T_X0_addToSum p0 (R_X4_fact p1 s2 z g) z g) (fun r_58 z_58 g_58 => ((O_X2_doSecondPart rc oc a1 a2 a3 z_58 g_58 ∧ True)))))))
set_option maxHeartbeats 4000000 in
set_option maxRecDepth 100000 in
theorem sp_X2_doAndHear_55 (Γ : nr_M) (ρ : Nat → Nat) (d : Nat) (rc : Int32 → Int32 → Int32 → Int32 → nr_S → Int32 × nr_S) (oc : Int32 → Int32 → Int32 → Int32 → nr_S → Prop) (hA : ∀ (a1 : Int32) (a2 : Int32) (a3 : Int32) (a4 : Int32) (z : Nat → Int32) (g : Nat → Nat → Int32), oc a1 a2 a3 a4 (z, g) → nr_Si Γ ρ d yX2_doActs cX2_doActs 7 (some .boolean) [.ref (ρ 19), .int a1, .int a2, .int a3, .int a4] z g (fun x u => narrow .boolean (.int x) = .int x ∧ rc a1 a2 a3 a4 (z, g) = (x, u))) (X : nr_CX) (hX : nr_Cx Γ ρ X yX2_doAndHear cX2_doAndHear 5 (some .boolean) (d + 3)) (a1 : Int32) (a2 : Int32) (a3 : Int32) (p0 : Nat) (p1 : Nat) (s2 : Int32) (z : Nat → Int32) (g : Nat → Nat → Int32) (R0 : Int32 × nr_S) (hR : T_X2_doAndHear_55 rc oc a1 a2 a3 p0 p1 s2 z g = R0) (hok : O_X2_doAndHear_55 rc oc a1 a2 a3 p0 p1 s2 z g) : nr_G Γ ρ X 5 (nr_Qi Γ ρ X (fun x u => narrow .boolean (.int x) = .int x ∧ R0 = (x, u))) 55 [(0, .ref (ρ 19)), (1, .int a1), (2, .int a2), (3, .int a3)] [.int s2, .ref (ρ p1), .ref (ρ p0)] z g := by
  rw [T_X2_doAndHear_55] at hR
  rw [O_X2_doAndHear_55] at hok
  obtain ⟨hh_55, hok⟩ := hok
  obtain ⟨ho_55, hok⟩ := hok
  refine G_fVi hX dX2_doAndHear_55 lv_RX2_47 (sp_X4_fact Γ ρ d p1 s2 hh_55 z g ho_55) (by omega) (nr_is_ta hh_55) rfl rfl (Nat.le_of_ble_eq_true rfl) rfl ?_
  obtain ⟨hh_58, hok⟩ := hok
  refine G_cVv hX dX2_doAndHear_58 lv_RX2_94 (sp_X0_addToSum Γ ρ d p0 (R_X4_fact p1 s2 z g) hh_58 z g) (by omega) (nr_is_ho hh_58) rfl rfl (Nat.le_of_ble_eq_true rfl) rfl (fun u_58 e_58 => ?_)
  obtain ⟨z_58, g_58⟩ := u_58
  rw [e_58, nr_K_mk] at hR
  rw [e_58, nr_KP_mk] at hok
  refine G_aload_n hX dX2_doAndHear_61 rfl rfl ?_
  refine G_iload_n hX dX2_doAndHear_62 rfl rfl ?_
  refine G_iload_n hX dX2_doAndHear_63 rfl rfl ?_
  refine G_iload_n hX dX2_doAndHear_64 rfl rfl ?_
  obtain ⟨ho_65, hok⟩ := hok
  refine G_cVi hX dX2_doAndHear_65 lv_RX2_131 (sp_X2_doSecondPart Γ ρ d rc oc hA a1 a2 a3 z_58 g_58 ho_65) (by omega) nr_is_19 rfl rfl (Nat.le_of_ble_eq_true rfl) rfl (fun r_65 u_65 e_65 => ?_)
  obtain ⟨z_65, g_65⟩ := u_65
  obtain ⟨hb_65, e_65⟩ := e_65
  rw [e_65, nr_K_mk] at hR
  exact G_iret hX rfl dX2_doAndHear_68 hb_65 ⟨hb_65, hR.symm⟩
def T_X2_doAndHear_36 (rc : Int32 → Int32 → Int32 → Int32 → nr_S → Int32 × nr_S) (oc : Int32 → Int32 → Int32 → Int32 → nr_S → Prop) (a1 : Int32) (a2 : Int32) (a3 : Int32) (a4 : Int32) (z : Nat → Int32) (g : Nat → Nat → Int32) : Int32 × nr_S := (if a4 = (4 : Int32) then (T_X2_doAndHear_55 rc oc a1 a2 a3 (nr_ix (z 16)) (nr_ix (z 17)) (2 : Int32) z g) else (T_X2_doAndHear_55 rc oc a1 a2 a3 (nr_ix (z 16)) (nr_ix (z 17)) (3 : Int32) z g))
def O_X2_doAndHear_36 (rc : Int32 → Int32 → Int32 → Int32 → nr_S → Int32 × nr_S) (oc : Int32 → Int32 → Int32 → Int32 → nr_S → Prop) (a1 : Int32) (a2 : Int32) (a3 : Int32) (a4 : Int32) (z : Nat → Int32) (g : Nat → Nat → Int32) : Prop := ((a4 = (4 : Int32) → (O_X2_doAndHear_55 rc oc a1 a2 a3 (nr_ix (z 16)) (nr_ix (z 17)) (2 : Int32) z g)) ∧ (¬ (a4 = (4 : Int32)) → (O_X2_doAndHear_55 rc oc a1 a2 a3 (nr_ix (z 16)) (nr_ix (z 17)) (3 : Int32) z g)))
set_option maxHeartbeats 4000000 in
set_option maxRecDepth 100000 in
theorem sp_X2_doAndHear_36 (Γ : nr_M) (ρ : Nat → Nat) (d : Nat) (rc : Int32 → Int32 → Int32 → Int32 → nr_S → Int32 × nr_S) (oc : Int32 → Int32 → Int32 → Int32 → nr_S → Prop) (hA : ∀ (a1 : Int32) (a2 : Int32) (a3 : Int32) (a4 : Int32) (z : Nat → Int32) (g : Nat → Nat → Int32), oc a1 a2 a3 a4 (z, g) → nr_Si Γ ρ d yX2_doActs cX2_doActs 7 (some .boolean) [.ref (ρ 19), .int a1, .int a2, .int a3, .int a4] z g (fun x u => narrow .boolean (.int x) = .int x ∧ rc a1 a2 a3 a4 (z, g) = (x, u))) (X : nr_CX) (hX : nr_Cx Γ ρ X yX2_doAndHear cX2_doAndHear 5 (some .boolean) (d + 3)) (a1 : Int32) (a2 : Int32) (a3 : Int32) (a4 : Int32) (z : Nat → Int32) (g : Nat → Nat → Int32) (R0 : Int32 × nr_S) (hR : T_X2_doAndHear_36 rc oc a1 a2 a3 a4 z g = R0) (hok : O_X2_doAndHear_36 rc oc a1 a2 a3 a4 z g) : nr_G Γ ρ X 5 (nr_Qi Γ ρ X (fun x u => narrow .boolean (.int x) = .int x ∧ R0 = (x, u))) 36 [(0, .ref (ρ 19)), (1, .int a1), (2, .int a2), (3, .int a3), (4, .int a4)] [] z g := by
  rw [T_X2_doAndHear_36] at hR
  rw [O_X2_doAndHear_36] at hok
  refine G_aload_n hX dX2_doAndHear_36 rfl rfl ?_
  refine G_geth hX dX2_doAndHear_37 gt_RX2_15 rfl ?_
  refine G_aload_n hX dX2_doAndHear_40 rfl rfl ?_
  refine G_gett hX dX2_doAndHear_41 gt_RX2_19 rfl ?_
  refine G_iload hX dX2_doAndHear_44 rfl rfl ?_
  refine G_iconst (v := (4 : Int32)) hX dX2_doAndHear_46 (by decide) rfl ?_
  refine G_icmp_ne (tg := 54) hX dX2_doAndHear_47 (by decide) rfl (fun (h_47 : ¬ (a4 = (4 : Int32))) => ?_) (fun (h_47 : a4 = (4 : Int32)) => ?_)
  · rw [if_neg h_47] at hR
    replace hok := hok.2 h_47
    refine G_iconst (v := (3 : Int32)) hX dX2_doAndHear_54 (by decide) rfl ?_
    exact nr_sub (by exact ⟨rfl, rfl, rfl, rfl, trivial⟩) (sp_X2_doAndHear_55 Γ ρ d rc oc hA X hX a1 a2 a3 (nr_ix (z 16)) (nr_ix (z 17)) (3 : Int32) z g R0 hR hok)
  · rw [if_pos h_47] at hR
    replace hok := hok.1 h_47
    refine G_iconst (v := (2 : Int32)) hX dX2_doAndHear_50 (by decide) rfl ?_
    refine G_goto (tg := 55) hX dX2_doAndHear_51 (by decide) ?_
    exact nr_sub (by exact ⟨rfl, rfl, rfl, rfl, trivial⟩) (sp_X2_doAndHear_55 Γ ρ d rc oc hA X hX a1 a2 a3 (nr_ix (z 16)) (nr_ix (z 17)) (2 : Int32) z g R0 hR hok)
def T_X2_doAndHear (rc : Int32 → Int32 → Int32 → Int32 → nr_S → Int32 × nr_S) (oc : Int32 → Int32 → Int32 → Int32 → nr_S → Prop) (a1 : Int32) (a2 : Int32) (a3 : Int32) (z : Nat → Int32) (g : Nat → Nat → Int32) : Int32 × nr_S := (nr_K (T_X2_doFirstPart rc oc a1 a2 a3 z g) (fun r_4 z_4 g_4 => (if r_4 = 0 then (if (R_X4_fact (nr_ix (z_4 17)) (0 : Int32) z_4 g_4) = (4 : Int32) then (T_X2_doAndHear_36 rc oc a1 a2 a3 (R_X4_fact (nr_ix (z_4 17)) (0 : Int32) z_4 g_4) z_4 g_4) else (if (R_X4_fact (nr_ix (z_4 17)) (0 : Int32) z_4 g_4) = (5 : Int32) then (T_X2_doAndHear_36 rc oc a1 a2 a3 (R_X4_fact (nr_ix (z_4 17)) (0 : Int32) z_4 g_4) z_4 g_4) else ((0 : Int32), z_4, g_4))) else ((1 : Int32), z_4, g_4))))
def O_X2_doAndHear (rc : Int32 → Int32 → Int32 → Int32 → nr_S → Int32 × nr_S) (oc : Int32 → Int32 → Int32 → Int32 → nr_S → Prop) (a1 : Int32) (a2 : Int32) (a3 : Int32) (z : Nat → Int32) (g : Nat → Nat → Int32) : Prop := ((O_X2_doFirstPart rc oc a1 a2 a3 z g ∧ nr_KP (T_X2_doFirstPart rc oc a1 a2 a3 z g) (fun r_4 z_4 g_4 => ((r_4 = 0 → (nr_ta (nr_ix (z_4 17)) ∧ (O_X4_fact (nr_ix (z_4 17)) (0 : Int32) z_4 g_4 ∧ (((R_X4_fact (nr_ix (z_4 17)) (0 : Int32) z_4 g_4) = (4 : Int32) → (O_X2_doAndHear_36 rc oc a1 a2 a3 (R_X4_fact (nr_ix (z_4 17)) (0 : Int32) z_4 g_4) z_4 g_4)) ∧ (¬ ((R_X4_fact (nr_ix (z_4 17)) (0 : Int32) z_4 g_4) = (4 : Int32)) → (((R_X4_fact (nr_ix (z_4 17)) (0 : Int32) z_4 g_4) = (5 : Int32) → (O_X2_doAndHear_36 rc oc a1 a2 a3 (R_X4_fact (nr_ix (z_4 17)) (0 : Int32) z_4 g_4) z_4 g_4)) ∧ (¬ ((R_X4_fact (nr_ix (z_4 17)) (0 : Int32) z_4 g_4) = (5 : Int32)) → True))))))) ∧ (¬ (r_4 = 0) → True)))))
set_option maxHeartbeats 4000000 in
set_option maxRecDepth 100000 in
theorem sp_X2_doAndHear (Γ : nr_M) (ρ : Nat → Nat) (d : Nat) (rc : Int32 → Int32 → Int32 → Int32 → nr_S → Int32 × nr_S) (oc : Int32 → Int32 → Int32 → Int32 → nr_S → Prop) (hA : ∀ (a1 : Int32) (a2 : Int32) (a3 : Int32) (a4 : Int32) (z : Nat → Int32) (g : Nat → Nat → Int32), oc a1 a2 a3 a4 (z, g) → nr_Si Γ ρ d yX2_doActs cX2_doActs 7 (some .boolean) [.ref (ρ 19), .int a1, .int a2, .int a3, .int a4] z g (fun x u => narrow .boolean (.int x) = .int x ∧ rc a1 a2 a3 a4 (z, g) = (x, u))) (a1 : Int32) (a2 : Int32) (a3 : Int32) (z : Nat → Int32) (g : Nat → Nat → Int32) (hok : O_X2_doAndHear rc oc a1 a2 a3 z g) : nr_Si Γ ρ (d + 3) yX2_doAndHear cX2_doAndHear 5 (some .boolean) [.ref (ρ 19), .int a1, .int a2, .int a3] z g (fun x u => narrow .boolean (.int x) = .int x ∧ (T_X2_doAndHear rc oc a1 a2 a3 z g) = (x, u)) := by
  refine nr_body_i (lv := [(0, .ref (ρ 19)), (1, .int a1), (2, .int a2), (3, .int a3)]) (by decide +kernel) (Nat.le_of_ble_eq_true rfl) rfl (fun X hX => ?_)
  generalize hR : (T_X2_doAndHear rc oc a1 a2 a3 z g) = R0
  rw [T_X2_doAndHear] at hR
  rw [O_X2_doAndHear] at hok
  refine G_aload_n hX dX2_doAndHear_0 rfl rfl ?_
  refine G_iload_n hX dX2_doAndHear_1 rfl rfl ?_
  refine G_iload_n hX dX2_doAndHear_2 rfl rfl ?_
  refine G_iload_n hX dX2_doAndHear_3 rfl rfl ?_
  obtain ⟨ho_4, hok⟩ := hok
  refine G_cVi hX dX2_doAndHear_4 lv_RX2_122 (sp_X2_doFirstPart Γ ρ d rc oc hA a1 a2 a3 z g ho_4) (by omega) nr_is_19 rfl rfl (Nat.le_of_ble_eq_true rfl) rfl (fun r_4 u_4 e_4 => ?_)
  obtain ⟨z_4, g_4⟩ := u_4
  obtain ⟨hb_4, e_4⟩ := e_4
  rw [e_4, nr_K_mk] at hR
  rw [e_4, nr_KP_mk] at hok
  refine G_if_eq (tg := 12) hX dX2_doAndHear_7 (by decide) rfl (fun (h_7 : r_4 = 0) => ?_) (fun (h_7 : ¬ (r_4 = 0)) => ?_)
  · rw [if_pos h_7] at hR
    replace hok := hok.1 h_7
    refine G_aload_n hX dX2_doAndHear_12 rfl rfl ?_
    refine G_gett hX dX2_doAndHear_13 gt_RX2_19 rfl ?_
    refine G_iconst (v := (0 : Int32)) hX dX2_doAndHear_16 (by decide) rfl ?_
    obtain ⟨hh_17, hok⟩ := hok
    obtain ⟨ho_17, hok⟩ := hok
    refine G_fVi hX dX2_doAndHear_17 lv_RX2_47 (sp_X4_fact Γ ρ d (nr_ix (z_4 17)) (0 : Int32) hh_17 z_4 g_4 ho_17) (by omega) (nr_is_ta hh_17) rfl rfl (Nat.le_of_ble_eq_true rfl) rfl ?_
    refine G_istore hX dX2_doAndHear_20 (by decide) rfl rfl ?_
    refine G_iload hX dX2_doAndHear_22 rfl rfl ?_
    refine G_iconst (v := (4 : Int32)) hX dX2_doAndHear_24 (by decide) rfl ?_
    refine G_icmp_eq (tg := 36) hX dX2_doAndHear_25 (by decide) rfl (fun (h_25 : (R_X4_fact (nr_ix (z_4 17)) (0 : Int32) z_4 g_4) = (4 : Int32)) => ?_) (fun (h_25 : ¬ ((R_X4_fact (nr_ix (z_4 17)) (0 : Int32) z_4 g_4) = (4 : Int32))) => ?_)
    · rw [if_pos h_25] at hR
      replace hok := hok.1 h_25
      exact nr_sub (by exact ⟨rfl, rfl, rfl, rfl, rfl, trivial⟩) (sp_X2_doAndHear_36 Γ ρ d rc oc hA X hX a1 a2 a3 (R_X4_fact (nr_ix (z_4 17)) (0 : Int32) z_4 g_4) z_4 g_4 R0 hR hok)
    · rw [if_neg h_25] at hR
      replace hok := hok.2 h_25
      refine G_iload hX dX2_doAndHear_28 rfl rfl ?_
      refine G_iconst (v := (5 : Int32)) hX dX2_doAndHear_30 (by decide) rfl ?_
      refine G_icmp_eq (tg := 36) hX dX2_doAndHear_31 (by decide) rfl (fun (h_31 : (R_X4_fact (nr_ix (z_4 17)) (0 : Int32) z_4 g_4) = (5 : Int32)) => ?_) (fun (h_31 : ¬ ((R_X4_fact (nr_ix (z_4 17)) (0 : Int32) z_4 g_4) = (5 : Int32))) => ?_)
      · rw [if_pos h_31] at hR
        replace hok := hok.1 h_31
        exact nr_sub (by exact ⟨rfl, rfl, rfl, rfl, rfl, trivial⟩) (sp_X2_doAndHear_36 Γ ρ d rc oc hA X hX a1 a2 a3 (R_X4_fact (nr_ix (z_4 17)) (0 : Int32) z_4 g_4) z_4 g_4 R0 hR hok)
      · rw [if_neg h_31] at hR
        replace hok := hok.2 h_31
        refine G_iconst (v := (0 : Int32)) hX dX2_doAndHear_34 (by decide) rfl ?_
        exact G_iret hX rfl dX2_doAndHear_35 rfl ⟨rfl, hR.symm⟩
  · rw [if_neg h_7] at hR
    replace hok := hok.2 h_7
    refine G_iconst (v := (1 : Int32)) hX dX2_doAndHear_10 (by decide) rfl ?_
    exact G_iret hX rfl dX2_doAndHear_11 rfl ⟨rfl, hR.symm⟩
def T_X2_doAndReport (rc : Int32 → Int32 → Int32 → Int32 → nr_S → Int32 × nr_S) (oc : Int32 → Int32 → Int32 → Int32 → nr_S → Prop) (a1 : Int32) (a2 : Int32) (a3 : Int32) (z : Nat → Int32) (g : Nat → Nat → Int32) : Int32 × nr_S := (nr_K (T_X2_doFirstPart rc oc a1 a2 a3 z g) (fun r_4 z_4 g_4 => (if r_4 = 0 then (if (R_X4_fact (nr_ix (z_4 17)) (0 : Int32) z_4 g_4) = (6 : Int32) then ((0 : Int32), z_4, g_4) else (nr_K (T_X4_report (nr_ix (z_4 17)) z_4 g_4) (fun r_29 z_29 g_29 => ((0 : Int32), z_29, g_29)))) else ((1 : Int32), z_4, g_4))))
def O_X2_doAndReport (rc : Int32 → Int32 → Int32 → Int32 → nr_S → Int32 × nr_S) (oc : Int32 → Int32 → Int32 → Int32 → nr_S → Prop) (a1 : Int32) (a2 : Int32) (a3 : Int32) (z : Nat → Int32) (g : Nat → Nat → Int32) : Prop := ((O_X2_doFirstPart rc oc a1 a2 a3 z g ∧ nr_KP (T_X2_doFirstPart rc oc a1 a2 a3 z g) (fun r_4 z_4 g_4 => ((r_4 = 0 → (nr_ta (nr_ix (z_4 17)) ∧ (O_X4_fact (nr_ix (z_4 17)) (0 : Int32) z_4 g_4 ∧ (((R_X4_fact (nr_ix (z_4 17)) (0 : Int32) z_4 g_4) = (6 : Int32) → True) ∧ (¬ ((R_X4_fact (nr_ix (z_4 17)) (0 : Int32) z_4 g_4) = (6 : Int32)) → ((nr_ta (nr_ix (z_4 17)) ∧ (O_X4_report (nr_ix (z_4 17)) z_4 g_4 ∧ True)))))))) ∧ (¬ (r_4 = 0) → True)))))
set_option maxHeartbeats 4000000 in
set_option maxRecDepth 100000 in
theorem sp_X2_doAndReport (Γ : nr_M) (ρ : Nat → Nat) (d : Nat) (rc : Int32 → Int32 → Int32 → Int32 → nr_S → Int32 × nr_S) (oc : Int32 → Int32 → Int32 → Int32 → nr_S → Prop) (hA : ∀ (a1 : Int32) (a2 : Int32) (a3 : Int32) (a4 : Int32) (z : Nat → Int32) (g : Nat → Nat → Int32), oc a1 a2 a3 a4 (z, g) → nr_Si Γ ρ d yX2_doActs cX2_doActs 7 (some .boolean) [.ref (ρ 19), .int a1, .int a2, .int a3, .int a4] z g (fun x u => narrow .boolean (.int x) = .int x ∧ rc a1 a2 a3 a4 (z, g) = (x, u))) (a1 : Int32) (a2 : Int32) (a3 : Int32) (z : Nat → Int32) (g : Nat → Nat → Int32) (hok : O_X2_doAndReport rc oc a1 a2 a3 z g) : nr_Si Γ ρ (d + 3) yX2_doAndReport cX2_doAndReport 4 (some .boolean) [.ref (ρ 19), .int a1, .int a2, .int a3] z g (fun x u => narrow .boolean (.int x) = .int x ∧ (T_X2_doAndReport rc oc a1 a2 a3 z g) = (x, u)) := by
  refine nr_body_i (lv := [(0, .ref (ρ 19)), (1, .int a1), (2, .int a2), (3, .int a3)]) (by decide +kernel) (Nat.le_of_ble_eq_true rfl) rfl (fun X hX => ?_)
  generalize hR : (T_X2_doAndReport rc oc a1 a2 a3 z g) = R0
  rw [T_X2_doAndReport] at hR
  rw [O_X2_doAndReport] at hok
  refine G_aload_n hX dX2_doAndReport_0 rfl rfl ?_
  refine G_iload_n hX dX2_doAndReport_1 rfl rfl ?_
  refine G_iload_n hX dX2_doAndReport_2 rfl rfl ?_
  refine G_iload_n hX dX2_doAndReport_3 rfl rfl ?_
  obtain ⟨ho_4, hok⟩ := hok
  refine G_cVi hX dX2_doAndReport_4 lv_RX2_122 (sp_X2_doFirstPart Γ ρ d rc oc hA a1 a2 a3 z g ho_4) (by omega) nr_is_19 rfl rfl (Nat.le_of_ble_eq_true rfl) rfl (fun r_4 u_4 e_4 => ?_)
  obtain ⟨z_4, g_4⟩ := u_4
  obtain ⟨hb_4, e_4⟩ := e_4
  rw [e_4, nr_K_mk] at hR
  rw [e_4, nr_KP_mk] at hok
  refine G_if_eq (tg := 12) hX dX2_doAndReport_7 (by decide) rfl (fun (h_7 : r_4 = 0) => ?_) (fun (h_7 : ¬ (r_4 = 0)) => ?_)
  · rw [if_pos h_7] at hR
    replace hok := hok.1 h_7
    refine G_aload_n hX dX2_doAndReport_12 rfl rfl ?_
    refine G_gett hX dX2_doAndReport_13 gt_RX2_19 rfl ?_
    refine G_iconst (v := (0 : Int32)) hX dX2_doAndReport_16 (by decide) rfl ?_
    obtain ⟨hh_17, hok⟩ := hok
    obtain ⟨ho_17, hok⟩ := hok
    refine G_fVi hX dX2_doAndReport_17 lv_RX2_47 (sp_X4_fact Γ ρ d (nr_ix (z_4 17)) (0 : Int32) hh_17 z_4 g_4 ho_17) (by omega) (nr_is_ta hh_17) rfl rfl (Nat.le_of_ble_eq_true rfl) rfl ?_
    refine G_bipush (v := (6 : Int32)) hX dX2_doAndReport_20 (by decide) rfl ?_
    refine G_icmp_eq (tg := 32) hX dX2_doAndReport_22 (by decide) rfl (fun (h_22 : (R_X4_fact (nr_ix (z_4 17)) (0 : Int32) z_4 g_4) = (6 : Int32)) => ?_) (fun (h_22 : ¬ ((R_X4_fact (nr_ix (z_4 17)) (0 : Int32) z_4 g_4) = (6 : Int32))) => ?_)
    · rw [if_pos h_22] at hR
      replace hok := hok.1 h_22
      refine G_iconst (v := (0 : Int32)) hX dX2_doAndReport_32 (by decide) rfl ?_
      exact G_iret hX rfl dX2_doAndReport_33 rfl ⟨rfl, hR.symm⟩
    · rw [if_neg h_22] at hR
      replace hok := hok.2 h_22
      refine G_aload_n hX dX2_doAndReport_25 rfl rfl ?_
      refine G_gett hX dX2_doAndReport_26 gt_RX2_19 rfl ?_
      obtain ⟨hh_29, hok⟩ := hok
      obtain ⟨ho_29, hok⟩ := hok
      refine G_cVv hX dX2_doAndReport_29 lv_RX2_134 (sp_X4_report Γ ρ d (nr_ix (z_4 17)) hh_29 z_4 g_4 ho_29) (by omega) (nr_is_ta hh_29) rfl rfl (Nat.le_of_ble_eq_true rfl) rfl (fun u_29 e_29 => ?_)
      obtain ⟨z_29, g_29⟩ := u_29
      rw [e_29, nr_K_mk] at hR
      refine G_iconst (v := (0 : Int32)) hX dX2_doAndReport_32 (by decide) rfl ?_
      exact G_iret hX rfl dX2_doAndReport_33 rfl ⟨rfl, hR.symm⟩
  · rw [if_neg h_7] at hR
    replace hok := hok.2 h_7
    refine G_iconst (v := (1 : Int32)) hX dX2_doAndReport_10 (by decide) rfl ?_
    exact G_iret hX rfl dX2_doAndReport_11 rfl ⟨rfl, hR.symm⟩
def T_X2_doInRoom (a1 : Int32) (a2 : Int32) (z : Nat → Int32) (g : Nat → Nat → Int32) : Int32 × nr_S := (if a1 = (107 : Int32) then (nr_K (T_X0_takeKey (nr_ix (z 16)) a2 z g) (fun r_51 z_51 g_51 => ((1 : Int32), z_51, g_51))) else (if a1 = (108 : Int32) then (nr_K (T_X0_turnLamp (nr_ix (z 16)) a2 z g) (fun r_41 z_41 g_41 => ((1 : Int32), z_41, g_41))) else (if a1 = (119 : Int32) then (nr_K (T_X0_wakes (nr_ix (z 16)) a2 (R_X0_cell (nr_ix (z 16)) a2 (3 : Int32) z g) z g) (fun r_70 z_70 g_70 => (if r_70 = 0 then ((1 : Int32), z_70, g_70) else (nr_K (T_X2_befalls (2 : Int32) a2 z_70 g_70) (fun r_79 z_79 g_79 => (r_79, z_79, g_79)))))) else (if (R_X0_cell (nr_ix (z 16)) a2 (5 : Int32) z g) = 0 then (nr_K (T_X2_befalls (3 : Int32) a2 z g) (fun r_102 z_102 g_102 => (r_102, z_102, g_102))) else (nr_K (T_X0_addToSum (nr_ix (z 16)) (R_X0_sleepNow (nr_ix (z 16)) a2 z g) z g) (fun r_118 z_118 g_118 => ((1 : Int32), z_118, g_118)))))))
def O_X2_doInRoom (a1 : Int32) (a2 : Int32) (z : Nat → Int32) (g : Nat → Nat → Int32) : Prop := ((a1 = (107 : Int32) → ((nr_ho (nr_ix (z 16)) ∧ (O_X0_takeKey (nr_ix (z 16)) a2 z g ∧ True)))) ∧ (¬ (a1 = (107 : Int32)) → ((a1 = (108 : Int32) → ((nr_ho (nr_ix (z 16)) ∧ (O_X0_turnLamp (nr_ix (z 16)) a2 z g ∧ True)))) ∧ (¬ (a1 = (108 : Int32)) → ((a1 = (119 : Int32) → (nr_ho (nr_ix (z 16)) ∧ (O_X0_cell (nr_ix (z 16)) a2 (3 : Int32) z g ∧ ((nr_ho (nr_ix (z 16)) ∧ (O_X0_wakes (nr_ix (z 16)) a2 (R_X0_cell (nr_ix (z 16)) a2 (3 : Int32) z g) z g ∧ nr_KP (T_X0_wakes (nr_ix (z 16)) a2 (R_X0_cell (nr_ix (z 16)) a2 (3 : Int32) z g) z g) (fun r_70 z_70 g_70 => ((r_70 = 0 → True) ∧ (¬ (r_70 = 0) → ((O_X2_befalls (2 : Int32) a2 z_70 g_70 ∧ True))))))))))) ∧ (¬ (a1 = (119 : Int32)) → (nr_ho (nr_ix (z 16)) ∧ (O_X0_cell (nr_ix (z 16)) a2 (5 : Int32) z g ∧ (((R_X0_cell (nr_ix (z 16)) a2 (5 : Int32) z g) = 0 → ((O_X2_befalls (3 : Int32) a2 z g ∧ True))) ∧ (¬ ((R_X0_cell (nr_ix (z 16)) a2 (5 : Int32) z g) = 0) → (nr_ho (nr_ix (z 16)) ∧ (O_X0_sleepNow (nr_ix (z 16)) a2 z g ∧ ((nr_ho (nr_ix (z 16)) ∧ True))))))))))))))
set_option maxHeartbeats 4000000 in
set_option maxRecDepth 100000 in
theorem sp_X2_doInRoom (Γ : nr_M) (ρ : Nat → Nat) (d : Nat) (a1 : Int32) (a2 : Int32) (z : Nat → Int32) (g : Nat → Nat → Int32) (hok : O_X2_doInRoom a1 a2 z g) : nr_Si Γ ρ (d + 3) yX2_doInRoom cX2_doInRoom 3 (some .boolean) [.ref (ρ 19), .int a1, .int a2] z g (fun x u => narrow .boolean (.int x) = .int x ∧ (T_X2_doInRoom a1 a2 z g) = (x, u)) := by
  refine nr_body_i (lv := [(0, .ref (ρ 19)), (1, .int a1), (2, .int a2)]) (by decide +kernel) (Nat.le_of_ble_eq_true rfl) rfl (fun X hX => ?_)
  generalize hR : (T_X2_doInRoom a1 a2 z g) = R0
  rw [T_X2_doInRoom] at hR
  rw [O_X2_doInRoom] at hok
  refine G_iload_n hX dX2_doInRoom_0 rfl rfl ?_
  by_cases h_1_107 : a1 = (107 : Int32)
  · rw [if_pos h_1_107] at hR
    replace hok := hok.1 h_1_107
    refine G_lookup (off := 45) (tg := 46) hX dX2_doInRoom_1 (by decide) (by rw [h_1_107]; decide) (by decide) ?_
    refine G_aload_n hX dX2_doInRoom_46 rfl rfl ?_
    refine G_geth hX dX2_doInRoom_47 gt_RX2_15 rfl ?_
    refine G_iload_n hX dX2_doInRoom_50 rfl rfl ?_
    obtain ⟨hh_51, hok⟩ := hok
    obtain ⟨ho_51, hok⟩ := hok
    refine G_cVv hX dX2_doInRoom_51 lv_RX2_140 (sp_X0_takeKey Γ ρ d (nr_ix (z 16)) a2 hh_51 z g ho_51) (by omega) (nr_is_ho hh_51) rfl rfl (Nat.le_of_ble_eq_true rfl) rfl (fun u_51 e_51 => ?_)
    obtain ⟨z_51, g_51⟩ := u_51
    rw [e_51, nr_K_mk] at hR
    refine G_iconst (v := (1 : Int32)) hX dX2_doInRoom_54 (by decide) rfl ?_
    exact G_iret hX rfl dX2_doInRoom_55 rfl ⟨rfl, hR.symm⟩
  · rw [if_neg h_1_107] at hR
    replace hok := hok.2 h_1_107
    by_cases h_1_108 : a1 = (108 : Int32)
    · rw [if_pos h_1_108] at hR
      replace hok := hok.1 h_1_108
      refine G_lookup (off := 35) (tg := 36) hX dX2_doInRoom_1 (by decide) (by rw [h_1_108]; decide) (by decide) ?_
      refine G_aload_n hX dX2_doInRoom_36 rfl rfl ?_
      refine G_geth hX dX2_doInRoom_37 gt_RX2_15 rfl ?_
      refine G_iload_n hX dX2_doInRoom_40 rfl rfl ?_
      obtain ⟨hh_41, hok⟩ := hok
      obtain ⟨ho_41, hok⟩ := hok
      refine G_cVv hX dX2_doInRoom_41 lv_RX2_137 (sp_X0_turnLamp Γ ρ d (nr_ix (z 16)) a2 hh_41 z g ho_41) (by omega) (nr_is_ho hh_41) rfl rfl (Nat.le_of_ble_eq_true rfl) rfl (fun u_41 e_41 => ?_)
      obtain ⟨z_41, g_41⟩ := u_41
      rw [e_41, nr_K_mk] at hR
      refine G_iconst (v := (1 : Int32)) hX dX2_doInRoom_44 (by decide) rfl ?_
      exact G_iret hX rfl dX2_doInRoom_45 rfl ⟨rfl, hR.symm⟩
    · rw [if_neg h_1_108] at hR
      replace hok := hok.2 h_1_108
      by_cases h_1_119 : a1 = (119 : Int32)
      · rw [if_pos h_1_119] at hR
        replace hok := hok.1 h_1_119
        refine G_lookup (off := 55) (tg := 56) hX dX2_doInRoom_1 (by decide) (by rw [h_1_119]; decide) (by decide) ?_
        refine G_aload_n hX dX2_doInRoom_56 rfl rfl ?_
        refine G_geth hX dX2_doInRoom_57 gt_RX2_15 rfl ?_
        refine G_iload_n hX dX2_doInRoom_60 rfl rfl ?_
        refine G_aload_n hX dX2_doInRoom_61 rfl rfl ?_
        refine G_geth hX dX2_doInRoom_62 gt_RX2_15 rfl ?_
        refine G_iload_n hX dX2_doInRoom_65 rfl rfl ?_
        refine G_iconst (v := (3 : Int32)) hX dX2_doInRoom_66 (by decide) rfl ?_
        obtain ⟨hh_67, hok⟩ := hok
        obtain ⟨ho_67, hok⟩ := hok
        refine G_fVi hX dX2_doInRoom_67 lv_RX2_143 (sp_X0_cell Γ ρ d (nr_ix (z 16)) a2 (3 : Int32) hh_67 z g ho_67) (by omega) (nr_is_ho hh_67) rfl rfl (Nat.le_of_ble_eq_true rfl) rfl ?_
        obtain ⟨hh_70, hok⟩ := hok
        obtain ⟨ho_70, hok⟩ := hok
        refine G_cVi hX dX2_doInRoom_70 lv_RX2_119 (sp_X0_wakes Γ ρ d (nr_ix (z 16)) a2 (R_X0_cell (nr_ix (z 16)) a2 (3 : Int32) z g) hh_70 z g ho_70) (by omega) (nr_is_ho hh_70) rfl rfl (Nat.le_of_ble_eq_true rfl) rfl (fun r_70 u_70 e_70 => ?_)
        obtain ⟨z_70, g_70⟩ := u_70
        obtain ⟨hb_70, e_70⟩ := e_70
        rw [e_70, nr_K_mk] at hR
        rw [e_70, nr_KP_mk] at hok
        refine G_if_eq (tg := 85) hX dX2_doInRoom_73 (by decide) rfl (fun (h_73 : r_70 = 0) => ?_) (fun (h_73 : ¬ (r_70 = 0)) => ?_)
        · rw [if_pos h_73] at hR
          replace hok := hok.1 h_73
          refine G_iconst (v := (1 : Int32)) hX dX2_doInRoom_85 (by decide) rfl ?_
          exact G_iret hX rfl dX2_doInRoom_86 rfl ⟨rfl, hR.symm⟩
        · rw [if_neg h_73] at hR
          replace hok := hok.2 h_73
          refine G_aload_n hX dX2_doInRoom_76 rfl rfl ?_
          refine G_iconst (v := (2 : Int32)) hX dX2_doInRoom_77 (by decide) rfl ?_
          refine G_iload_n hX dX2_doInRoom_78 rfl rfl ?_
          obtain ⟨ho_79, hok⟩ := hok
          refine G_cVi hX dX2_doInRoom_79 lv_RX2_62 (sp_X2_befalls Γ ρ d (2 : Int32) a2 z_70 g_70 ho_79) (by omega) nr_is_19 rfl rfl (Nat.le_of_ble_eq_true rfl) rfl (fun r_79 u_79 e_79 => ?_)
          obtain ⟨z_79, g_79⟩ := u_79
          obtain ⟨hb_79, e_79⟩ := e_79
          rw [e_79, nr_K_mk] at hR
          refine G_goto (tg := 86) hX dX2_doInRoom_82 (by decide) ?_
          exact G_iret hX rfl dX2_doInRoom_86 hb_79 ⟨hb_79, hR.symm⟩
      · rw [if_neg h_1_119] at hR
        replace hok := hok.2 h_1_119
        refine G_lookup (off := 86) (tg := 87) hX dX2_doInRoom_1 (by decide) (by show Op.lookupswitch.offset [(107, 45), (108, 35), (119, 55)] (86) (a1).toInt = 86; rw [lv_osw (a := 107) h_1_107 (by decide), lv_osw (a := 108) h_1_108 (by decide), lv_osw (a := 119) h_1_119 (by decide)]; rfl) (by decide) ?_
        refine G_aload_n hX dX2_doInRoom_87 rfl rfl ?_
        refine G_geth hX dX2_doInRoom_88 gt_RX2_15 rfl ?_
        refine G_iload_n hX dX2_doInRoom_91 rfl rfl ?_
        refine G_iconst (v := (5 : Int32)) hX dX2_doInRoom_92 (by decide) rfl ?_
        obtain ⟨hh_93, hok⟩ := hok
        obtain ⟨ho_93, hok⟩ := hok
        refine G_fVi hX dX2_doInRoom_93 lv_RX2_143 (sp_X0_cell Γ ρ d (nr_ix (z 16)) a2 (5 : Int32) hh_93 z g ho_93) (by omega) (nr_is_ho hh_93) rfl rfl (Nat.le_of_ble_eq_true rfl) rfl ?_
        refine G_if_ne (tg := 106) hX dX2_doInRoom_96 (by decide) rfl (fun (h_96 : ¬ ((R_X0_cell (nr_ix (z 16)) a2 (5 : Int32) z g) = 0)) => ?_) (fun (h_96 : (R_X0_cell (nr_ix (z 16)) a2 (5 : Int32) z g) = 0) => ?_)
        · rw [if_neg h_96] at hR
          replace hok := hok.2 h_96
          refine G_aload_n hX dX2_doInRoom_106 rfl rfl ?_
          refine G_geth hX dX2_doInRoom_107 gt_RX2_15 rfl ?_
          refine G_aload_n hX dX2_doInRoom_110 rfl rfl ?_
          refine G_geth hX dX2_doInRoom_111 gt_RX2_15 rfl ?_
          refine G_iload_n hX dX2_doInRoom_114 rfl rfl ?_
          obtain ⟨hh_115, hok⟩ := hok
          obtain ⟨ho_115, hok⟩ := hok
          refine G_fVi hX dX2_doInRoom_115 lv_RX2_147 (sp_X0_sleepNow Γ ρ d (nr_ix (z 16)) a2 hh_115 z g ho_115) (by omega) (nr_is_ho hh_115) rfl rfl (Nat.le_of_ble_eq_true rfl) rfl ?_
          obtain ⟨hh_118, hok⟩ := hok
          refine G_cVv hX dX2_doInRoom_118 lv_RX2_94 (sp_X0_addToSum Γ ρ d (nr_ix (z 16)) (R_X0_sleepNow (nr_ix (z 16)) a2 z g) hh_118 z g) (by omega) (nr_is_ho hh_118) rfl rfl (Nat.le_of_ble_eq_true rfl) rfl (fun u_118 e_118 => ?_)
          obtain ⟨z_118, g_118⟩ := u_118
          rw [e_118, nr_K_mk] at hR
          refine G_iconst (v := (1 : Int32)) hX dX2_doInRoom_121 (by decide) rfl ?_
          exact G_iret hX rfl dX2_doInRoom_122 rfl ⟨rfl, hR.symm⟩
        · rw [if_pos h_96] at hR
          replace hok := hok.1 h_96
          refine G_aload_n hX dX2_doInRoom_99 rfl rfl ?_
          refine G_iconst (v := (3 : Int32)) hX dX2_doInRoom_100 (by decide) rfl ?_
          refine G_iload_n hX dX2_doInRoom_101 rfl rfl ?_
          obtain ⟨ho_102, hok⟩ := hok
          refine G_cVi hX dX2_doInRoom_102 lv_RX2_62 (sp_X2_befalls Γ ρ d (3 : Int32) a2 z g ho_102) (by omega) nr_is_19 rfl rfl (Nat.le_of_ble_eq_true rfl) rfl (fun r_102 u_102 e_102 => ?_)
          obtain ⟨z_102, g_102⟩ := u_102
          obtain ⟨hb_102, e_102⟩ := e_102
          rw [e_102, nr_K_mk] at hR
          exact G_iret hX rfl dX2_doInRoom_105 hb_102 ⟨hb_102, hR.symm⟩
def T_X2_doOrElse (rc : Int32 → Int32 → Int32 → Int32 → nr_S → Int32 × nr_S) (oc : Int32 → Int32 → Int32 → Int32 → nr_S → Prop) (a1 : Int32) (a2 : Int32) (a3 : Int32) (z : Nat → Int32) (g : Nat → Nat → Int32) : Int32 × nr_S := (nr_K (T_X2_doFirstPart rc oc a1 a2 a3 z g) (fun r_4 z_4 g_4 => (if r_4 = 0 then (if (R_X5_within (R_X4_fact (nr_ix (z_4 17)) (0 : Int32) z_4 g_4) (1 : Int32) (3 : Int32)) = 0 then ((0 : Int32), z_4, g_4) else (nr_K (T_X2_doSecondPart rc oc a1 a2 a3 z_4 g_4) (fun r_32 z_32 g_32 => (if r_32 = 0 then ((0 : Int32), z_32, g_32) else ((1 : Int32), z_32, g_32))))) else ((1 : Int32), z_4, g_4))))
def O_X2_doOrElse (rc : Int32 → Int32 → Int32 → Int32 → nr_S → Int32 × nr_S) (oc : Int32 → Int32 → Int32 → Int32 → nr_S → Prop) (a1 : Int32) (a2 : Int32) (a3 : Int32) (z : Nat → Int32) (g : Nat → Nat → Int32) : Prop := ((O_X2_doFirstPart rc oc a1 a2 a3 z g ∧ nr_KP (T_X2_doFirstPart rc oc a1 a2 a3 z g) (fun r_4 z_4 g_4 => ((r_4 = 0 → (nr_ta (nr_ix (z_4 17)) ∧ (O_X4_fact (nr_ix (z_4 17)) (0 : Int32) z_4 g_4 ∧ (((R_X5_within (R_X4_fact (nr_ix (z_4 17)) (0 : Int32) z_4 g_4) (1 : Int32) (3 : Int32)) = 0 → True) ∧ (¬ ((R_X5_within (R_X4_fact (nr_ix (z_4 17)) (0 : Int32) z_4 g_4) (1 : Int32) (3 : Int32)) = 0) → ((O_X2_doSecondPart rc oc a1 a2 a3 z_4 g_4 ∧ True))))))) ∧ (¬ (r_4 = 0) → True)))))
set_option maxHeartbeats 4000000 in
set_option maxRecDepth 100000 in
theorem sp_X2_doOrElse (Γ : nr_M) (ρ : Nat → Nat) (d : Nat) (rc : Int32 → Int32 → Int32 → Int32 → nr_S → Int32 × nr_S) (oc : Int32 → Int32 → Int32 → Int32 → nr_S → Prop) (hA : ∀ (a1 : Int32) (a2 : Int32) (a3 : Int32) (a4 : Int32) (z : Nat → Int32) (g : Nat → Nat → Int32), oc a1 a2 a3 a4 (z, g) → nr_Si Γ ρ d yX2_doActs cX2_doActs 7 (some .boolean) [.ref (ρ 19), .int a1, .int a2, .int a3, .int a4] z g (fun x u => narrow .boolean (.int x) = .int x ∧ rc a1 a2 a3 a4 (z, g) = (x, u))) (a1 : Int32) (a2 : Int32) (a3 : Int32) (z : Nat → Int32) (g : Nat → Nat → Int32) (hok : O_X2_doOrElse rc oc a1 a2 a3 z g) : nr_Si Γ ρ (d + 3) yX2_doOrElse cX2_doOrElse 4 (some .boolean) [.ref (ρ 19), .int a1, .int a2, .int a3] z g (fun x u => narrow .boolean (.int x) = .int x ∧ (T_X2_doOrElse rc oc a1 a2 a3 z g) = (x, u)) := by
  refine nr_body_i (lv := [(0, .ref (ρ 19)), (1, .int a1), (2, .int a2), (3, .int a3)]) (by decide +kernel) (Nat.le_of_ble_eq_true rfl) rfl (fun X hX => ?_)
  generalize hR : (T_X2_doOrElse rc oc a1 a2 a3 z g) = R0
  rw [T_X2_doOrElse] at hR
  rw [O_X2_doOrElse] at hok
  refine G_aload_n hX dX2_doOrElse_0 rfl rfl ?_
  refine G_iload_n hX dX2_doOrElse_1 rfl rfl ?_
  refine G_iload_n hX dX2_doOrElse_2 rfl rfl ?_
  refine G_iload_n hX dX2_doOrElse_3 rfl rfl ?_
  obtain ⟨ho_4, hok⟩ := hok
  refine G_cVi hX dX2_doOrElse_4 lv_RX2_122 (sp_X2_doFirstPart Γ ρ d rc oc hA a1 a2 a3 z g ho_4) (by omega) nr_is_19 rfl rfl (Nat.le_of_ble_eq_true rfl) rfl (fun r_4 u_4 e_4 => ?_)
  obtain ⟨z_4, g_4⟩ := u_4
  obtain ⟨hb_4, e_4⟩ := e_4
  rw [e_4, nr_K_mk] at hR
  rw [e_4, nr_KP_mk] at hok
  refine G_if_eq (tg := 12) hX dX2_doOrElse_7 (by decide) rfl (fun (h_7 : r_4 = 0) => ?_) (fun (h_7 : ¬ (r_4 = 0)) => ?_)
  · rw [if_pos h_7] at hR
    replace hok := hok.1 h_7
    refine G_aload_n hX dX2_doOrElse_12 rfl rfl ?_
    refine G_gett hX dX2_doOrElse_13 gt_RX2_19 rfl ?_
    refine G_iconst (v := (0 : Int32)) hX dX2_doOrElse_16 (by decide) rfl ?_
    obtain ⟨hh_17, hok⟩ := hok
    obtain ⟨ho_17, hok⟩ := hok
    refine G_fVi hX dX2_doOrElse_17 lv_RX2_47 (sp_X4_fact Γ ρ d (nr_ix (z_4 17)) (0 : Int32) hh_17 z_4 g_4 ho_17) (by omega) (nr_is_ta hh_17) rfl rfl (Nat.le_of_ble_eq_true rfl) rfl ?_
    refine G_iconst (v := (1 : Int32)) hX dX2_doOrElse_20 (by decide) rfl ?_
    refine G_iconst (v := (3 : Int32)) hX dX2_doOrElse_21 (by decide) rfl ?_
    refine G_fSi hX dX2_doOrElse_22 ls_RX2_128 (sp_X5_within Γ ρ d (R_X4_fact (nr_ix (z_4 17)) (0 : Int32) z_4 g_4) (1 : Int32) (3 : Int32) z_4 g_4) (by omega) rfl rfl (Nat.le_of_ble_eq_true rfl) rfl ?_
    refine G_if_eq (tg := 42) hX dX2_doOrElse_25 (by decide) rfl (fun (h_25 : (R_X5_within (R_X4_fact (nr_ix (z_4 17)) (0 : Int32) z_4 g_4) (1 : Int32) (3 : Int32)) = 0) => ?_) (fun (h_25 : ¬ ((R_X5_within (R_X4_fact (nr_ix (z_4 17)) (0 : Int32) z_4 g_4) (1 : Int32) (3 : Int32)) = 0)) => ?_)
    · rw [if_pos h_25] at hR
      replace hok := hok.1 h_25
      refine G_iconst (v := (0 : Int32)) hX dX2_doOrElse_42 (by decide) rfl ?_
      exact G_iret hX rfl dX2_doOrElse_43 rfl ⟨rfl, hR.symm⟩
    · rw [if_neg h_25] at hR
      replace hok := hok.2 h_25
      refine G_aload_n hX dX2_doOrElse_28 rfl rfl ?_
      refine G_iload_n hX dX2_doOrElse_29 rfl rfl ?_
      refine G_iload_n hX dX2_doOrElse_30 rfl rfl ?_
      refine G_iload_n hX dX2_doOrElse_31 rfl rfl ?_
      obtain ⟨ho_32, hok⟩ := hok
      refine G_cVi hX dX2_doOrElse_32 lv_RX2_131 (sp_X2_doSecondPart Γ ρ d rc oc hA a1 a2 a3 z_4 g_4 ho_32) (by omega) nr_is_19 rfl rfl (Nat.le_of_ble_eq_true rfl) rfl (fun r_32 u_32 e_32 => ?_)
      obtain ⟨z_32, g_32⟩ := u_32
      obtain ⟨hb_32, e_32⟩ := e_32
      rw [e_32, nr_K_mk] at hR
      refine G_if_eq (tg := 42) hX dX2_doOrElse_35 (by decide) rfl (fun (h_35 : r_32 = 0) => ?_) (fun (h_35 : ¬ (r_32 = 0)) => ?_)
      · rw [if_pos h_35] at hR
        refine G_iconst (v := (0 : Int32)) hX dX2_doOrElse_42 (by decide) rfl ?_
        exact G_iret hX rfl dX2_doOrElse_43 rfl ⟨rfl, hR.symm⟩
      · rw [if_neg h_35] at hR
        refine G_iconst (v := (1 : Int32)) hX dX2_doOrElse_38 (by decide) rfl ?_
        refine G_goto (tg := 43) hX dX2_doOrElse_39 (by decide) ?_
        exact G_iret hX rfl dX2_doOrElse_43 rfl ⟨rfl, hR.symm⟩
  · rw [if_neg h_7] at hR
    replace hok := hok.2 h_7
    refine G_iconst (v := (1 : Int32)) hX dX2_doOrElse_10 (by decide) rfl ?_
    exact G_iret hX rfl dX2_doOrElse_11 rfl ⟨rfl, hR.symm⟩
def T_X2_doSoOften_13 (rc : Int32 → Int32 → Int32 → Int32 → nr_S → Int32 × nr_S) (oc : Int32 → Int32 → Int32 → Int32 → nr_S → Prop) : Nat → Int32 → Int32 → Int32 → Int32 → Int32 → (Nat → Int32) → (Nat → Nat → Int32) → Int32 × nr_S
  | 0, _, _, _, _, _, z, g => (0, z, g)
  | n + 1, a1, a2, a3, a4, a5, z, g => (if a4 ≤ a5 then ((1 : Int32), z, g) else (nr_K (T_X2_doFirstPart rc oc a1 a2 a3 z g) (fun r_24 z_24 g_24 => (if r_24 = 0 then ((0 : Int32), z_24, g_24) else (T_X2_doSoOften_13 rc oc n a1 a2 a3 a4 (a5 + (1 : Int32)) z_24 g_24)))))
def O_X2_doSoOften_13 (rc : Int32 → Int32 → Int32 → Int32 → nr_S → Int32 × nr_S) (oc : Int32 → Int32 → Int32 → Int32 → nr_S → Prop) : Nat → Int32 → Int32 → Int32 → Int32 → Int32 → (Nat → Int32) → (Nat → Nat → Int32) → Prop
  | 0, _, _, _, _, _, _, _ => False
  | n + 1, a1, a2, a3, a4, a5, z, g => ((a4 ≤ a5 → True) ∧ (¬ (a4 ≤ a5) → ((O_X2_doFirstPart rc oc a1 a2 a3 z g ∧ nr_KP (T_X2_doFirstPart rc oc a1 a2 a3 z g) (fun r_24 z_24 g_24 => ((r_24 = 0 → True) ∧ (¬ (r_24 = 0) → (O_X2_doSoOften_13 rc oc n a1 a2 a3 a4 (a5 + (1 : Int32)) z_24 g_24))))))))
set_option maxHeartbeats 4000000 in
set_option maxRecDepth 100000 in
theorem sp_X2_doSoOften_13 (Γ : nr_M) (ρ : Nat → Nat) (d : Nat) (rc : Int32 → Int32 → Int32 → Int32 → nr_S → Int32 × nr_S) (oc : Int32 → Int32 → Int32 → Int32 → nr_S → Prop) (hA : ∀ (a1 : Int32) (a2 : Int32) (a3 : Int32) (a4 : Int32) (z : Nat → Int32) (g : Nat → Nat → Int32), oc a1 a2 a3 a4 (z, g) → nr_Si Γ ρ d yX2_doActs cX2_doActs 7 (some .boolean) [.ref (ρ 19), .int a1, .int a2, .int a3, .int a4] z g (fun x u => narrow .boolean (.int x) = .int x ∧ rc a1 a2 a3 a4 (z, g) = (x, u))) (X : nr_CX) (hX : nr_Cx Γ ρ X yX2_doSoOften cX2_doSoOften 6 (some .boolean) (d + 3)) : ∀ (n : Nat) (a1 : Int32) (a2 : Int32) (a3 : Int32) (a4 : Int32) (a5 : Int32) (z : Nat → Int32) (g : Nat → Nat → Int32) (R0 : Int32 × nr_S) (_ : T_X2_doSoOften_13 rc oc n a1 a2 a3 a4 a5 z g = R0) (_ : O_X2_doSoOften_13 rc oc n a1 a2 a3 a4 a5 z g), nr_G Γ ρ X 6 (nr_Qi Γ ρ X (fun x u => narrow .boolean (.int x) = .int x ∧ R0 = (x, u))) 13 [(0, .ref (ρ 19)), (1, .int a1), (2, .int a2), (3, .int a3), (4, .int a4), (5, .int a5)] [] z g := by
  intro n
  induction n with
  | zero => intro a1 a2 a3 a4 a5 z g R0 hR hok; exact False.elim hok
  | succ n ih =>
    intro a1 a2 a3 a4 a5 z g R0 hR hok
    rw [T_X2_doSoOften_13] at hR
    rw [O_X2_doSoOften_13] at hok
    refine G_iload hX dX2_doSoOften_13 rfl rfl ?_
    refine G_iload hX dX2_doSoOften_15 rfl rfl ?_
    refine G_icmp_ge (tg := 38) hX dX2_doSoOften_17 (by decide) rfl (fun (h_17 : a4 ≤ a5) => ?_) (fun (h_17 : ¬ (a4 ≤ a5)) => ?_)
    · rw [if_pos h_17] at hR
      replace hok := hok.1 h_17
      refine G_iconst (v := (1 : Int32)) hX dX2_doSoOften_38 (by decide) rfl ?_
      exact G_iret hX rfl dX2_doSoOften_39 rfl ⟨rfl, hR.symm⟩
    · rw [if_neg h_17] at hR
      replace hok := hok.2 h_17
      refine G_aload_n hX dX2_doSoOften_20 rfl rfl ?_
      refine G_iload_n hX dX2_doSoOften_21 rfl rfl ?_
      refine G_iload_n hX dX2_doSoOften_22 rfl rfl ?_
      refine G_iload_n hX dX2_doSoOften_23 rfl rfl ?_
      obtain ⟨ho_24, hok⟩ := hok
      refine G_cVi hX dX2_doSoOften_24 lv_RX2_122 (sp_X2_doFirstPart Γ ρ d rc oc hA a1 a2 a3 z g ho_24) (by omega) nr_is_19 rfl rfl (Nat.le_of_ble_eq_true rfl) rfl (fun r_24 u_24 e_24 => ?_)
      obtain ⟨z_24, g_24⟩ := u_24
      obtain ⟨hb_24, e_24⟩ := e_24
      rw [e_24, nr_K_mk] at hR
      rw [e_24, nr_KP_mk] at hok
      refine G_if_ne (tg := 32) hX dX2_doSoOften_27 (by decide) rfl (fun (h_27 : ¬ (r_24 = 0)) => ?_) (fun (h_27 : r_24 = 0) => ?_)
      · rw [if_neg h_27] at hR
        replace hok := hok.2 h_27
        refine G_iinc (v := (a5 + (1 : Int32))) hX dX2_doSoOften_32 rfl rfl (by decide) rfl rfl ?_
        refine G_goto (tg := 13) hX dX2_doSoOften_35 (by decide) ?_
        exact nr_sub (by exact ⟨rfl, rfl, rfl, rfl, rfl, rfl, trivial⟩) (ih a1 a2 a3 a4 (a5 + (1 : Int32)) z_24 g_24 R0 hR hok)
      · rw [if_pos h_27] at hR
        replace hok := hok.1 h_27
        refine G_iconst (v := (0 : Int32)) hX dX2_doSoOften_30 (by decide) rfl ?_
        exact G_iret hX rfl dX2_doSoOften_31 rfl ⟨rfl, hR.symm⟩
def T_X2_doSoOften (rc : Int32 → Int32 → Int32 → Int32 → nr_S → Int32 × nr_S) (oc : Int32 → Int32 → Int32 → Int32 → nr_S → Prop) (a1 : Int32) (a2 : Int32) (a3 : Int32) (z : Nat → Int32) (g : Nat → Nat → Int32) : Int32 × nr_S := (T_X2_doSoOften_13 rc oc 500 a1 a2 a3 (R_X3_figure a1 z g) (0 : Int32) z g)
def O_X2_doSoOften (rc : Int32 → Int32 → Int32 → Int32 → nr_S → Int32 × nr_S) (oc : Int32 → Int32 → Int32 → Int32 → nr_S → Prop) (a1 : Int32) (a2 : Int32) (a3 : Int32) (z : Nat → Int32) (g : Nat → Nat → Int32) : Prop := (O_X3_figure a1 z g ∧ (O_X2_doSoOften_13 rc oc 500 a1 a2 a3 (R_X3_figure a1 z g) (0 : Int32) z g))
set_option maxHeartbeats 4000000 in
set_option maxRecDepth 100000 in
theorem sp_X2_doSoOften (Γ : nr_M) (ρ : Nat → Nat) (d : Nat) (rc : Int32 → Int32 → Int32 → Int32 → nr_S → Int32 × nr_S) (oc : Int32 → Int32 → Int32 → Int32 → nr_S → Prop) (hA : ∀ (a1 : Int32) (a2 : Int32) (a3 : Int32) (a4 : Int32) (z : Nat → Int32) (g : Nat → Nat → Int32), oc a1 a2 a3 a4 (z, g) → nr_Si Γ ρ d yX2_doActs cX2_doActs 7 (some .boolean) [.ref (ρ 19), .int a1, .int a2, .int a3, .int a4] z g (fun x u => narrow .boolean (.int x) = .int x ∧ rc a1 a2 a3 a4 (z, g) = (x, u))) (a1 : Int32) (a2 : Int32) (a3 : Int32) (z : Nat → Int32) (g : Nat → Nat → Int32) (hok : O_X2_doSoOften rc oc a1 a2 a3 z g) : nr_Si Γ ρ (d + 3) yX2_doSoOften cX2_doSoOften 6 (some .boolean) [.ref (ρ 19), .int a1, .int a2, .int a3] z g (fun x u => narrow .boolean (.int x) = .int x ∧ (T_X2_doSoOften rc oc a1 a2 a3 z g) = (x, u)) := by
  refine nr_body_i (lv := [(0, .ref (ρ 19)), (1, .int a1), (2, .int a2), (3, .int a3)]) (by decide +kernel) (Nat.le_of_ble_eq_true rfl) rfl (fun X hX => ?_)
  generalize hR : (T_X2_doSoOften rc oc a1 a2 a3 z g) = R0
  rw [T_X2_doSoOften] at hR
  rw [O_X2_doSoOften] at hok
  refine G_aload_n hX dX2_doSoOften_0 rfl rfl ?_
  refine G_getr hX dX2_doSoOften_1 gt_RX2_9 rfl ?_
  refine G_iload_n hX dX2_doSoOften_4 rfl rfl ?_
  obtain ⟨ho_5, hok⟩ := hok
  refine G_fVi hX dX2_doSoOften_5 lv_RX2_84 (sp_X3_figure Γ ρ d a1 z g ho_5) (by omega) nr_is_7 rfl rfl (Nat.le_of_ble_eq_true rfl) rfl ?_
  refine G_istore hX dX2_doSoOften_8 (by decide) rfl rfl ?_
  refine G_iconst (v := (0 : Int32)) hX dX2_doSoOften_10 (by decide) rfl ?_
  refine G_istore hX dX2_doSoOften_11 (by decide) rfl rfl ?_
  exact nr_sub (by exact ⟨rfl, rfl, rfl, rfl, rfl, rfl, trivial⟩) (sp_X2_doSoOften_13 Γ ρ d rc oc hA X hX 500 a1 a2 a3 (R_X3_figure a1 z g) (0 : Int32) z g R0 hR hok)
def T_X2_goInto_86 (rc : Int32 → Int32 → Int32 → Int32 → nr_S → Int32 × nr_S) (oc : Int32 → Int32 → Int32 → Int32 → nr_S → Prop) (a4 : Int32) (s0 : Int32) (z : Nat → Int32) (g : Nat → Nat → Int32) : Int32 × nr_S := (nr_K (T_X4_doorShut (nr_ix (z 17)) a4 z g) (fun r_94 z_94 g_94 => (nr_K (T_X0_wakes (nr_ix (z_94 16)) a4 ((R_X0_loudness (nr_ix (z_94 16)) a4 z_94 g_94) - (1 : Int32)) z_94 g_94) (fun r_114 z_114 g_114 => (s0, z_114, g_114)))))
def O_X2_goInto_86 (rc : Int32 → Int32 → Int32 → Int32 → nr_S → Int32 × nr_S) (oc : Int32 → Int32 → Int32 → Int32 → nr_S → Prop) (a4 : Int32) (s0 : Int32) (z : Nat → Int32) (g : Nat → Nat → Int32) : Prop := ((nr_ta (nr_ix (z 17)) ∧ (O_X4_doorShut (nr_ix (z 17)) a4 z g ∧ nr_KP (T_X4_doorShut (nr_ix (z 17)) a4 z g) (fun r_94 z_94 g_94 => (nr_ho (nr_ix (z_94 16)) ∧ (O_X0_loudness (nr_ix (z_94 16)) a4 z_94 g_94 ∧ ((nr_ho (nr_ix (z_94 16)) ∧ (O_X0_wakes (nr_ix (z_94 16)) a4 ((R_X0_loudness (nr_ix (z_94 16)) a4 z_94 g_94) - (1 : Int32)) z_94 g_94 ∧ nr_KP (T_X0_wakes (nr_ix (z_94 16)) a4 ((R_X0_loudness (nr_ix (z_94 16)) a4 z_94 g_94) - (1 : Int32)) z_94 g_94) (fun r_114 z_114 g_114 => (narrow .boolean (.int s0) = .int s0 ∧ True)))))))))))
set_option maxHeartbeats 4000000 in
set_option maxRecDepth 100000 in
theorem sp_X2_goInto_86 (Γ : nr_M) (ρ : Nat → Nat) (d : Nat) (rc : Int32 → Int32 → Int32 → Int32 → nr_S → Int32 × nr_S) (oc : Int32 → Int32 → Int32 → Int32 → nr_S → Prop) (hA : ∀ (a1 : Int32) (a2 : Int32) (a3 : Int32) (a4 : Int32) (z : Nat → Int32) (g : Nat → Nat → Int32), oc a1 a2 a3 a4 (z, g) → nr_Si Γ ρ d yX2_doActs cX2_doActs 7 (some .boolean) [.ref (ρ 19), .int a1, .int a2, .int a3, .int a4] z g (fun x u => narrow .boolean (.int x) = .int x ∧ rc a1 a2 a3 a4 (z, g) = (x, u))) (X : nr_CX) (hX : nr_Cx Γ ρ X yX2_goInto cX2_goInto 6 (some .boolean) (d + 3)) (a4 : Int32) (s0 : Int32) (z : Nat → Int32) (g : Nat → Nat → Int32) (R0 : Int32 × nr_S) (hR : T_X2_goInto_86 rc oc a4 s0 z g = R0) (hok : O_X2_goInto_86 rc oc a4 s0 z g) : nr_G Γ ρ X 6 (nr_Qi Γ ρ X (fun x u => narrow .boolean (.int x) = .int x ∧ R0 = (x, u))) 86 [(0, .ref (ρ 19)), (4, .int a4)] [.int s0] z g := by
  rw [T_X2_goInto_86] at hR
  rw [O_X2_goInto_86] at hok
  refine G_istore hX dX2_goInto_86 (by decide) rfl rfl ?_
  refine G_aload_n hX dX2_goInto_88 rfl rfl ?_
  refine G_gett hX dX2_goInto_89 gt_RX2_19 rfl ?_
  refine G_iload hX dX2_goInto_92 rfl rfl ?_
  obtain ⟨hh_94, hok⟩ := hok
  obtain ⟨ho_94, hok⟩ := hok
  refine G_cVv hX dX2_goInto_94 lv_RX2_125 (sp_X4_doorShut Γ ρ d (nr_ix (z 17)) a4 hh_94 z g ho_94) (by omega) (nr_is_ta hh_94) rfl rfl (Nat.le_of_ble_eq_true rfl) rfl (fun u_94 e_94 => ?_)
  obtain ⟨z_94, g_94⟩ := u_94
  rw [e_94, nr_K_mk] at hR
  rw [e_94, nr_KP_mk] at hok
  refine G_aload_n hX dX2_goInto_97 rfl rfl ?_
  refine G_geth hX dX2_goInto_98 gt_RX2_15 rfl ?_
  refine G_iload hX dX2_goInto_101 rfl rfl ?_
  refine G_aload_n hX dX2_goInto_103 rfl rfl ?_
  refine G_geth hX dX2_goInto_104 gt_RX2_15 rfl ?_
  refine G_iload hX dX2_goInto_107 rfl rfl ?_
  obtain ⟨hh_109, hok⟩ := hok
  obtain ⟨ho_109, hok⟩ := hok
  refine G_fVi hX dX2_goInto_109 lv_RX2_116 (sp_X0_loudness Γ ρ d (nr_ix (z_94 16)) a4 hh_109 z_94 g_94 ho_109) (by omega) (nr_is_ho hh_109) rfl rfl (Nat.le_of_ble_eq_true rfl) rfl ?_
  refine G_iconst (v := (1 : Int32)) hX dX2_goInto_112 (by decide) rfl ?_
  refine G_isub hX dX2_goInto_113 rfl ?_
  obtain ⟨hh_114, hok⟩ := hok
  obtain ⟨ho_114, hok⟩ := hok
  refine G_cVi hX dX2_goInto_114 lv_RX2_119 (sp_X0_wakes Γ ρ d (nr_ix (z_94 16)) a4 ((R_X0_loudness (nr_ix (z_94 16)) a4 z_94 g_94) - (1 : Int32)) hh_114 z_94 g_94 ho_114) (by omega) (nr_is_ho hh_114) rfl rfl (Nat.le_of_ble_eq_true rfl) rfl (fun r_114 u_114 e_114 => ?_)
  obtain ⟨z_114, g_114⟩ := u_114
  obtain ⟨hb_114, e_114⟩ := e_114
  rw [e_114, nr_K_mk] at hR
  rw [e_114, nr_KP_mk] at hok
  refine G_pop hX dX2_goInto_117 rfl rfl ?_
  refine G_iload hX dX2_goInto_118 rfl rfl ?_
  obtain ⟨hb_120, hok⟩ := hok
  exact G_iret hX rfl dX2_goInto_120 hb_120 ⟨hb_120, hR.symm⟩
def T_X2_goInto (rc : Int32 → Int32 → Int32 → Int32 → nr_S → Int32 × nr_S) (oc : Int32 → Int32 → Int32 → Int32 → nr_S → Prop) (a1 : Int32) (a2 : Int32) (a3 : Int32) (z : Nat → Int32) (g : Nat → Nat → Int32) : Int32 × nr_S := (if (R_X0_admits (nr_ix (z 16)) (R_X3_figure a1 z g) z g) = 0 then (nr_K (T_X2_befalls (1 : Int32) a2 z g) (fun r_25 z_25 g_25 => (r_25, z_25, g_25))) else (nr_K (T_X0_openDoor (nr_ix (z 16)) (R_X3_figure a1 z g) z g) (fun r_35 z_35 g_35 => (nr_K (T_X4_doorOpened (nr_ix (z_35 17)) (R_X3_figure a1 z g) z_35 g_35) (fun r_44 z_44 g_44 => (nr_K (T_X0_wakes (nr_ix (z_44 16)) (R_X3_figure a1 z g) (R_X0_loudness (nr_ix (z_44 16)) (R_X3_figure a1 z g) z_44 g_44) z_44 g_44) (fun r_62 z_62 g_62 => (if r_62 = 0 then (nr_K (T_X2_doFirstPart rc oc a1 (R_X3_figure a1 z g) a3 z_62 g_62) (fun r_83 z_83 g_83 => (T_X2_goInto_86 rc oc (R_X3_figure a1 z g) r_83 z_83 g_83))) else (nr_K (T_X2_befalls (2 : Int32) (R_X3_figure a1 z g) z_62 g_62) (fun r_72 z_72 g_72 => (T_X2_goInto_86 rc oc (R_X3_figure a1 z g) r_72 z_72 g_72)))))))))))
def O_X2_goInto (rc : Int32 → Int32 → Int32 → Int32 → nr_S → Int32 × nr_S) (oc : Int32 → Int32 → Int32 → Int32 → nr_S → Prop) (a1 : Int32) (a2 : Int32) (a3 : Int32) (z : Nat → Int32) (g : Nat → Nat → Int32) : Prop := (O_X3_figure a1 z g ∧ (nr_ho (nr_ix (z 16)) ∧ (O_X0_admits (nr_ix (z 16)) (R_X3_figure a1 z g) z g ∧ (((R_X0_admits (nr_ix (z 16)) (R_X3_figure a1 z g) z g) = 0 → ((O_X2_befalls (1 : Int32) a2 z g ∧ True))) ∧ (¬ ((R_X0_admits (nr_ix (z 16)) (R_X3_figure a1 z g) z g) = 0) → ((nr_ho (nr_ix (z 16)) ∧ (O_X0_openDoor (nr_ix (z 16)) (R_X3_figure a1 z g) z g ∧ nr_KP (T_X0_openDoor (nr_ix (z 16)) (R_X3_figure a1 z g) z g) (fun r_35 z_35 g_35 => ((nr_ta (nr_ix (z_35 17)) ∧ (O_X4_doorOpened (nr_ix (z_35 17)) (R_X3_figure a1 z g) z_35 g_35 ∧ nr_KP (T_X4_doorOpened (nr_ix (z_35 17)) (R_X3_figure a1 z g) z_35 g_35) (fun r_44 z_44 g_44 => (nr_ho (nr_ix (z_44 16)) ∧ (O_X0_loudness (nr_ix (z_44 16)) (R_X3_figure a1 z g) z_44 g_44 ∧ ((nr_ho (nr_ix (z_44 16)) ∧ (O_X0_wakes (nr_ix (z_44 16)) (R_X3_figure a1 z g) (R_X0_loudness (nr_ix (z_44 16)) (R_X3_figure a1 z g) z_44 g_44) z_44 g_44 ∧ nr_KP (T_X0_wakes (nr_ix (z_44 16)) (R_X3_figure a1 z g) (R_X0_loudness (nr_ix (z_44 16)) (R_X3_figure a1 z g) z_44 g_44) z_44 g_44) (fun r_62 z_62 g_62 => ((r_62 = 0 → ((O_X2_doFirstPart rc oc a1 (R_X3_figure a1 z g) a3 z_62 g_62 ∧ nr_KP (T_X2_doFirstPart rc oc a1 (R_X3_figure a1 z g) a3 z_62 g_62) (fun r_83 z_83 g_83 => (O_X2_goInto_86 rc oc (R_X3_figure a1 z g) r_83 z_83 g_83))))) ∧ (¬ (r_62 = 0) → ((O_X2_befalls (2 : Int32) (R_X3_figure a1 z g) z_62 g_62 ∧ nr_KP (T_X2_befalls (2 : Int32) (R_X3_figure a1 z g) z_62 g_62) (fun r_72 z_72 g_72 => (O_X2_goInto_86 rc oc (R_X3_figure a1 z g) r_72 z_72 g_72)))))))))))))))))))))))))
set_option maxHeartbeats 4000000 in
set_option maxRecDepth 100000 in
theorem sp_X2_goInto (Γ : nr_M) (ρ : Nat → Nat) (d : Nat) (rc : Int32 → Int32 → Int32 → Int32 → nr_S → Int32 × nr_S) (oc : Int32 → Int32 → Int32 → Int32 → nr_S → Prop) (hA : ∀ (a1 : Int32) (a2 : Int32) (a3 : Int32) (a4 : Int32) (z : Nat → Int32) (g : Nat → Nat → Int32), oc a1 a2 a3 a4 (z, g) → nr_Si Γ ρ d yX2_doActs cX2_doActs 7 (some .boolean) [.ref (ρ 19), .int a1, .int a2, .int a3, .int a4] z g (fun x u => narrow .boolean (.int x) = .int x ∧ rc a1 a2 a3 a4 (z, g) = (x, u))) (a1 : Int32) (a2 : Int32) (a3 : Int32) (z : Nat → Int32) (g : Nat → Nat → Int32) (hok : O_X2_goInto rc oc a1 a2 a3 z g) : nr_Si Γ ρ (d + 3) yX2_goInto cX2_goInto 6 (some .boolean) [.ref (ρ 19), .int a1, .int a2, .int a3] z g (fun x u => narrow .boolean (.int x) = .int x ∧ (T_X2_goInto rc oc a1 a2 a3 z g) = (x, u)) := by
  refine nr_body_i (lv := [(0, .ref (ρ 19)), (1, .int a1), (2, .int a2), (3, .int a3)]) (by decide +kernel) (Nat.le_of_ble_eq_true rfl) rfl (fun X hX => ?_)
  generalize hR : (T_X2_goInto rc oc a1 a2 a3 z g) = R0
  rw [T_X2_goInto] at hR
  rw [O_X2_goInto] at hok
  refine G_aload_n hX dX2_goInto_0 rfl rfl ?_
  refine G_getr hX dX2_goInto_1 gt_RX2_9 rfl ?_
  refine G_iload_n hX dX2_goInto_4 rfl rfl ?_
  obtain ⟨ho_5, hok⟩ := hok
  refine G_fVi hX dX2_goInto_5 lv_RX2_84 (sp_X3_figure Γ ρ d a1 z g ho_5) (by omega) nr_is_7 rfl rfl (Nat.le_of_ble_eq_true rfl) rfl ?_
  refine G_istore hX dX2_goInto_8 (by decide) rfl rfl ?_
  refine G_aload_n hX dX2_goInto_10 rfl rfl ?_
  refine G_geth hX dX2_goInto_11 gt_RX2_15 rfl ?_
  refine G_iload hX dX2_goInto_14 rfl rfl ?_
  obtain ⟨hh_16, hok⟩ := hok
  obtain ⟨ho_16, hok⟩ := hok
  refine G_fVi hX dX2_goInto_16 lv_RX2_106 (sp_X0_admits Γ ρ d (nr_ix (z 16)) (R_X3_figure a1 z g) hh_16 z g ho_16) (by omega) (nr_is_ho hh_16) rfl rfl (Nat.le_of_ble_eq_true rfl) rfl ?_
  refine G_if_ne (tg := 29) hX dX2_goInto_19 (by decide) rfl (fun (h_19 : ¬ ((R_X0_admits (nr_ix (z 16)) (R_X3_figure a1 z g) z g) = 0)) => ?_) (fun (h_19 : (R_X0_admits (nr_ix (z 16)) (R_X3_figure a1 z g) z g) = 0) => ?_)
  · rw [if_neg h_19] at hR
    replace hok := hok.2 h_19
    refine G_aload_n hX dX2_goInto_29 rfl rfl ?_
    refine G_geth hX dX2_goInto_30 gt_RX2_15 rfl ?_
    refine G_iload hX dX2_goInto_33 rfl rfl ?_
    obtain ⟨hh_35, hok⟩ := hok
    obtain ⟨ho_35, hok⟩ := hok
    refine G_cVv hX dX2_goInto_35 lv_RX2_110 (sp_X0_openDoor Γ ρ d (nr_ix (z 16)) (R_X3_figure a1 z g) hh_35 z g ho_35) (by omega) (nr_is_ho hh_35) rfl rfl (Nat.le_of_ble_eq_true rfl) rfl (fun u_35 e_35 => ?_)
    obtain ⟨z_35, g_35⟩ := u_35
    rw [e_35, nr_K_mk] at hR
    rw [e_35, nr_KP_mk] at hok
    refine G_aload_n hX dX2_goInto_38 rfl rfl ?_
    refine G_gett hX dX2_goInto_39 gt_RX2_19 rfl ?_
    refine G_iload hX dX2_goInto_42 rfl rfl ?_
    obtain ⟨hh_44, hok⟩ := hok
    obtain ⟨ho_44, hok⟩ := hok
    refine G_cVv hX dX2_goInto_44 lv_RX2_113 (sp_X4_doorOpened Γ ρ d (nr_ix (z_35 17)) (R_X3_figure a1 z g) hh_44 z_35 g_35 ho_44) (by omega) (nr_is_ta hh_44) rfl rfl (Nat.le_of_ble_eq_true rfl) rfl (fun u_44 e_44 => ?_)
    obtain ⟨z_44, g_44⟩ := u_44
    rw [e_44, nr_K_mk] at hR
    rw [e_44, nr_KP_mk] at hok
    refine G_aload_n hX dX2_goInto_47 rfl rfl ?_
    refine G_geth hX dX2_goInto_48 gt_RX2_15 rfl ?_
    refine G_iload hX dX2_goInto_51 rfl rfl ?_
    refine G_aload_n hX dX2_goInto_53 rfl rfl ?_
    refine G_geth hX dX2_goInto_54 gt_RX2_15 rfl ?_
    refine G_iload hX dX2_goInto_57 rfl rfl ?_
    obtain ⟨hh_59, hok⟩ := hok
    obtain ⟨ho_59, hok⟩ := hok
    refine G_fVi hX dX2_goInto_59 lv_RX2_116 (sp_X0_loudness Γ ρ d (nr_ix (z_44 16)) (R_X3_figure a1 z g) hh_59 z_44 g_44 ho_59) (by omega) (nr_is_ho hh_59) rfl rfl (Nat.le_of_ble_eq_true rfl) rfl ?_
    obtain ⟨hh_62, hok⟩ := hok
    obtain ⟨ho_62, hok⟩ := hok
    refine G_cVi hX dX2_goInto_62 lv_RX2_119 (sp_X0_wakes Γ ρ d (nr_ix (z_44 16)) (R_X3_figure a1 z g) (R_X0_loudness (nr_ix (z_44 16)) (R_X3_figure a1 z g) z_44 g_44) hh_62 z_44 g_44 ho_62) (by omega) (nr_is_ho hh_62) rfl rfl (Nat.le_of_ble_eq_true rfl) rfl (fun r_62 u_62 e_62 => ?_)
    obtain ⟨z_62, g_62⟩ := u_62
    obtain ⟨hb_62, e_62⟩ := e_62
    rw [e_62, nr_K_mk] at hR
    rw [e_62, nr_KP_mk] at hok
    refine G_if_eq (tg := 78) hX dX2_goInto_65 (by decide) rfl (fun (h_65 : r_62 = 0) => ?_) (fun (h_65 : ¬ (r_62 = 0)) => ?_)
    · rw [if_pos h_65] at hR
      replace hok := hok.1 h_65
      refine G_aload_n hX dX2_goInto_78 rfl rfl ?_
      refine G_iload_n hX dX2_goInto_79 rfl rfl ?_
      refine G_iload hX dX2_goInto_80 rfl rfl ?_
      refine G_iload_n hX dX2_goInto_82 rfl rfl ?_
      obtain ⟨ho_83, hok⟩ := hok
      refine G_cVi hX dX2_goInto_83 lv_RX2_122 (sp_X2_doFirstPart Γ ρ d rc oc hA a1 (R_X3_figure a1 z g) a3 z_62 g_62 ho_83) (by omega) nr_is_19 rfl rfl (Nat.le_of_ble_eq_true rfl) rfl (fun r_83 u_83 e_83 => ?_)
      obtain ⟨z_83, g_83⟩ := u_83
      obtain ⟨hb_83, e_83⟩ := e_83
      rw [e_83, nr_K_mk] at hR
      rw [e_83, nr_KP_mk] at hok
      exact nr_sub (by exact ⟨rfl, rfl, trivial⟩) (sp_X2_goInto_86 Γ ρ d rc oc hA X hX (R_X3_figure a1 z g) r_83 z_83 g_83 R0 hR hok)
    · rw [if_neg h_65] at hR
      replace hok := hok.2 h_65
      refine G_aload_n hX dX2_goInto_68 rfl rfl ?_
      refine G_iconst (v := (2 : Int32)) hX dX2_goInto_69 (by decide) rfl ?_
      refine G_iload hX dX2_goInto_70 rfl rfl ?_
      obtain ⟨ho_72, hok⟩ := hok
      refine G_cVi hX dX2_goInto_72 lv_RX2_62 (sp_X2_befalls Γ ρ d (2 : Int32) (R_X3_figure a1 z g) z_62 g_62 ho_72) (by omega) nr_is_19 rfl rfl (Nat.le_of_ble_eq_true rfl) rfl (fun r_72 u_72 e_72 => ?_)
      obtain ⟨z_72, g_72⟩ := u_72
      obtain ⟨hb_72, e_72⟩ := e_72
      rw [e_72, nr_K_mk] at hR
      rw [e_72, nr_KP_mk] at hok
      refine G_goto (tg := 86) hX dX2_goInto_75 (by decide) ?_
      exact nr_sub (by exact ⟨rfl, rfl, trivial⟩) (sp_X2_goInto_86 Γ ρ d rc oc hA X hX (R_X3_figure a1 z g) r_72 z_72 g_72 R0 hR hok)
  · rw [if_pos h_19] at hR
    replace hok := hok.1 h_19
    refine G_aload_n hX dX2_goInto_22 rfl rfl ?_
    refine G_iconst (v := (1 : Int32)) hX dX2_goInto_23 (by decide) rfl ?_
    refine G_iload_n hX dX2_goInto_24 rfl rfl ?_
    obtain ⟨ho_25, hok⟩ := hok
    refine G_cVi hX dX2_goInto_25 lv_RX2_62 (sp_X2_befalls Γ ρ d (1 : Int32) a2 z g ho_25) (by omega) nr_is_19 rfl rfl (Nat.le_of_ble_eq_true rfl) rfl (fun r_25 u_25 e_25 => ?_)
    obtain ⟨z_25, g_25⟩ := u_25
    obtain ⟨hb_25, e_25⟩ := e_25
    rw [e_25, nr_K_mk] at hR
    exact G_iret hX rfl dX2_goInto_28 hb_25 ⟨hb_25, hR.symm⟩
def T_X2_doAct (rc : Int32 → Int32 → Int32 → Int32 → nr_S → Int32 × nr_S) (oc : Int32 → Int32 → Int32 → Int32 → nr_S → Prop) (a1 : Int32) (a2 : Int32) (a3 : Int32) (z : Nat → Int32) (g : Nat → Nat → Int32) : Int32 × nr_S := (nr_K (T_X4_tick (nr_ix (z 17)) z g) (fun r_4 z_4 g_4 => (if r_4 = 0 then (nr_K (T_X2_befalls (6 : Int32) a2 z_4 g_4) (fun r_14 z_14 g_14 => (r_14, z_14, g_14))) else (if (R_X3_sign a1 z_4 g_4) = (33 : Int32) then (nr_K (T_X4_befall (nr_ix (z_4 17)) (4 : Int32) a2 (R_X3_figure a1 z_4 g_4) z_4 g_4) (fun r_146 z_146 g_146 => ((0 : Int32), z_146, g_146))) else (if (R_X3_sign a1 z_4 g_4) = (40 : Int32) then (nr_K (T_X2_doOrElse rc oc a1 a2 a3 z_4 g_4) (fun r_104 z_104 g_104 => (r_104, z_104, g_104))) else (if (R_X3_sign a1 z_4 g_4) = (43 : Int32) then (nr_K (T_X0_addToSum (nr_ix (z_4 16)) (R_X4_doorsOpen (nr_ix (z_4 17)) z_4 g_4) z_4 g_4) (fun r_162 z_162 g_162 => ((1 : Int32), z_162, g_162))) else (if (R_X3_sign a1 z_4 g_4) = (60 : Int32) then (nr_K (T_X2_doAndReport rc oc a1 a2 a3 z_4 g_4) (fun r_120 z_120 g_120 => (r_120, z_120, g_120))) else (if (R_X3_sign a1 z_4 g_4) = (82 : Int32) then (nr_K (T_X2_goInto rc oc a1 a2 a3 z_4 g_4) (fun r_96 z_96 g_96 => (r_96, z_96, g_96))) else (if (R_X3_sign a1 z_4 g_4) = (91 : Int32) then (nr_K (T_X2_doAndHear rc oc a1 a2 a3 z_4 g_4) (fun r_112 z_112 g_112 => (r_112, z_112, g_112))) else (if (R_X3_sign a1 z_4 g_4) = (120 : Int32) then (nr_K (T_X2_doSoOften rc oc a1 a2 a3 z_4 g_4) (fun r_128 z_128 g_128 => (r_128, z_128, g_128))) else (if a2 = (-1 : Int32) then (nr_K (T_X2_befalls (3 : Int32) a2 z_4 g_4) (fun r_175 z_175 g_175 => (r_175, z_175, g_175))) else (nr_K (T_X2_doInRoom (R_X3_sign a1 z_4 g_4) a2 z_4 g_4) (fun r_191 z_191 g_191 => (r_191, z_191, g_191))))))))))))))
def O_X2_doAct (rc : Int32 → Int32 → Int32 → Int32 → nr_S → Int32 × nr_S) (oc : Int32 → Int32 → Int32 → Int32 → nr_S → Prop) (a1 : Int32) (a2 : Int32) (a3 : Int32) (z : Nat → Int32) (g : Nat → Nat → Int32) : Prop := ((nr_ta (nr_ix (z 17)) ∧ nr_KP (T_X4_tick (nr_ix (z 17)) z g) (fun r_4 z_4 g_4 => ((r_4 = 0 → ((O_X2_befalls (6 : Int32) a2 z_4 g_4 ∧ True))) ∧ (¬ (r_4 = 0) → (O_X3_sign a1 z_4 g_4 ∧ (((R_X3_sign a1 z_4 g_4) = (33 : Int32) → (O_X3_figure a1 z_4 g_4 ∧ ((nr_ta (nr_ix (z_4 17)) ∧ True)))) ∧ (¬ ((R_X3_sign a1 z_4 g_4) = (33 : Int32)) → (((R_X3_sign a1 z_4 g_4) = (40 : Int32) → ((O_X2_doOrElse rc oc a1 a2 a3 z_4 g_4 ∧ True))) ∧ (¬ ((R_X3_sign a1 z_4 g_4) = (40 : Int32)) → (((R_X3_sign a1 z_4 g_4) = (43 : Int32) → (nr_ta (nr_ix (z_4 17)) ∧ ((nr_ho (nr_ix (z_4 16)) ∧ True)))) ∧ (¬ ((R_X3_sign a1 z_4 g_4) = (43 : Int32)) → (((R_X3_sign a1 z_4 g_4) = (60 : Int32) → ((O_X2_doAndReport rc oc a1 a2 a3 z_4 g_4 ∧ True))) ∧ (¬ ((R_X3_sign a1 z_4 g_4) = (60 : Int32)) → (((R_X3_sign a1 z_4 g_4) = (82 : Int32) → ((O_X2_goInto rc oc a1 a2 a3 z_4 g_4 ∧ True))) ∧ (¬ ((R_X3_sign a1 z_4 g_4) = (82 : Int32)) → (((R_X3_sign a1 z_4 g_4) = (91 : Int32) → ((O_X2_doAndHear rc oc a1 a2 a3 z_4 g_4 ∧ True))) ∧ (¬ ((R_X3_sign a1 z_4 g_4) = (91 : Int32)) → (((R_X3_sign a1 z_4 g_4) = (120 : Int32) → ((O_X2_doSoOften rc oc a1 a2 a3 z_4 g_4 ∧ True))) ∧ (¬ ((R_X3_sign a1 z_4 g_4) = (120 : Int32)) → ((a2 = (-1 : Int32) → ((O_X2_befalls (3 : Int32) a2 z_4 g_4 ∧ True))) ∧ (¬ (a2 = (-1 : Int32)) → (O_X3_sign a1 z_4 g_4 ∧ ((O_X2_doInRoom (R_X3_sign a1 z_4 g_4) a2 z_4 g_4 ∧ True)))))))))))))))))))))))))
set_option maxHeartbeats 4000000 in
set_option maxRecDepth 100000 in
theorem sp_X2_doAct (Γ : nr_M) (ρ : Nat → Nat) (d : Nat) (rc : Int32 → Int32 → Int32 → Int32 → nr_S → Int32 × nr_S) (oc : Int32 → Int32 → Int32 → Int32 → nr_S → Prop) (hA : ∀ (a1 : Int32) (a2 : Int32) (a3 : Int32) (a4 : Int32) (z : Nat → Int32) (g : Nat → Nat → Int32), oc a1 a2 a3 a4 (z, g) → nr_Si Γ ρ d yX2_doActs cX2_doActs 7 (some .boolean) [.ref (ρ 19), .int a1, .int a2, .int a3, .int a4] z g (fun x u => narrow .boolean (.int x) = .int x ∧ rc a1 a2 a3 a4 (z, g) = (x, u))) (a1 : Int32) (a2 : Int32) (a3 : Int32) (z : Nat → Int32) (g : Nat → Nat → Int32) (hok : O_X2_doAct rc oc a1 a2 a3 z g) : nr_Si Γ ρ (d + 4) yX2_doAct cX2_doAct 4 (some .boolean) [.ref (ρ 19), .int a1, .int a2, .int a3] z g (fun x u => narrow .boolean (.int x) = .int x ∧ (T_X2_doAct rc oc a1 a2 a3 z g) = (x, u)) := by
  refine nr_body_i (lv := [(0, .ref (ρ 19)), (1, .int a1), (2, .int a2), (3, .int a3)]) (by decide +kernel) (Nat.le_of_ble_eq_true rfl) rfl (fun X hX => ?_)
  generalize hR : (T_X2_doAct rc oc a1 a2 a3 z g) = R0
  rw [T_X2_doAct] at hR
  rw [O_X2_doAct] at hok
  refine G_aload_n hX dX2_doAct_0 rfl rfl ?_
  refine G_gett hX dX2_doAct_1 gt_RX2_19 rfl ?_
  obtain ⟨hh_4, hok⟩ := hok
  refine G_cVi hX dX2_doAct_4 lv_RX2_58 (sp_X4_tick Γ ρ d (nr_ix (z 17)) hh_4 z g) (by omega) (nr_is_ta hh_4) rfl rfl (Nat.le_of_ble_eq_true rfl) rfl (fun r_4 u_4 e_4 => ?_)
  obtain ⟨z_4, g_4⟩ := u_4
  obtain ⟨hb_4, e_4⟩ := e_4
  rw [e_4, nr_K_mk] at hR
  rw [e_4, nr_KP_mk] at hok
  refine G_if_ne (tg := 18) hX dX2_doAct_7 (by decide) rfl (fun (h_7 : ¬ (r_4 = 0)) => ?_) (fun (h_7 : r_4 = 0) => ?_)
  · rw [if_neg h_7] at hR
    replace hok := hok.2 h_7
    refine G_aload_n hX dX2_doAct_18 rfl rfl ?_
    refine G_getr hX dX2_doAct_19 gt_RX2_9 rfl ?_
    refine G_iload_n hX dX2_doAct_22 rfl rfl ?_
    obtain ⟨ho_23, hok⟩ := hok
    refine G_fVi hX dX2_doAct_23 lv_RX2_66 (sp_X3_sign Γ ρ d a1 z_4 g_4 ho_23) (by omega) nr_is_7 rfl rfl (Nat.le_of_ble_eq_true rfl) rfl ?_
    by_cases h_26_33 : (R_X3_sign a1 z_4 g_4) = (33 : Int32)
    · rw [if_pos h_26_33] at hR
      replace hok := hok.1 h_26_33
      refine G_lookup (off := 106) (tg := 132) hX dX2_doAct_26 (by decide) (by rw [h_26_33]; decide) (by decide) ?_
      refine G_aload_n hX dX2_doAct_132 rfl rfl ?_
      refine G_gett hX dX2_doAct_133 gt_RX2_19 rfl ?_
      refine G_iconst (v := (4 : Int32)) hX dX2_doAct_136 (by decide) rfl ?_
      refine G_iload_n hX dX2_doAct_137 rfl rfl ?_
      refine G_aload_n hX dX2_doAct_138 rfl rfl ?_
      refine G_getr hX dX2_doAct_139 gt_RX2_9 rfl ?_
      refine G_iload_n hX dX2_doAct_142 rfl rfl ?_
      obtain ⟨ho_143, hok⟩ := hok
      refine G_fVi hX dX2_doAct_143 lv_RX2_84 (sp_X3_figure Γ ρ d a1 z_4 g_4 ho_143) (by omega) nr_is_7 rfl rfl (Nat.le_of_ble_eq_true rfl) rfl ?_
      obtain ⟨hh_146, hok⟩ := hok
      refine G_cVv hX dX2_doAct_146 lv_RX2_87 (sp_X4_befall Γ ρ d (nr_ix (z_4 17)) (4 : Int32) a2 (R_X3_figure a1 z_4 g_4) hh_146 z_4 g_4) (by omega) (nr_is_ta hh_146) rfl rfl (Nat.le_of_ble_eq_true rfl) rfl (fun u_146 e_146 => ?_)
      obtain ⟨z_146, g_146⟩ := u_146
      rw [e_146, nr_K_mk] at hR
      refine G_iconst (v := (0 : Int32)) hX dX2_doAct_149 (by decide) rfl ?_
      exact G_iret hX rfl dX2_doAct_150 rfl ⟨rfl, hR.symm⟩
    · rw [if_neg h_26_33] at hR
      replace hok := hok.2 h_26_33
      by_cases h_26_40 : (R_X3_sign a1 z_4 g_4) = (40 : Int32)
      · rw [if_pos h_26_40] at hR
        replace hok := hok.1 h_26_40
        refine G_lookup (off := 74) (tg := 100) hX dX2_doAct_26 (by decide) (by rw [h_26_40]; decide) (by decide) ?_
        refine G_aload_n hX dX2_doAct_100 rfl rfl ?_
        refine G_iload_n hX dX2_doAct_101 rfl rfl ?_
        refine G_iload_n hX dX2_doAct_102 rfl rfl ?_
        refine G_iload_n hX dX2_doAct_103 rfl rfl ?_
        obtain ⟨ho_104, hok⟩ := hok
        refine G_cVi hX dX2_doAct_104 lv_RX2_72 (sp_X2_doOrElse Γ ρ d rc oc hA a1 a2 a3 z_4 g_4 ho_104) (by omega) nr_is_19 rfl rfl (Nat.le_of_ble_eq_true rfl) rfl (fun r_104 u_104 e_104 => ?_)
        obtain ⟨z_104, g_104⟩ := u_104
        obtain ⟨hb_104, e_104⟩ := e_104
        rw [e_104, nr_K_mk] at hR
        exact G_iret hX rfl dX2_doAct_107 hb_104 ⟨hb_104, hR.symm⟩
      · rw [if_neg h_26_40] at hR
        replace hok := hok.2 h_26_40
        by_cases h_26_43 : (R_X3_sign a1 z_4 g_4) = (43 : Int32)
        · rw [if_pos h_26_43] at hR
          replace hok := hok.1 h_26_43
          refine G_lookup (off := 125) (tg := 151) hX dX2_doAct_26 (by decide) (by rw [h_26_43]; decide) (by decide) ?_
          refine G_aload_n hX dX2_doAct_151 rfl rfl ?_
          refine G_geth hX dX2_doAct_152 gt_RX2_15 rfl ?_
          refine G_aload_n hX dX2_doAct_155 rfl rfl ?_
          refine G_gett hX dX2_doAct_156 gt_RX2_19 rfl ?_
          obtain ⟨hh_159, hok⟩ := hok
          refine G_fVi hX dX2_doAct_159 lv_RX2_91 (sp_X4_doorsOpen Γ ρ d (nr_ix (z_4 17)) hh_159 z_4 g_4) (by omega) (nr_is_ta hh_159) rfl rfl (Nat.le_of_ble_eq_true rfl) rfl ?_
          obtain ⟨hh_162, hok⟩ := hok
          refine G_cVv hX dX2_doAct_162 lv_RX2_94 (sp_X0_addToSum Γ ρ d (nr_ix (z_4 16)) (R_X4_doorsOpen (nr_ix (z_4 17)) z_4 g_4) hh_162 z_4 g_4) (by omega) (nr_is_ho hh_162) rfl rfl (Nat.le_of_ble_eq_true rfl) rfl (fun u_162 e_162 => ?_)
          obtain ⟨z_162, g_162⟩ := u_162
          rw [e_162, nr_K_mk] at hR
          refine G_iconst (v := (1 : Int32)) hX dX2_doAct_165 (by decide) rfl ?_
          exact G_iret hX rfl dX2_doAct_166 rfl ⟨rfl, hR.symm⟩
        · rw [if_neg h_26_43] at hR
          replace hok := hok.2 h_26_43
          by_cases h_26_60 : (R_X3_sign a1 z_4 g_4) = (60 : Int32)
          · rw [if_pos h_26_60] at hR
            replace hok := hok.1 h_26_60
            refine G_lookup (off := 90) (tg := 116) hX dX2_doAct_26 (by decide) (by rw [h_26_60]; decide) (by decide) ?_
            refine G_aload_n hX dX2_doAct_116 rfl rfl ?_
            refine G_iload_n hX dX2_doAct_117 rfl rfl ?_
            refine G_iload_n hX dX2_doAct_118 rfl rfl ?_
            refine G_iload_n hX dX2_doAct_119 rfl rfl ?_
            obtain ⟨ho_120, hok⟩ := hok
            refine G_cVi hX dX2_doAct_120 lv_RX2_78 (sp_X2_doAndReport Γ ρ d rc oc hA a1 a2 a3 z_4 g_4 ho_120) (by omega) nr_is_19 rfl rfl (Nat.le_of_ble_eq_true rfl) rfl (fun r_120 u_120 e_120 => ?_)
            obtain ⟨z_120, g_120⟩ := u_120
            obtain ⟨hb_120, e_120⟩ := e_120
            rw [e_120, nr_K_mk] at hR
            exact G_iret hX rfl dX2_doAct_123 hb_120 ⟨hb_120, hR.symm⟩
          · rw [if_neg h_26_60] at hR
            replace hok := hok.2 h_26_60
            by_cases h_26_82 : (R_X3_sign a1 z_4 g_4) = (82 : Int32)
            · rw [if_pos h_26_82] at hR
              replace hok := hok.1 h_26_82
              refine G_lookup (off := 66) (tg := 92) hX dX2_doAct_26 (by decide) (by rw [h_26_82]; decide) (by decide) ?_
              refine G_aload_n hX dX2_doAct_92 rfl rfl ?_
              refine G_iload_n hX dX2_doAct_93 rfl rfl ?_
              refine G_iload_n hX dX2_doAct_94 rfl rfl ?_
              refine G_iload_n hX dX2_doAct_95 rfl rfl ?_
              obtain ⟨ho_96, hok⟩ := hok
              refine G_cVi hX dX2_doAct_96 lv_RX2_69 (sp_X2_goInto Γ ρ d rc oc hA a1 a2 a3 z_4 g_4 ho_96) (by omega) nr_is_19 rfl rfl (Nat.le_of_ble_eq_true rfl) rfl (fun r_96 u_96 e_96 => ?_)
              obtain ⟨z_96, g_96⟩ := u_96
              obtain ⟨hb_96, e_96⟩ := e_96
              rw [e_96, nr_K_mk] at hR
              exact G_iret hX rfl dX2_doAct_99 hb_96 ⟨hb_96, hR.symm⟩
            · rw [if_neg h_26_82] at hR
              replace hok := hok.2 h_26_82
              by_cases h_26_91 : (R_X3_sign a1 z_4 g_4) = (91 : Int32)
              · rw [if_pos h_26_91] at hR
                replace hok := hok.1 h_26_91
                refine G_lookup (off := 82) (tg := 108) hX dX2_doAct_26 (by decide) (by rw [h_26_91]; decide) (by decide) ?_
                refine G_aload_n hX dX2_doAct_108 rfl rfl ?_
                refine G_iload_n hX dX2_doAct_109 rfl rfl ?_
                refine G_iload_n hX dX2_doAct_110 rfl rfl ?_
                refine G_iload_n hX dX2_doAct_111 rfl rfl ?_
                obtain ⟨ho_112, hok⟩ := hok
                refine G_cVi hX dX2_doAct_112 lv_RX2_75 (sp_X2_doAndHear Γ ρ d rc oc hA a1 a2 a3 z_4 g_4 ho_112) (by omega) nr_is_19 rfl rfl (Nat.le_of_ble_eq_true rfl) rfl (fun r_112 u_112 e_112 => ?_)
                obtain ⟨z_112, g_112⟩ := u_112
                obtain ⟨hb_112, e_112⟩ := e_112
                rw [e_112, nr_K_mk] at hR
                exact G_iret hX rfl dX2_doAct_115 hb_112 ⟨hb_112, hR.symm⟩
              · rw [if_neg h_26_91] at hR
                replace hok := hok.2 h_26_91
                by_cases h_26_120 : (R_X3_sign a1 z_4 g_4) = (120 : Int32)
                · rw [if_pos h_26_120] at hR
                  replace hok := hok.1 h_26_120
                  refine G_lookup (off := 98) (tg := 124) hX dX2_doAct_26 (by decide) (by rw [h_26_120]; decide) (by decide) ?_
                  refine G_aload_n hX dX2_doAct_124 rfl rfl ?_
                  refine G_iload_n hX dX2_doAct_125 rfl rfl ?_
                  refine G_iload_n hX dX2_doAct_126 rfl rfl ?_
                  refine G_iload_n hX dX2_doAct_127 rfl rfl ?_
                  obtain ⟨ho_128, hok⟩ := hok
                  refine G_cVi hX dX2_doAct_128 lv_RX2_81 (sp_X2_doSoOften Γ ρ d rc oc hA a1 a2 a3 z_4 g_4 ho_128) (by omega) nr_is_19 rfl rfl (Nat.le_of_ble_eq_true rfl) rfl (fun r_128 u_128 e_128 => ?_)
                  obtain ⟨z_128, g_128⟩ := u_128
                  obtain ⟨hb_128, e_128⟩ := e_128
                  rw [e_128, nr_K_mk] at hR
                  exact G_iret hX rfl dX2_doAct_131 hb_128 ⟨hb_128, hR.symm⟩
                · rw [if_neg h_26_120] at hR
                  replace hok := hok.2 h_26_120
                  refine G_lookup (off := 141) (tg := 167) hX dX2_doAct_26 (by decide) (by show Op.lookupswitch.offset [(33, 106), (40, 74), (43, 125), (60, 90), (82, 66), (91, 82), (120, 98)] (141) ((R_X3_sign a1 z_4 g_4)).toInt = 141; rw [lv_osw (a := 33) h_26_33 (by decide), lv_osw (a := 40) h_26_40 (by decide), lv_osw (a := 43) h_26_43 (by decide), lv_osw (a := 60) h_26_60 (by decide), lv_osw (a := 82) h_26_82 (by decide), lv_osw (a := 91) h_26_91 (by decide), lv_osw (a := 120) h_26_120 (by decide)]; rfl) (by decide) ?_
                  refine G_iload_n hX dX2_doAct_167 rfl rfl ?_
                  refine G_iconst (v := (-1 : Int32)) hX dX2_doAct_168 (by decide) rfl ?_
                  refine G_icmp_ne (tg := 181) hX dX2_doAct_169 (by decide) rfl (fun (h_169 : ¬ (a2 = (-1 : Int32))) => ?_) (fun (h_169 : a2 = (-1 : Int32)) => ?_)
                  · rw [if_neg h_169] at hR
                    replace hok := hok.2 h_169
                    refine G_aload_n hX dX2_doAct_181 rfl rfl ?_
                    refine G_aload_n hX dX2_doAct_182 rfl rfl ?_
                    refine G_getr hX dX2_doAct_183 gt_RX2_9 rfl ?_
                    refine G_iload_n hX dX2_doAct_186 rfl rfl ?_
                    obtain ⟨ho_187, hok⟩ := hok
                    refine G_fVi hX dX2_doAct_187 lv_RX2_66 (sp_X3_sign Γ ρ d a1 z_4 g_4 ho_187) (by omega) nr_is_7 rfl rfl (Nat.le_of_ble_eq_true rfl) rfl ?_
                    refine G_iload_n hX dX2_doAct_190 rfl rfl ?_
                    obtain ⟨ho_191, hok⟩ := hok
                    refine G_cVi hX dX2_doAct_191 lv_RX2_97 (sp_X2_doInRoom Γ ρ d (R_X3_sign a1 z_4 g_4) a2 z_4 g_4 ho_191) (by omega) nr_is_19 rfl rfl (Nat.le_of_ble_eq_true rfl) rfl (fun r_191 u_191 e_191 => ?_)
                    obtain ⟨z_191, g_191⟩ := u_191
                    obtain ⟨hb_191, e_191⟩ := e_191
                    rw [e_191, nr_K_mk] at hR
                    exact G_iret hX rfl dX2_doAct_194 hb_191 ⟨hb_191, hR.symm⟩
                  · rw [if_pos h_169] at hR
                    replace hok := hok.1 h_169
                    refine G_aload_n hX dX2_doAct_172 rfl rfl ?_
                    refine G_iconst (v := (3 : Int32)) hX dX2_doAct_173 (by decide) rfl ?_
                    refine G_iload_n hX dX2_doAct_174 rfl rfl ?_
                    obtain ⟨ho_175, hok⟩ := hok
                    refine G_cVi hX dX2_doAct_175 lv_RX2_62 (sp_X2_befalls Γ ρ d (3 : Int32) a2 z_4 g_4 ho_175) (by omega) nr_is_19 rfl rfl (Nat.le_of_ble_eq_true rfl) rfl (fun r_175 u_175 e_175 => ?_)
                    obtain ⟨z_175, g_175⟩ := u_175
                    obtain ⟨hb_175, e_175⟩ := e_175
                    rw [e_175, nr_K_mk] at hR
                    refine G_goto (tg := 194) hX dX2_doAct_178 (by decide) ?_
                    exact G_iret hX rfl dX2_doAct_194 hb_175 ⟨hb_175, hR.symm⟩
  · rw [if_pos h_7] at hR
    replace hok := hok.1 h_7
    refine G_aload_n hX dX2_doAct_10 rfl rfl ?_
    refine G_bipush (v := (6 : Int32)) hX dX2_doAct_11 (by decide) rfl ?_
    refine G_iload_n hX dX2_doAct_13 rfl rfl ?_
    obtain ⟨ho_14, hok⟩ := hok
    refine G_cVi hX dX2_doAct_14 lv_RX2_62 (sp_X2_befalls Γ ρ d (6 : Int32) a2 z_4 g_4 ho_14) (by omega) nr_is_19 rfl rfl (Nat.le_of_ble_eq_true rfl) rfl (fun r_14 u_14 e_14 => ?_)
    obtain ⟨z_14, g_14⟩ := u_14
    obtain ⟨hb_14, e_14⟩ := e_14
    rw [e_14, nr_K_mk] at hR
    exact G_iret hX rfl dX2_doAct_17 hb_14 ⟨hb_14, hR.symm⟩
def T_X2_doActs_6 (rc : Int32 → Int32 → Int32 → Int32 → nr_S → Int32 × nr_S) (oc : Int32 → Int32 → Int32 → Int32 → nr_S → Prop) : Nat → Int32 → Int32 → Int32 → Int32 → Int32 → (Nat → Int32) → (Nat → Nat → Int32) → Int32 × nr_S
  | 0, _, _, _, _, _, z, g => (0, z, g)
  | n + 1, a2, a3, a4, a5, a6, z, g => (if (100 : Int32) ≤ a6 then ((1 : Int32), z, g) else (if a2 ≤ a5 then ((1 : Int32), z, g) else (if (8 : Int32) < a4 then ((1 : Int32), z, g) else (nr_K (T_X2_doAct rc oc a5 a3 a4 z g) (fun r_32 z_32 g_32 => (if r_32 = 0 then ((0 : Int32), z_32, g_32) else (T_X2_doActs_6 rc oc n a2 a3 a4 (R_X3_next a5 z_32 g_32) (a6 + (1 : Int32)) z_32 g_32)))))))
def O_X2_doActs_6 (rc : Int32 → Int32 → Int32 → Int32 → nr_S → Int32 × nr_S) (oc : Int32 → Int32 → Int32 → Int32 → nr_S → Prop) : Nat → Int32 → Int32 → Int32 → Int32 → Int32 → (Nat → Int32) → (Nat → Nat → Int32) → Prop
  | 0, _, _, _, _, _, _, _ => False
  | n + 1, a2, a3, a4, a5, a6, z, g => (((100 : Int32) ≤ a6 → True) ∧ (¬ ((100 : Int32) ≤ a6) → ((a2 ≤ a5 → True) ∧ (¬ (a2 ≤ a5) → (((8 : Int32) < a4 → True) ∧ (¬ ((8 : Int32) < a4) → ((O_X2_doAct rc oc a5 a3 a4 z g ∧ nr_KP (T_X2_doAct rc oc a5 a3 a4 z g) (fun r_32 z_32 g_32 => ((r_32 = 0 → True) ∧ (¬ (r_32 = 0) → (O_X3_next a5 z_32 g_32 ∧ (O_X2_doActs_6 rc oc n a2 a3 a4 (R_X3_next a5 z_32 g_32) (a6 + (1 : Int32)) z_32 g_32)))))))))))))
set_option maxHeartbeats 4000000 in
set_option maxRecDepth 100000 in
theorem sp_X2_doActs_6 (Γ : nr_M) (ρ : Nat → Nat) (d : Nat) (rc : Int32 → Int32 → Int32 → Int32 → nr_S → Int32 × nr_S) (oc : Int32 → Int32 → Int32 → Int32 → nr_S → Prop) (hA : ∀ (a1 : Int32) (a2 : Int32) (a3 : Int32) (a4 : Int32) (z : Nat → Int32) (g : Nat → Nat → Int32), oc a1 a2 a3 a4 (z, g) → nr_Si Γ ρ d yX2_doActs cX2_doActs 7 (some .boolean) [.ref (ρ 19), .int a1, .int a2, .int a3, .int a4] z g (fun x u => narrow .boolean (.int x) = .int x ∧ rc a1 a2 a3 a4 (z, g) = (x, u))) (X : nr_CX) (hX : nr_Cx Γ ρ X yX2_doActs cX2_doActs 7 (some .boolean) (d + 5)) : ∀ (n : Nat) (a2 : Int32) (a3 : Int32) (a4 : Int32) (a5 : Int32) (a6 : Int32) (z : Nat → Int32) (g : Nat → Nat → Int32) (R0 : Int32 × nr_S) (_ : T_X2_doActs_6 rc oc n a2 a3 a4 a5 a6 z g = R0) (_ : O_X2_doActs_6 rc oc n a2 a3 a4 a5 a6 z g), nr_G Γ ρ X 7 (nr_Qi Γ ρ X (fun x u => narrow .boolean (.int x) = .int x ∧ R0 = (x, u))) 6 [(0, .ref (ρ 19)), (2, .int a2), (3, .int a3), (4, .int a4), (5, .int a5), (6, .int a6)] [] z g := by
  intro n
  induction n with
  | zero => intro a2 a3 a4 a5 a6 z g R0 hR hok; exact False.elim hok
  | succ n ih =>
    intro a2 a3 a4 a5 a6 z g R0 hR hok
    rw [T_X2_doActs_6] at hR
    rw [O_X2_doActs_6] at hok
    refine G_iload hX dX2_doActs_6 rfl rfl ?_
    refine G_bipush (v := (100 : Int32)) hX dX2_doActs_8 (by decide) rfl ?_
    refine G_icmp_ge (tg := 57) hX dX2_doActs_10 (by decide) rfl (fun (h_10 : (100 : Int32) ≤ a6) => ?_) (fun (h_10 : ¬ ((100 : Int32) ≤ a6)) => ?_)
    · rw [if_pos h_10] at hR
      replace hok := hok.1 h_10
      refine G_iconst (v := (1 : Int32)) hX dX2_doActs_57 (by decide) rfl ?_
      exact G_iret hX rfl dX2_doActs_58 rfl ⟨rfl, hR.symm⟩
    · rw [if_neg h_10] at hR
      replace hok := hok.2 h_10
      refine G_iload hX dX2_doActs_13 rfl rfl ?_
      refine G_iload_n hX dX2_doActs_15 rfl rfl ?_
      refine G_icmp_ge (tg := 57) hX dX2_doActs_16 (by decide) rfl (fun (h_16 : a2 ≤ a5) => ?_) (fun (h_16 : ¬ (a2 ≤ a5)) => ?_)
      · rw [if_pos h_16] at hR
        replace hok := hok.1 h_16
        refine G_iconst (v := (1 : Int32)) hX dX2_doActs_57 (by decide) rfl ?_
        exact G_iret hX rfl dX2_doActs_58 rfl ⟨rfl, hR.symm⟩
      · rw [if_neg h_16] at hR
        replace hok := hok.2 h_16
        refine G_iload hX dX2_doActs_19 rfl rfl ?_
        refine G_bipush (v := (8 : Int32)) hX dX2_doActs_21 (by decide) rfl ?_
        refine G_icmp_gt (tg := 57) hX dX2_doActs_23 (by decide) rfl (fun (h_23 : (8 : Int32) < a4) => ?_) (fun (h_23 : ¬ ((8 : Int32) < a4)) => ?_)
        · rw [if_pos h_23] at hR
          replace hok := hok.1 h_23
          refine G_iconst (v := (1 : Int32)) hX dX2_doActs_57 (by decide) rfl ?_
          exact G_iret hX rfl dX2_doActs_58 rfl ⟨rfl, hR.symm⟩
        · rw [if_neg h_23] at hR
          replace hok := hok.2 h_23
          refine G_aload_n hX dX2_doActs_26 rfl rfl ?_
          refine G_iload hX dX2_doActs_27 rfl rfl ?_
          refine G_iload_n hX dX2_doActs_29 rfl rfl ?_
          refine G_iload hX dX2_doActs_30 rfl rfl ?_
          obtain ⟨ho_32, hok⟩ := hok
          refine G_cVi hX dX2_doActs_32 lv_RX2_51 (sp_X2_doAct Γ ρ d rc oc hA a5 a3 a4 z g ho_32) (by omega) nr_is_19 rfl rfl (Nat.le_of_ble_eq_true rfl) rfl (fun r_32 u_32 e_32 => ?_)
          obtain ⟨z_32, g_32⟩ := u_32
          obtain ⟨hb_32, e_32⟩ := e_32
          rw [e_32, nr_K_mk] at hR
          rw [e_32, nr_KP_mk] at hok
          refine G_if_ne (tg := 40) hX dX2_doActs_35 (by decide) rfl (fun (h_35 : ¬ (r_32 = 0)) => ?_) (fun (h_35 : r_32 = 0) => ?_)
          · rw [if_neg h_35] at hR
            replace hok := hok.2 h_35
            refine G_aload_n hX dX2_doActs_40 rfl rfl ?_
            refine G_getr hX dX2_doActs_41 gt_RX2_9 rfl ?_
            refine G_iload hX dX2_doActs_44 rfl rfl ?_
            obtain ⟨ho_46, hok⟩ := hok
            refine G_fVi hX dX2_doActs_46 lv_RX2_55 (sp_X3_next Γ ρ d a5 z_32 g_32 ho_46) (by omega) nr_is_7 rfl rfl (Nat.le_of_ble_eq_true rfl) rfl ?_
            refine G_istore hX dX2_doActs_49 (by decide) rfl rfl ?_
            refine G_iinc (v := (a6 + (1 : Int32))) hX dX2_doActs_51 rfl rfl (by decide) rfl rfl ?_
            refine G_goto (tg := 6) hX dX2_doActs_54 (by decide) ?_
            exact nr_sub (by exact ⟨rfl, rfl, rfl, rfl, rfl, rfl, trivial⟩) (ih a2 a3 a4 (R_X3_next a5 z_32 g_32) (a6 + (1 : Int32)) z_32 g_32 R0 hR hok)
          · rw [if_pos h_35] at hR
            replace hok := hok.1 h_35
            refine G_iconst (v := (0 : Int32)) hX dX2_doActs_38 (by decide) rfl ?_
            exact G_iret hX rfl dX2_doActs_39 rfl ⟨rfl, hR.symm⟩
def T_X2_doActs (rc : Int32 → Int32 → Int32 → Int32 → nr_S → Int32 × nr_S) (oc : Int32 → Int32 → Int32 → Int32 → nr_S → Prop) (a1 : Int32) (a2 : Int32) (a3 : Int32) (a4 : Int32) (z : Nat → Int32) (g : Nat → Nat → Int32) : Int32 × nr_S := (T_X2_doActs_6 rc oc 500 a2 a3 a4 a1 (0 : Int32) z g)
def O_X2_doActs (rc : Int32 → Int32 → Int32 → Int32 → nr_S → Int32 × nr_S) (oc : Int32 → Int32 → Int32 → Int32 → nr_S → Prop) (a1 : Int32) (a2 : Int32) (a3 : Int32) (a4 : Int32) (z : Nat → Int32) (g : Nat → Nat → Int32) : Prop := (O_X2_doActs_6 rc oc 500 a2 a3 a4 a1 (0 : Int32) z g)
set_option maxHeartbeats 4000000 in
set_option maxRecDepth 100000 in
theorem sp_X2_doActs (Γ : nr_M) (ρ : Nat → Nat) (d : Nat) (rc : Int32 → Int32 → Int32 → Int32 → nr_S → Int32 × nr_S) (oc : Int32 → Int32 → Int32 → Int32 → nr_S → Prop) (hA : ∀ (a1 : Int32) (a2 : Int32) (a3 : Int32) (a4 : Int32) (z : Nat → Int32) (g : Nat → Nat → Int32), oc a1 a2 a3 a4 (z, g) → nr_Si Γ ρ d yX2_doActs cX2_doActs 7 (some .boolean) [.ref (ρ 19), .int a1, .int a2, .int a3, .int a4] z g (fun x u => narrow .boolean (.int x) = .int x ∧ rc a1 a2 a3 a4 (z, g) = (x, u))) (a1 : Int32) (a2 : Int32) (a3 : Int32) (a4 : Int32) (z : Nat → Int32) (g : Nat → Nat → Int32) (hok : O_X2_doActs rc oc a1 a2 a3 a4 z g) : nr_Si Γ ρ (d + 5) yX2_doActs cX2_doActs 7 (some .boolean) [.ref (ρ 19), .int a1, .int a2, .int a3, .int a4] z g (fun x u => narrow .boolean (.int x) = .int x ∧ (T_X2_doActs rc oc a1 a2 a3 a4 z g) = (x, u)) := by
  refine nr_body_i (lv := [(0, .ref (ρ 19)), (1, .int a1), (2, .int a2), (3, .int a3), (4, .int a4)]) (by decide +kernel) (Nat.le_of_ble_eq_true rfl) rfl (fun X hX => ?_)
  generalize hR : (T_X2_doActs rc oc a1 a2 a3 a4 z g) = R0
  rw [T_X2_doActs] at hR
  rw [O_X2_doActs] at hok
  refine G_iload_n hX dX2_doActs_0 rfl rfl ?_
  refine G_istore hX dX2_doActs_1 (by decide) rfl rfl ?_
  refine G_iconst (v := (0 : Int32)) hX dX2_doActs_3 (by decide) rfl ?_
  refine G_istore hX dX2_doActs_4 (by decide) rfl rfl ?_
  exact nr_sub (by exact ⟨rfl, rfl, rfl, rfl, rfl, rfl, trivial⟩) (sp_X2_doActs_6 Γ ρ d rc oc hA X hX 500 a2 a3 a4 a1 (0 : Int32) z g R0 hR hok)
/-- the porter's group tied: k levels of doActs -/
def nD : Nat → (Int32 → Int32 → Int32 → Int32 → nr_S → Int32 × nr_S) × (Int32 → Int32 → Int32 → Int32 → nr_S → Prop)
  | 0 => (fun _ _ _ _ u => (0, u), fun _ _ _ _ _ => False)
  | k + 1 => (fun a b c e u => T_X2_doActs (nD k).1 (nD k).2 a b c e u.1 u.2, fun a b c e u => O_X2_doActs (nD k).1 (nD k).2 a b c e u.1 u.2)
theorem sp_nD (Γ : nr_M) (ρ : Nat → Nat) (d : Nat) : ∀ (k : Nat) (a1 a2 a3 a4 : Int32) (z : Nat → Int32) (g : Nat → Nat → Int32), (nD k).2 a1 a2 a3 a4 (z, g) → nr_Si Γ ρ (d + 5 * k) yX2_doActs cX2_doActs 7 (some .boolean) [.ref (ρ 19), .int a1, .int a2, .int a3, .int a4] z g (fun x u => narrow .boolean (.int x) = .int x ∧ (nD k).1 a1 a2 a3 a4 (z, g) = (x, u))
  | 0, _, _, _, _, _, _, hq => False.elim hq
  | k + 1, a1, a2, a3, a4, z, g, hq => sp_X2_doActs Γ ρ (d + 5 * k) (nD k).1 (nD k).2 (sp_nD Γ ρ d k) a1 a2 a3 a4 z g hq
def T_X2_walk (K : Nat) (k1 : Nat) (k2 : Nat) (z : Nat → Int32) (g : Nat → Nat → Int32) : Int32 × nr_S := (nr_K (T_X4_begin (nr_ix (nI k2)) (va_up (va_up z 16 (nI k1)) 17 (nI k2)) g) (fun r_14 z_14 g_14 => (nr_K ((nD K).1 (0 : Int32) (R_X3_acts z_14 g_14) (-1 : Int32) (0 : Int32) (z_14, g_14)) (fun r_28 z_28 g_28 => (nr_K (T_X4_close (nr_ix (z_28 17)) (R_X0_sum (nr_ix (z_28 16)) z_28 g_28) z_28 g_28) (fun r_43 z_43 g_43 => ((R_X4_fact (nr_ix (z_43 17)) (0 : Int32) z_43 g_43), z_43, g_43)))))))
def O_X2_walk (K : Nat) (k1 : Nat) (k2 : Nat) (z : Nat → Int32) (g : Nat → Nat → Int32) : Prop := (nr_ho k1 ∧ (nr_ta k2 ∧ ((nr_ta (nr_ix (nI k2)) ∧ (O_X4_begin (nr_ix (nI k2)) (va_up (va_up z 16 (nI k1)) 17 (nI k2)) g ∧ nr_KP (T_X4_begin (nr_ix (nI k2)) (va_up (va_up z 16 (nI k1)) 17 (nI k2)) g) (fun r_14 z_14 g_14 => (((nD K).2 (0 : Int32) (R_X3_acts z_14 g_14) (-1 : Int32) (0 : Int32) (z_14, g_14) ∧ nr_KP ((nD K).1 (0 : Int32) (R_X3_acts z_14 g_14) (-1 : Int32) (0 : Int32) (z_14, g_14)) (fun r_28 z_28 g_28 => (nr_ho (nr_ix (z_28 16)) ∧ ((nr_ta (nr_ix (z_28 17)) ∧ nr_KP (T_X4_close (nr_ix (z_28 17)) (R_X0_sum (nr_ix (z_28 16)) z_28 g_28) z_28 g_28) (fun r_43 z_43 g_43 => (nr_ta (nr_ix (z_43 17)) ∧ (O_X4_fact (nr_ix (z_43 17)) (0 : Int32) z_43 g_43 ∧ True)))))))))))))))
set_option maxHeartbeats 4000000 in
set_option maxRecDepth 100000 in
theorem sp_X2_walk (Γ : nr_M) (ρ : Nat → Nat) (d : Nat) (K : Nat) (k1 : Nat) (k2 : Nat) (z : Nat → Int32) (g : Nat → Nat → Int32) (hok : O_X2_walk K k1 k2 z g) : nr_Si Γ ρ (d + 5 * K + 2) yX2_walk cX2_walk 3 (some .int) [.ref (ρ 19), .ref (ρ k1), .ref (ρ k2)] z g (fun x u => (T_X2_walk K k1 k2 z g) = (x, u)) := by
  refine nr_body_i (lv := [(0, .ref (ρ 19)), (1, .ref (ρ k1)), (2, .ref (ρ k2))]) (by decide +kernel) (Nat.le_of_ble_eq_true rfl) rfl (fun X hX => ?_)
  generalize hR : (T_X2_walk K k1 k2 z g) = R0
  rw [T_X2_walk] at hR
  rw [O_X2_walk] at hok
  refine G_aload_n hX dX2_walk_0 rfl rfl ?_
  refine G_aload_n hX dX2_walk_1 rfl rfl ?_
  obtain ⟨hi_2, hok⟩ := hok
  refine G_puth hX (nr_ho_lt hi_2) dX2_walk_2 pr_RX2_15 rfl rfl rfl ?_
  refine G_aload_n hX dX2_walk_5 rfl rfl ?_
  refine G_aload_n hX dX2_walk_6 rfl rfl ?_
  obtain ⟨hi_7, hok⟩ := hok
  refine G_putt hX (nr_ta_lt hi_7) dX2_walk_7 pr_RX2_19 rfl rfl rfl ?_
  refine G_aload_n hX dX2_walk_10 rfl rfl ?_
  refine G_gett hX dX2_walk_11 gt_RX2_19 rfl ?_
  obtain ⟨hh_14, hok⟩ := hok
  obtain ⟨ho_14, hok⟩ := hok
  refine G_cVv hX dX2_walk_14 lv_RX2_23 (sp_X4_begin Γ ρ d (nr_ix (nI k2)) hh_14 (va_up (va_up z 16 (nI k1)) 17 (nI k2)) g ho_14) (by omega) (nr_is_ta hh_14) rfl rfl (Nat.le_of_ble_eq_true rfl) rfl (fun u_14 e_14 => ?_)
  obtain ⟨z_14, g_14⟩ := u_14
  rw [e_14, nr_K_mk] at hR
  rw [e_14, nr_KP_mk] at hok
  refine G_aload_n hX dX2_walk_17 rfl rfl ?_
  refine G_iconst (v := (0 : Int32)) hX dX2_walk_18 (by decide) rfl ?_
  refine G_aload_n hX dX2_walk_19 rfl rfl ?_
  refine G_getr hX dX2_walk_20 gt_RX2_9 rfl ?_
  refine G_fVi hX dX2_walk_23 lv_RX2_28 (sp_X3_acts Γ ρ d z_14 g_14) (by omega) nr_is_7 rfl rfl (Nat.le_of_ble_eq_true rfl) rfl ?_
  refine G_iconst (v := (-1 : Int32)) hX dX2_walk_26 (by decide) rfl ?_
  refine G_iconst (v := (0 : Int32)) hX dX2_walk_27 (by decide) rfl ?_
  obtain ⟨ho_28, hok⟩ := hok
  refine G_cVi hX dX2_walk_28 lv_RX2_34 (sp_nD Γ ρ d K (0 : Int32) (R_X3_acts z_14 g_14) (-1 : Int32) (0 : Int32) z_14 g_14 ho_28) (by omega) nr_is_19 rfl rfl (Nat.le_of_ble_eq_true rfl) rfl (fun r_28 u_28 e_28 => ?_)
  obtain ⟨z_28, g_28⟩ := u_28
  obtain ⟨hb_28, e_28⟩ := e_28
  rw [e_28, nr_K_mk] at hR
  rw [e_28, nr_KP_mk] at hok
  refine G_pop hX dX2_walk_31 rfl rfl ?_
  refine G_aload_n hX dX2_walk_32 rfl rfl ?_
  refine G_gett hX dX2_walk_33 gt_RX2_19 rfl ?_
  refine G_aload_n hX dX2_walk_36 rfl rfl ?_
  refine G_geth hX dX2_walk_37 gt_RX2_15 rfl ?_
  obtain ⟨hh_40, hok⟩ := hok
  refine G_fVi hX dX2_walk_40 lv_RX2_38 (sp_X0_sum Γ ρ d (nr_ix (z_28 16)) hh_40 z_28 g_28) (by omega) (nr_is_ho hh_40) rfl rfl (Nat.le_of_ble_eq_true rfl) rfl ?_
  obtain ⟨hh_43, hok⟩ := hok
  refine G_cVv hX dX2_walk_43 lv_RX2_43 (sp_X4_close Γ ρ d (nr_ix (z_28 17)) (R_X0_sum (nr_ix (z_28 16)) z_28 g_28) hh_43 z_28 g_28) (by omega) (nr_is_ta hh_43) rfl rfl (Nat.le_of_ble_eq_true rfl) rfl (fun u_43 e_43 => ?_)
  obtain ⟨z_43, g_43⟩ := u_43
  rw [e_43, nr_K_mk] at hR
  rw [e_43, nr_KP_mk] at hok
  refine G_aload_n hX dX2_walk_46 rfl rfl ?_
  refine G_gett hX dX2_walk_47 gt_RX2_19 rfl ?_
  refine G_iconst (v := (0 : Int32)) hX dX2_walk_50 (by decide) rfl ?_
  obtain ⟨hh_51, hok⟩ := hok
  obtain ⟨ho_51, hok⟩ := hok
  refine G_fVi hX dX2_walk_51 lv_RX2_47 (sp_X4_fact Γ ρ d (nr_ix (z_43 17)) (0 : Int32) hh_51 z_43 g_43 ho_51) (by omega) (nr_is_ta hh_51) rfl rfl (Nat.le_of_ble_eq_true rfl) rfl ?_
  exact G_iret hX rfl dX2_walk_54 rfl hR.symm
