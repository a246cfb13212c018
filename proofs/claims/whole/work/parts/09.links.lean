def nr_ho (b : Nat) : Prop := b = 1 ∨ b = 3
def nr_ta (t : Nat) : Prop := t = 13 ∨ t = 16
theorem nr_il_ho {b : Nat} (hb : nr_ho b) : nr_il (b + 1) = 58 := by rcases hb with rfl | rfl <;> rfl
theorem nr_il_t1 {t : Nat} (ht : nr_ta t) : nr_il (t + 1) = 8 := by rcases ht with rfl | rfl <;> rfl
theorem nr_il_t2 {t : Nat} (ht : nr_ta t) : nr_il (t + 2) = 150 := by rcases ht with rfl | rfl <;> rfl
theorem nr_is_ho {b : Nat} (hb : nr_ho b) : nr_isC b 0 := by rcases hb with rfl | rfl <;> exact ⟨by decide, fun _ _ _ _ => ⟨_, rfl⟩⟩
theorem nr_is_ta {t : Nat} (ht : nr_ta t) : nr_isC t 4 := by rcases ht with rfl | rfl <;> exact ⟨by decide, fun _ _ _ _ => ⟨_, rfl⟩⟩
theorem nr_is_0 : nr_isC 0 5 := ⟨by decide, fun _ _ _ _ => ⟨_, rfl⟩⟩
theorem nr_is_5 : nr_isC 5 1 := ⟨by decide, fun _ _ _ _ => ⟨_, rfl⟩⟩
theorem nr_is_7 : nr_isC 7 3 := ⟨by decide, fun _ _ _ _ => ⟨_, rfl⟩⟩
theorem nr_is_19 : nr_isC 19 2 := ⟨by decide, fun _ _ _ _ => ⟨_, rfl⟩⟩
theorem nr_is_20 : nr_isC 20 6 := ⟨by decide, fun _ _ _ _ => ⟨_, rfl⟩⟩
theorem gt_RX0_9 {b : Nat} (hb : nr_ho b) : nr_GT RX0 9 b (fun ρ _ => .ref (ρ (b + 1))) := by rcases hb with rfl | rfl <;> exact ⟨by decide, 0, 0, ⟨RX0, TX0, 1, rfl, nr_u0, by decide, Or.inl wf_RX0_9⟩, fun _ _ _ _ => ⟨_, rfl, rfl⟩⟩
theorem gt_RX1_9 : nr_GT RX1 9 5 (fun ρ _ => .ref (ρ 6)) := ⟨by decide, 1, 0, ⟨RX1, TX1, 2, rfl, nr_u1, by decide, Or.inl wf_RX1_9⟩, fun _ _ _ _ => ⟨_, rfl, rfl⟩⟩
theorem gt_RX1_15 : nr_GT RX1 15 5 (fun _ z => .int (z 3)) := ⟨by decide, 1, 1, ⟨RX1, TX1, 2, rfl, nr_u1, by decide, Or.inl wf_RX1_15⟩, fun _ _ _ _ => ⟨_, rfl, rfl⟩⟩
theorem pt_RX1_15 : nr_PT RX1 15 5 3 .int := ⟨by decide, 1, 1, ⟨RX1, TX1, 2, tyX1, rfl, nr_u1, tyX1_ok, nmX1, by decide, wf_RX1_15, rfl, by decide +kernel⟩, fun _ _ _ _ => ⟨_, rfl, Nat.le_of_ble_eq_true rfl, fun v q hq => match q, hq with | 0, _ => rfl | 1, _ => rfl | 2, _ => rfl | 3, _ => rfl | 4, _ => rfl | 5, _ => rfl | 6, _ => rfl | 7, _ => rfl | 8, _ => rfl | 9, _ => rfl | 10, _ => rfl | 11, _ => rfl | 12, _ => rfl | 13, _ => rfl | 14, _ => rfl | 15, _ => rfl | 16, _ => rfl | 17, _ => rfl | 18, _ => rfl | 19, _ => rfl | 20, _ => rfl | 21, _ => rfl | 22, _ => rfl | 23, _ => rfl | 24, _ => rfl | 25, _ => rfl | 26, _ => rfl | 27, _ => rfl | 28, _ => rfl | 29, _ => rfl | 30, _ => rfl | 31, _ => rfl | 32, _ => rfl | 33, _ => rfl | 34, _ => rfl | 35, _ => rfl | n + 36, q => absurd q (by omega)⟩⟩
theorem gt_RX1_25 : nr_GT RX1 25 1 (fun ρ _ => .ref (ρ 2)) := ⟨by decide, 0, 0, ⟨RX0, TX0, 1, rfl, nr_u0, by decide, Or.inr ⟨_, wf_RX1_25⟩⟩, fun _ _ _ _ => ⟨_, rfl, rfl⟩⟩
theorem gt_RX2_9 : nr_GT RX2 9 19 (fun ρ _ => .ref (ρ 7)) := ⟨by decide, 2, 0, ⟨RX2, TX2, 3, rfl, nr_u2, by decide, Or.inl wf_RX2_9⟩, fun _ _ _ _ => ⟨_, rfl, rfl⟩⟩
theorem gt_RX2_15 : nr_GT RX2 15 19 (fun ρ z => .ref (ρ (nr_ix (z 16)))) := ⟨by decide, 2, 1, ⟨RX2, TX2, 3, rfl, nr_u2, by decide, Or.inl wf_RX2_15⟩, fun _ _ _ _ => ⟨_, rfl, rfl⟩⟩
theorem pr_RX2_15 : nr_FP RX2 15 2 1 (.object "NightRounds$House") := ⟨RX2, TX2, 3, tyX2, rfl, nr_u2, tyX2_ok, nmX2, by decide, wf_RX2_15, rfl, by decide +kernel⟩
theorem gt_RX2_19 : nr_GT RX2 19 19 (fun ρ z => .ref (ρ (nr_ix (z 17)))) := ⟨by decide, 2, 2, ⟨RX2, TX2, 3, rfl, nr_u2, by decide, Or.inl wf_RX2_19⟩, fun _ _ _ _ => ⟨_, rfl, rfl⟩⟩
theorem pr_RX2_19 : nr_FP RX2 19 2 2 (.object "NightRounds$Tale") := ⟨RX2, TX2, 3, tyX2, rfl, nr_u2, tyX2_ok, nmX2, by decide, wf_RX2_19, rfl, by decide +kernel⟩
theorem gt_RX3_9 : nr_GT RX3 9 7 (fun ρ _ => .ref (ρ 8)) := ⟨by decide, 3, 0, ⟨RX3, TX3, 11, rfl, nr_u3, by decide, Or.inl wf_RX3_9⟩, fun _ _ _ _ => ⟨_, rfl, rfl⟩⟩
theorem gt_RX3_15 : nr_GT RX3 15 7 (fun ρ _ => .ref (ρ 9)) := ⟨by decide, 3, 1, ⟨RX3, TX3, 11, rfl, nr_u3, by decide, Or.inl wf_RX3_15⟩, fun _ _ _ _ => ⟨_, rfl, rfl⟩⟩
theorem gt_RX3_18 : nr_GT RX3 18 7 (fun ρ _ => .ref (ρ 10)) := ⟨by decide, 3, 2, ⟨RX3, TX3, 11, rfl, nr_u3, by decide, Or.inl wf_RX3_18⟩, fun _ _ _ _ => ⟨_, rfl, rfl⟩⟩
theorem gt_RX3_21 : nr_GT RX3 21 7 (fun ρ _ => .ref (ρ 11)) := ⟨by decide, 3, 3, ⟨RX3, TX3, 11, rfl, nr_u3, by decide, Or.inl wf_RX3_21⟩, fun _ _ _ _ => ⟨_, rfl, rfl⟩⟩
theorem gt_RX3_24 : nr_GT RX3 24 7 (fun ρ _ => .ref (ρ 12)) := ⟨by decide, 3, 4, ⟨RX3, TX3, 11, rfl, nr_u3, by decide, Or.inl wf_RX3_24⟩, fun _ _ _ _ => ⟨_, rfl, rfl⟩⟩
theorem gt_RX3_27 : nr_GT RX3 27 7 (fun _ z => .int (z 4)) := ⟨by decide, 3, 5, ⟨RX3, TX3, 11, rfl, nr_u3, by decide, Or.inl wf_RX3_27⟩, fun _ _ _ _ => ⟨_, rfl, rfl⟩⟩
theorem pt_RX3_27 : nr_PT RX3 27 7 4 .int := ⟨by decide, 3, 5, ⟨RX3, TX3, 11, tyX3, rfl, nr_u3, tyX3_ok, nmX3, by decide, wf_RX3_27, rfl, by decide +kernel⟩, fun _ _ _ _ => ⟨_, rfl, Nat.le_of_ble_eq_true rfl, fun v q hq => match q, hq with | 0, _ => rfl | 1, _ => rfl | 2, _ => rfl | 3, _ => rfl | 4, _ => rfl | 5, _ => rfl | 6, _ => rfl | 7, _ => rfl | 8, _ => rfl | 9, _ => rfl | 10, _ => rfl | 11, _ => rfl | 12, _ => rfl | 13, _ => rfl | 14, _ => rfl | 15, _ => rfl | 16, _ => rfl | 17, _ => rfl | 18, _ => rfl | 19, _ => rfl | 20, _ => rfl | 21, _ => rfl | 22, _ => rfl | 23, _ => rfl | 24, _ => rfl | 25, _ => rfl | 26, _ => rfl | 27, _ => rfl | 28, _ => rfl | 29, _ => rfl | 30, _ => rfl | 31, _ => rfl | 32, _ => rfl | 33, _ => rfl | 34, _ => rfl | 35, _ => rfl | n + 36, q => absurd q (by omega)⟩⟩
theorem gt_RX3_31 : nr_GT RX3 31 7 (fun _ z => .int (z 5)) := ⟨by decide, 3, 6, ⟨RX3, TX3, 11, rfl, nr_u3, by decide, Or.inl wf_RX3_31⟩, fun _ _ _ _ => ⟨_, rfl, rfl⟩⟩
theorem pt_RX3_31 : nr_PT RX3 31 7 5 .int := ⟨by decide, 3, 6, ⟨RX3, TX3, 11, tyX3, rfl, nr_u3, tyX3_ok, nmX3, by decide, wf_RX3_31, rfl, by decide +kernel⟩, fun _ _ _ _ => ⟨_, rfl, Nat.le_of_ble_eq_true rfl, fun v q hq => match q, hq with | 0, _ => rfl | 1, _ => rfl | 2, _ => rfl | 3, _ => rfl | 4, _ => rfl | 5, _ => rfl | 6, _ => rfl | 7, _ => rfl | 8, _ => rfl | 9, _ => rfl | 10, _ => rfl | 11, _ => rfl | 12, _ => rfl | 13, _ => rfl | 14, _ => rfl | 15, _ => rfl | 16, _ => rfl | 17, _ => rfl | 18, _ => rfl | 19, _ => rfl | 20, _ => rfl | 21, _ => rfl | 22, _ => rfl | 23, _ => rfl | 24, _ => rfl | 25, _ => rfl | 26, _ => rfl | 27, _ => rfl | 28, _ => rfl | 29, _ => rfl | 30, _ => rfl | 31, _ => rfl | 32, _ => rfl | 33, _ => rfl | 34, _ => rfl | 35, _ => rfl | n + 36, q => absurd q (by omega)⟩⟩
theorem gt_RX3_34 : nr_GT RX3 34 7 (fun _ z => .int (z 6)) := ⟨by decide, 3, 7, ⟨RX3, TX3, 11, rfl, nr_u3, by decide, Or.inl wf_RX3_34⟩, fun _ _ _ _ => ⟨_, rfl, rfl⟩⟩
theorem pt_RX3_34 : nr_PT RX3 34 7 6 .int := ⟨by decide, 3, 7, ⟨RX3, TX3, 11, tyX3, rfl, nr_u3, tyX3_ok, nmX3, by decide, wf_RX3_34, rfl, by decide +kernel⟩, fun _ _ _ _ => ⟨_, rfl, Nat.le_of_ble_eq_true rfl, fun v q hq => match q, hq with | 0, _ => rfl | 1, _ => rfl | 2, _ => rfl | 3, _ => rfl | 4, _ => rfl | 5, _ => rfl | 6, _ => rfl | 7, _ => rfl | 8, _ => rfl | 9, _ => rfl | 10, _ => rfl | 11, _ => rfl | 12, _ => rfl | 13, _ => rfl | 14, _ => rfl | 15, _ => rfl | 16, _ => rfl | 17, _ => rfl | 18, _ => rfl | 19, _ => rfl | 20, _ => rfl | 21, _ => rfl | 22, _ => rfl | 23, _ => rfl | 24, _ => rfl | 25, _ => rfl | 26, _ => rfl | 27, _ => rfl | 28, _ => rfl | 29, _ => rfl | 30, _ => rfl | 31, _ => rfl | 32, _ => rfl | 33, _ => rfl | 34, _ => rfl | 35, _ => rfl | n + 36, q => absurd q (by omega)⟩⟩
theorem gt_RX3_37 : nr_GT RX3 37 7 (fun _ z => .int (z 7)) := ⟨by decide, 3, 8, ⟨RX3, TX3, 11, rfl, nr_u3, by decide, Or.inl wf_RX3_37⟩, fun _ _ _ _ => ⟨_, rfl, rfl⟩⟩
theorem pt_RX3_37 : nr_PT RX3 37 7 7 .int := ⟨by decide, 3, 8, ⟨RX3, TX3, 11, tyX3, rfl, nr_u3, tyX3_ok, nmX3, by decide, wf_RX3_37, rfl, by decide +kernel⟩, fun _ _ _ _ => ⟨_, rfl, Nat.le_of_ble_eq_true rfl, fun v q hq => match q, hq with | 0, _ => rfl | 1, _ => rfl | 2, _ => rfl | 3, _ => rfl | 4, _ => rfl | 5, _ => rfl | 6, _ => rfl | 7, _ => rfl | 8, _ => rfl | 9, _ => rfl | 10, _ => rfl | 11, _ => rfl | 12, _ => rfl | 13, _ => rfl | 14, _ => rfl | 15, _ => rfl | 16, _ => rfl | 17, _ => rfl | 18, _ => rfl | 19, _ => rfl | 20, _ => rfl | 21, _ => rfl | 22, _ => rfl | 23, _ => rfl | 24, _ => rfl | 25, _ => rfl | 26, _ => rfl | 27, _ => rfl | 28, _ => rfl | 29, _ => rfl | 30, _ => rfl | 31, _ => rfl | 32, _ => rfl | 33, _ => rfl | 34, _ => rfl | 35, _ => rfl | n + 36, q => absurd q (by omega)⟩⟩
theorem gt_RX3_44 : nr_GT RX3 44 7 (fun _ z => .int (z 8)) := ⟨by decide, 3, 9, ⟨RX3, TX3, 11, rfl, nr_u3, by decide, Or.inl wf_RX3_44⟩, fun _ _ _ _ => ⟨_, rfl, rfl⟩⟩
theorem pt_RX3_44 : nr_PT RX3 44 7 8 .int := ⟨by decide, 3, 9, ⟨RX3, TX3, 11, tyX3, rfl, nr_u3, tyX3_ok, nmX3, by decide, wf_RX3_44, rfl, by decide +kernel⟩, fun _ _ _ _ => ⟨_, rfl, Nat.le_of_ble_eq_true rfl, fun v q hq => match q, hq with | 0, _ => rfl | 1, _ => rfl | 2, _ => rfl | 3, _ => rfl | 4, _ => rfl | 5, _ => rfl | 6, _ => rfl | 7, _ => rfl | 8, _ => rfl | 9, _ => rfl | 10, _ => rfl | 11, _ => rfl | 12, _ => rfl | 13, _ => rfl | 14, _ => rfl | 15, _ => rfl | 16, _ => rfl | 17, _ => rfl | 18, _ => rfl | 19, _ => rfl | 20, _ => rfl | 21, _ => rfl | 22, _ => rfl | 23, _ => rfl | 24, _ => rfl | 25, _ => rfl | 26, _ => rfl | 27, _ => rfl | 28, _ => rfl | 29, _ => rfl | 30, _ => rfl | 31, _ => rfl | 32, _ => rfl | 33, _ => rfl | 34, _ => rfl | 35, _ => rfl | n + 36, q => absurd q (by omega)⟩⟩
theorem gt_RX3_47 : nr_GT RX3 47 7 (fun _ z => .int (z 9)) := ⟨by decide, 3, 10, ⟨RX3, TX3, 11, rfl, nr_u3, by decide, Or.inl wf_RX3_47⟩, fun _ _ _ _ => ⟨_, rfl, rfl⟩⟩
theorem pt_RX3_47 : nr_PT RX3 47 7 9 .int := ⟨by decide, 3, 10, ⟨RX3, TX3, 11, tyX3, rfl, nr_u3, tyX3_ok, nmX3, by decide, wf_RX3_47, rfl, by decide +kernel⟩, fun _ _ _ _ => ⟨_, rfl, Nat.le_of_ble_eq_true rfl, fun v q hq => match q, hq with | 0, _ => rfl | 1, _ => rfl | 2, _ => rfl | 3, _ => rfl | 4, _ => rfl | 5, _ => rfl | 6, _ => rfl | 7, _ => rfl | 8, _ => rfl | 9, _ => rfl | 10, _ => rfl | 11, _ => rfl | 12, _ => rfl | 13, _ => rfl | 14, _ => rfl | 15, _ => rfl | 16, _ => rfl | 17, _ => rfl | 18, _ => rfl | 19, _ => rfl | 20, _ => rfl | 21, _ => rfl | 22, _ => rfl | 23, _ => rfl | 24, _ => rfl | 25, _ => rfl | 26, _ => rfl | 27, _ => rfl | 28, _ => rfl | 29, _ => rfl | 30, _ => rfl | 31, _ => rfl | 32, _ => rfl | 33, _ => rfl | 34, _ => rfl | 35, _ => rfl | n + 36, q => absurd q (by omega)⟩⟩
theorem gt_RX4_9 {t : Nat} (ht : nr_ta t) : nr_GT RX4 9 t (fun ρ _ => .ref (ρ (t + 1))) := by rcases ht with rfl | rfl <;> exact ⟨by decide, 4, 0, ⟨RX4, TX4, 5, rfl, nr_u4, by decide, Or.inl wf_RX4_9⟩, fun _ _ _ _ => ⟨_, rfl, rfl⟩⟩
theorem gt_RX4_15 {t : Nat} (ht : nr_ta t) : nr_GT RX4 15 t (fun ρ _ => .ref (ρ (t + 2))) := by rcases ht with rfl | rfl <;> exact ⟨by decide, 4, 1, ⟨RX4, TX4, 5, rfl, nr_u4, by decide, Or.inl wf_RX4_15⟩, fun _ _ _ _ => ⟨_, rfl, rfl⟩⟩
theorem gt_RX4_27 {t : Nat} (ht : nr_ta t) : nr_GT RX4 27 t (fun _ z => .int (z (t - 3))) := by rcases ht with rfl | rfl <;> exact ⟨by decide, 4, 2, ⟨RX4, TX4, 5, rfl, nr_u4, by decide, Or.inl wf_RX4_27⟩, fun _ _ _ _ => ⟨_, rfl, rfl⟩⟩
theorem pt_RX4_27 {t : Nat} (ht : nr_ta t) : nr_PT RX4 27 t (t - 3) .int := by rcases ht with rfl | rfl <;> exact ⟨by decide, 4, 2, ⟨RX4, TX4, 5, tyX4, rfl, nr_u4, tyX4_ok, nmX4, by decide, wf_RX4_27, rfl, by decide +kernel⟩, fun _ _ _ _ => ⟨_, rfl, Nat.le_of_ble_eq_true rfl, fun v q hq => match q, hq with | 0, _ => rfl | 1, _ => rfl | 2, _ => rfl | 3, _ => rfl | 4, _ => rfl | 5, _ => rfl | 6, _ => rfl | 7, _ => rfl | 8, _ => rfl | 9, _ => rfl | 10, _ => rfl | 11, _ => rfl | 12, _ => rfl | 13, _ => rfl | 14, _ => rfl | 15, _ => rfl | 16, _ => rfl | 17, _ => rfl | 18, _ => rfl | 19, _ => rfl | 20, _ => rfl | 21, _ => rfl | 22, _ => rfl | 23, _ => rfl | 24, _ => rfl | 25, _ => rfl | 26, _ => rfl | 27, _ => rfl | 28, _ => rfl | 29, _ => rfl | 30, _ => rfl | 31, _ => rfl | 32, _ => rfl | 33, _ => rfl | 34, _ => rfl | 35, _ => rfl | n + 36, q => absurd q (by omega)⟩⟩
theorem gt_RX4_31 {t : Nat} (ht : nr_ta t) : nr_GT RX4 31 t (fun _ z => .int (z (t - 1))) := by rcases ht with rfl | rfl <;> exact ⟨by decide, 4, 4, ⟨RX4, TX4, 5, rfl, nr_u4, by decide, Or.inl wf_RX4_31⟩, fun _ _ _ _ => ⟨_, rfl, rfl⟩⟩
theorem pt_RX4_31 {t : Nat} (ht : nr_ta t) : nr_PT RX4 31 t (t - 1) .int := by rcases ht with rfl | rfl <;> exact ⟨by decide, 4, 4, ⟨RX4, TX4, 5, tyX4, rfl, nr_u4, tyX4_ok, nmX4, by decide, wf_RX4_31, rfl, by decide +kernel⟩, fun _ _ _ _ => ⟨_, rfl, Nat.le_of_ble_eq_true rfl, fun v q hq => match q, hq with | 0, _ => rfl | 1, _ => rfl | 2, _ => rfl | 3, _ => rfl | 4, _ => rfl | 5, _ => rfl | 6, _ => rfl | 7, _ => rfl | 8, _ => rfl | 9, _ => rfl | 10, _ => rfl | 11, _ => rfl | 12, _ => rfl | 13, _ => rfl | 14, _ => rfl | 15, _ => rfl | 16, _ => rfl | 17, _ => rfl | 18, _ => rfl | 19, _ => rfl | 20, _ => rfl | 21, _ => rfl | 22, _ => rfl | 23, _ => rfl | 24, _ => rfl | 25, _ => rfl | 26, _ => rfl | 27, _ => rfl | 28, _ => rfl | 29, _ => rfl | 30, _ => rfl | 31, _ => rfl | 32, _ => rfl | 33, _ => rfl | 34, _ => rfl | 35, _ => rfl | n + 36, q => absurd q (by omega)⟩⟩
theorem gt_RX4_37 {t : Nat} (ht : nr_ta t) : nr_GT RX4 37 t (fun _ z => .int (z (t - 2))) := by rcases ht with rfl | rfl <;> exact ⟨by decide, 4, 3, ⟨RX4, TX4, 5, rfl, nr_u4, by decide, Or.inl wf_RX4_37⟩, fun _ _ _ _ => ⟨_, rfl, rfl⟩⟩
theorem pt_RX4_37 {t : Nat} (ht : nr_ta t) : nr_PT RX4 37 t (t - 2) .int := by rcases ht with rfl | rfl <;> exact ⟨by decide, 4, 3, ⟨RX4, TX4, 5, tyX4, rfl, nr_u4, tyX4_ok, nmX4, by decide, wf_RX4_37, rfl, by decide +kernel⟩, fun _ _ _ _ => ⟨_, rfl, Nat.le_of_ble_eq_true rfl, fun v q hq => match q, hq with | 0, _ => rfl | 1, _ => rfl | 2, _ => rfl | 3, _ => rfl | 4, _ => rfl | 5, _ => rfl | 6, _ => rfl | 7, _ => rfl | 8, _ => rfl | 9, _ => rfl | 10, _ => rfl | 11, _ => rfl | 12, _ => rfl | 13, _ => rfl | 14, _ => rfl | 15, _ => rfl | 16, _ => rfl | 17, _ => rfl | 18, _ => rfl | 19, _ => rfl | 20, _ => rfl | 21, _ => rfl | 22, _ => rfl | 23, _ => rfl | 24, _ => rfl | 25, _ => rfl | 26, _ => rfl | 27, _ => rfl | 28, _ => rfl | 29, _ => rfl | 30, _ => rfl | 31, _ => rfl | 32, _ => rfl | 33, _ => rfl | 34, _ => rfl | 35, _ => rfl | n + 36, q => absurd q (by omega)⟩⟩
theorem gt_RX5_12 : nr_GT RX5 12 0 (fun ρ _ => .ref (ρ 1)) := ⟨by decide, 5, 0, ⟨RX5, TX5, 10, rfl, nr_u5, by decide, Or.inl wf_RX5_12⟩, fun _ _ _ _ => ⟨_, rfl, rfl⟩⟩
theorem gt_RX5_16 : nr_GT RX5 16 0 (fun ρ _ => .ref (ρ 3)) := ⟨by decide, 5, 1, ⟨RX5, TX5, 10, rfl, nr_u5, by decide, Or.inl wf_RX5_16⟩, fun _ _ _ _ => ⟨_, rfl, rfl⟩⟩
theorem gt_RX5_22 : nr_GT RX5 22 0 (fun ρ _ => .ref (ρ 5)) := ⟨by decide, 5, 2, ⟨RX5, TX5, 10, rfl, nr_u5, by decide, Or.inl wf_RX5_22⟩, fun _ _ _ _ => ⟨_, rfl, rfl⟩⟩
theorem gt_RX5_29 : nr_GT RX5 29 0 (fun ρ _ => .ref (ρ 7)) := ⟨by decide, 5, 3, ⟨RX5, TX5, 10, rfl, nr_u5, by decide, Or.inl wf_RX5_29⟩, fun _ _ _ _ => ⟨_, rfl, rfl⟩⟩
theorem gt_RX5_36 : nr_GT RX5 36 0 (fun ρ _ => .ref (ρ 13)) := ⟨by decide, 5, 4, ⟨RX5, TX5, 10, rfl, nr_u5, by decide, Or.inl wf_RX5_36⟩, fun _ _ _ _ => ⟨_, rfl, rfl⟩⟩
theorem gt_RX5_40 : nr_GT RX5 40 0 (fun ρ _ => .ref (ρ 16)) := ⟨by decide, 5, 5, ⟨RX5, TX5, 10, rfl, nr_u5, by decide, Or.inl wf_RX5_40⟩, fun _ _ _ _ => ⟨_, rfl, rfl⟩⟩
theorem gt_RX5_48 : nr_GT RX5 48 0 (fun ρ _ => .ref (ρ 19)) := ⟨by decide, 5, 6, ⟨RX5, TX5, 10, rfl, nr_u5, by decide, Or.inl wf_RX5_48⟩, fun _ _ _ _ => ⟨_, rfl, rfl⟩⟩
theorem gt_RX5_168 : nr_GT RX5 168 0 (fun _ z => .int (z 0)) := ⟨by decide, 5, 7, ⟨RX5, TX5, 10, rfl, nr_u5, by decide, Or.inl wf_RX5_168⟩, fun _ _ _ _ => ⟨_, rfl, rfl⟩⟩
theorem pt_RX5_168 : nr_PT RX5 168 0 0 .int := ⟨by decide, 5, 7, ⟨RX5, TX5, 10, tyX5, rfl, nr_u5, tyX5_ok, nmX5, by decide, wf_RX5_168, rfl, by decide +kernel⟩, fun _ _ _ _ => ⟨_, rfl, Nat.le_of_ble_eq_true rfl, fun v q hq => match q, hq with | 0, _ => rfl | 1, _ => rfl | 2, _ => rfl | 3, _ => rfl | 4, _ => rfl | 5, _ => rfl | 6, _ => rfl | 7, _ => rfl | 8, _ => rfl | 9, _ => rfl | 10, _ => rfl | 11, _ => rfl | 12, _ => rfl | 13, _ => rfl | 14, _ => rfl | 15, _ => rfl | 16, _ => rfl | 17, _ => rfl | 18, _ => rfl | 19, _ => rfl | 20, _ => rfl | 21, _ => rfl | 22, _ => rfl | 23, _ => rfl | 24, _ => rfl | 25, _ => rfl | 26, _ => rfl | 27, _ => rfl | 28, _ => rfl | 29, _ => rfl | 30, _ => rfl | 31, _ => rfl | 32, _ => rfl | 33, _ => rfl | 34, _ => rfl | 35, _ => rfl | n + 36, q => absurd q (by omega)⟩⟩
theorem gt_RX5_172 : nr_GT RX5 172 0 (fun _ z => .int (z 1)) := ⟨by decide, 5, 8, ⟨RX5, TX5, 10, rfl, nr_u5, by decide, Or.inl wf_RX5_172⟩, fun _ _ _ _ => ⟨_, rfl, rfl⟩⟩
theorem pt_RX5_172 : nr_PT RX5 172 0 1 .int := ⟨by decide, 5, 8, ⟨RX5, TX5, 10, tyX5, rfl, nr_u5, tyX5_ok, nmX5, by decide, wf_RX5_172, rfl, by decide +kernel⟩, fun _ _ _ _ => ⟨_, rfl, Nat.le_of_ble_eq_true rfl, fun v q hq => match q, hq with | 0, _ => rfl | 1, _ => rfl | 2, _ => rfl | 3, _ => rfl | 4, _ => rfl | 5, _ => rfl | 6, _ => rfl | 7, _ => rfl | 8, _ => rfl | 9, _ => rfl | 10, _ => rfl | 11, _ => rfl | 12, _ => rfl | 13, _ => rfl | 14, _ => rfl | 15, _ => rfl | 16, _ => rfl | 17, _ => rfl | 18, _ => rfl | 19, _ => rfl | 20, _ => rfl | 21, _ => rfl | 22, _ => rfl | 23, _ => rfl | 24, _ => rfl | 25, _ => rfl | 26, _ => rfl | 27, _ => rfl | 28, _ => rfl | 29, _ => rfl | 30, _ => rfl | 31, _ => rfl | 32, _ => rfl | 33, _ => rfl | 34, _ => rfl | 35, _ => rfl | n + 36, q => absurd q (by omega)⟩⟩
theorem gt_RX5_175 : nr_GT RX5 175 0 (fun _ z => .int (z 2)) := ⟨by decide, 5, 9, ⟨RX5, TX5, 10, rfl, nr_u5, by decide, Or.inl wf_RX5_175⟩, fun _ _ _ _ => ⟨_, rfl, rfl⟩⟩
theorem pt_RX5_175 : nr_PT RX5 175 0 2 .int := ⟨by decide, 5, 9, ⟨RX5, TX5, 10, tyX5, rfl, nr_u5, tyX5_ok, nmX5, by decide, wf_RX5_175, rfl, by decide +kernel⟩, fun _ _ _ _ => ⟨_, rfl, Nat.le_of_ble_eq_true rfl, fun v q hq => match q, hq with | 0, _ => rfl | 1, _ => rfl | 2, _ => rfl | 3, _ => rfl | 4, _ => rfl | 5, _ => rfl | 6, _ => rfl | 7, _ => rfl | 8, _ => rfl | 9, _ => rfl | 10, _ => rfl | 11, _ => rfl | 12, _ => rfl | 13, _ => rfl | 14, _ => rfl | 15, _ => rfl | 16, _ => rfl | 17, _ => rfl | 18, _ => rfl | 19, _ => rfl | 20, _ => rfl | 21, _ => rfl | 22, _ => rfl | 23, _ => rfl | 24, _ => rfl | 25, _ => rfl | 26, _ => rfl | 27, _ => rfl | 28, _ => rfl | 29, _ => rfl | 30, _ => rfl | 31, _ => rfl | 32, _ => rfl | 33, _ => rfl | 34, _ => rfl | 35, _ => rfl | n + 36, q => absurd q (by omega)⟩⟩
theorem gt_RX6_7 : nr_GT RX6 7 20 (fun ρ _ => .ref (ρ 21)) := ⟨by decide, 6, 0, ⟨RX6, TX6, 36, rfl, nr_u6, by decide, Or.inl wf_RX6_7⟩, fun _ _ _ _ => ⟨_, rfl, rfl⟩⟩
theorem gt_RX6_13 : nr_GT RX6 13 20 (fun ρ _ => .ref (ρ 22)) := ⟨by decide, 6, 1, ⟨RX6, TX6, 36, rfl, nr_u6, by decide, Or.inl wf_RX6_13⟩, fun _ _ _ _ => ⟨_, rfl, rfl⟩⟩
theorem gt_RX6_16 : nr_GT RX6 16 20 (fun ρ _ => .ref (ρ 23)) := ⟨by decide, 6, 3, ⟨RX6, TX6, 36, rfl, nr_u6, by decide, Or.inl wf_RX6_16⟩, fun _ _ _ _ => ⟨_, rfl, rfl⟩⟩
theorem gt_RX6_19 : nr_GT RX6 19 20 (fun ρ _ => .ref (ρ 24)) := ⟨by decide, 6, 4, ⟨RX6, TX6, 36, rfl, nr_u6, by decide, Or.inl wf_RX6_19⟩, fun _ _ _ _ => ⟨_, rfl, rfl⟩⟩
theorem gt_RX6_22 : nr_GT RX6 22 20 (fun ρ _ => .ref (ρ 25)) := ⟨by decide, 6, 6, ⟨RX6, TX6, 36, rfl, nr_u6, by decide, Or.inl wf_RX6_22⟩, fun _ _ _ _ => ⟨_, rfl, rfl⟩⟩
theorem gt_RX6_25 : nr_GT RX6 25 20 (fun ρ _ => .ref (ρ 26)) := ⟨by decide, 6, 7, ⟨RX6, TX6, 36, rfl, nr_u6, by decide, Or.inl wf_RX6_25⟩, fun _ _ _ _ => ⟨_, rfl, rfl⟩⟩
theorem gt_RX6_28 : nr_GT RX6 28 20 (fun ρ _ => .ref (ρ 27)) := ⟨by decide, 6, 12, ⟨RX6, TX6, 36, rfl, nr_u6, by decide, Or.inl wf_RX6_28⟩, fun _ _ _ _ => ⟨_, rfl, rfl⟩⟩
theorem gt_RX6_31 : nr_GT RX6 31 20 (fun ρ _ => .ref (ρ 28)) := ⟨by decide, 6, 13, ⟨RX6, TX6, 36, rfl, nr_u6, by decide, Or.inl wf_RX6_31⟩, fun _ _ _ _ => ⟨_, rfl, rfl⟩⟩
theorem gt_RX6_34 : nr_GT RX6 34 20 (fun ρ _ => .ref (ρ 29)) := ⟨by decide, 6, 23, ⟨RX6, TX6, 36, rfl, nr_u6, by decide, Or.inl wf_RX6_34⟩, fun _ _ _ _ => ⟨_, rfl, rfl⟩⟩
theorem gt_RX6_37 : nr_GT RX6 37 20 (fun ρ _ => .ref (ρ 30)) := ⟨by decide, 6, 24, ⟨RX6, TX6, 36, rfl, nr_u6, by decide, Or.inl wf_RX6_37⟩, fun _ _ _ _ => ⟨_, rfl, rfl⟩⟩
theorem gt_RX6_40 : nr_GT RX6 40 20 (fun ρ _ => .ref (ρ 31)) := ⟨by decide, 6, 25, ⟨RX6, TX6, 36, rfl, nr_u6, by decide, Or.inl wf_RX6_40⟩, fun _ _ _ _ => ⟨_, rfl, rfl⟩⟩
theorem gt_RX6_43 : nr_GT RX6 43 20 (fun ρ _ => .ref (ρ 32)) := ⟨by decide, 6, 26, ⟨RX6, TX6, 36, rfl, nr_u6, by decide, Or.inl wf_RX6_43⟩, fun _ _ _ _ => ⟨_, rfl, rfl⟩⟩
theorem gt_RX6_47 : nr_GT RX6 47 20 (fun ρ _ => .ref (ρ 33)) := ⟨by decide, 6, 30, ⟨RX6, TX6, 36, rfl, nr_u6, by decide, Or.inl wf_RX6_47⟩, fun _ _ _ _ => ⟨_, rfl, rfl⟩⟩
theorem gt_RX6_50 : nr_GT RX6 50 20 (fun _ z => .int (z 38)) := ⟨by decide, 6, 31, ⟨RX6, TX6, 36, rfl, nr_u6, by decide, Or.inl wf_RX6_50⟩, fun _ _ _ _ => ⟨_, rfl, rfl⟩⟩
theorem pt_RX6_50 : nr_PT RX6 50 20 38 .int := ⟨by decide, 6, 31, ⟨RX6, TX6, 36, tyX6, rfl, nr_u6, tyX6_ok, nmX6, by decide, wf_RX6_50, rfl, by decide +kernel⟩, fun _ _ _ _ => ⟨_, rfl, Nat.le_of_ble_eq_true rfl, fun v q hq => match q, hq with | 0, _ => rfl | 1, _ => rfl | 2, _ => rfl | 3, _ => rfl | 4, _ => rfl | 5, _ => rfl | 6, _ => rfl | 7, _ => rfl | 8, _ => rfl | 9, _ => rfl | 10, _ => rfl | 11, _ => rfl | 12, _ => rfl | 13, _ => rfl | 14, _ => rfl | 15, _ => rfl | 16, _ => rfl | 17, _ => rfl | 18, _ => rfl | 19, _ => rfl | 20, _ => rfl | 21, _ => rfl | 22, _ => rfl | 23, _ => rfl | 24, _ => rfl | 25, _ => rfl | 26, _ => rfl | 27, _ => rfl | 28, _ => rfl | 29, _ => rfl | 30, _ => rfl | 31, _ => rfl | 32, _ => rfl | 33, _ => rfl | 34, _ => rfl | 35, _ => rfl | n + 36, q => absurd q (by omega)⟩⟩
theorem gt_RX6_54 : nr_GT RX6 54 20 (fun ρ _ => .ref (ρ 34)) := ⟨by decide, 6, 32, ⟨RX6, TX6, 36, rfl, nr_u6, by decide, Or.inl wf_RX6_54⟩, fun _ _ _ _ => ⟨_, rfl, rfl⟩⟩
theorem gt_RX6_57 : nr_GT RX6 57 20 (fun ρ _ => .ref (ρ 35)) := ⟨by decide, 6, 35, ⟨RX6, TX6, 36, rfl, nr_u6, by decide, Or.inl wf_RX6_57⟩, fun _ _ _ _ => ⟨_, rfl, rfl⟩⟩
theorem gt_RX6_66 : nr_GT RX6 66 20 (fun _ z => .int (z 20)) := ⟨by decide, 6, 2, ⟨RX6, TX6, 36, rfl, nr_u6, by decide, Or.inl wf_RX6_66⟩, fun _ _ _ _ => ⟨_, rfl, rfl⟩⟩
theorem pt_RX6_66 : nr_PT RX6 66 20 20 .int := ⟨by decide, 6, 2, ⟨RX6, TX6, 36, tyX6, rfl, nr_u6, tyX6_ok, nmX6, by decide, wf_RX6_66, rfl, by decide +kernel⟩, fun _ _ _ _ => ⟨_, rfl, Nat.le_of_ble_eq_true rfl, fun v q hq => match q, hq with | 0, _ => rfl | 1, _ => rfl | 2, _ => rfl | 3, _ => rfl | 4, _ => rfl | 5, _ => rfl | 6, _ => rfl | 7, _ => rfl | 8, _ => rfl | 9, _ => rfl | 10, _ => rfl | 11, _ => rfl | 12, _ => rfl | 13, _ => rfl | 14, _ => rfl | 15, _ => rfl | 16, _ => rfl | 17, _ => rfl | 18, _ => rfl | 19, _ => rfl | 20, _ => rfl | 21, _ => rfl | 22, _ => rfl | 23, _ => rfl | 24, _ => rfl | 25, _ => rfl | 26, _ => rfl | 27, _ => rfl | 28, _ => rfl | 29, _ => rfl | 30, _ => rfl | 31, _ => rfl | 32, _ => rfl | 33, _ => rfl | 34, _ => rfl | 35, _ => rfl | n + 36, q => absurd q (by omega)⟩⟩
theorem gt_RX6_107 : nr_GT RX6 107 20 (fun _ z => .int (z 21)) := ⟨by decide, 6, 5, ⟨RX6, TX6, 36, rfl, nr_u6, by decide, Or.inl wf_RX6_107⟩, fun _ _ _ _ => ⟨_, rfl, rfl⟩⟩
theorem pt_RX6_107 : nr_PT RX6 107 20 21 .int := ⟨by decide, 6, 5, ⟨RX6, TX6, 36, tyX6, rfl, nr_u6, tyX6_ok, nmX6, by decide, wf_RX6_107, rfl, by decide +kernel⟩, fun _ _ _ _ => ⟨_, rfl, Nat.le_of_ble_eq_true rfl, fun v q hq => match q, hq with | 0, _ => rfl | 1, _ => rfl | 2, _ => rfl | 3, _ => rfl | 4, _ => rfl | 5, _ => rfl | 6, _ => rfl | 7, _ => rfl | 8, _ => rfl | 9, _ => rfl | 10, _ => rfl | 11, _ => rfl | 12, _ => rfl | 13, _ => rfl | 14, _ => rfl | 15, _ => rfl | 16, _ => rfl | 17, _ => rfl | 18, _ => rfl | 19, _ => rfl | 20, _ => rfl | 21, _ => rfl | 22, _ => rfl | 23, _ => rfl | 24, _ => rfl | 25, _ => rfl | 26, _ => rfl | 27, _ => rfl | 28, _ => rfl | 29, _ => rfl | 30, _ => rfl | 31, _ => rfl | 32, _ => rfl | 33, _ => rfl | 34, _ => rfl | 35, _ => rfl | n + 36, q => absurd q (by omega)⟩⟩
theorem gt_RX6_113 : nr_GT RX6 113 20 (fun _ z => .int (z 25)) := ⟨by decide, 6, 11, ⟨RX6, TX6, 36, rfl, nr_u6, by decide, Or.inl wf_RX6_113⟩, fun _ _ _ _ => ⟨_, rfl, rfl⟩⟩
theorem pt_RX6_113 : nr_PT RX6 113 20 25 .int := ⟨by decide, 6, 11, ⟨RX6, TX6, 36, tyX6, rfl, nr_u6, tyX6_ok, nmX6, by decide, wf_RX6_113, rfl, by decide +kernel⟩, fun _ _ _ _ => ⟨_, rfl, Nat.le_of_ble_eq_true rfl, fun v q hq => match q, hq with | 0, _ => rfl | 1, _ => rfl | 2, _ => rfl | 3, _ => rfl | 4, _ => rfl | 5, _ => rfl | 6, _ => rfl | 7, _ => rfl | 8, _ => rfl | 9, _ => rfl | 10, _ => rfl | 11, _ => rfl | 12, _ => rfl | 13, _ => rfl | 14, _ => rfl | 15, _ => rfl | 16, _ => rfl | 17, _ => rfl | 18, _ => rfl | 19, _ => rfl | 20, _ => rfl | 21, _ => rfl | 22, _ => rfl | 23, _ => rfl | 24, _ => rfl | 25, _ => rfl | 26, _ => rfl | 27, _ => rfl | 28, _ => rfl | 29, _ => rfl | 30, _ => rfl | 31, _ => rfl | 32, _ => rfl | 33, _ => rfl | 34, _ => rfl | 35, _ => rfl | n + 36, q => absurd q (by omega)⟩⟩
theorem gt_RX6_123 : nr_GT RX6 123 20 (fun _ z => .int (z 22)) := ⟨by decide, 6, 8, ⟨RX6, TX6, 36, rfl, nr_u6, by decide, Or.inl wf_RX6_123⟩, fun _ _ _ _ => ⟨_, rfl, rfl⟩⟩
theorem pt_RX6_123 : nr_PT RX6 123 20 22 .int := ⟨by decide, 6, 8, ⟨RX6, TX6, 36, tyX6, rfl, nr_u6, tyX6_ok, nmX6, by decide, wf_RX6_123, rfl, by decide +kernel⟩, fun _ _ _ _ => ⟨_, rfl, Nat.le_of_ble_eq_true rfl, fun v q hq => match q, hq with | 0, _ => rfl | 1, _ => rfl | 2, _ => rfl | 3, _ => rfl | 4, _ => rfl | 5, _ => rfl | 6, _ => rfl | 7, _ => rfl | 8, _ => rfl | 9, _ => rfl | 10, _ => rfl | 11, _ => rfl | 12, _ => rfl | 13, _ => rfl | 14, _ => rfl | 15, _ => rfl | 16, _ => rfl | 17, _ => rfl | 18, _ => rfl | 19, _ => rfl | 20, _ => rfl | 21, _ => rfl | 22, _ => rfl | 23, _ => rfl | 24, _ => rfl | 25, _ => rfl | 26, _ => rfl | 27, _ => rfl | 28, _ => rfl | 29, _ => rfl | 30, _ => rfl | 31, _ => rfl | 32, _ => rfl | 33, _ => rfl | 34, _ => rfl | 35, _ => rfl | n + 36, q => absurd q (by omega)⟩⟩
theorem gt_RX6_126 : nr_GT RX6 126 20 (fun _ z => .int (z 23)) := ⟨by decide, 6, 9, ⟨RX6, TX6, 36, rfl, nr_u6, by decide, Or.inl wf_RX6_126⟩, fun _ _ _ _ => ⟨_, rfl, rfl⟩⟩
theorem pt_RX6_126 : nr_PT RX6 126 20 23 .int := ⟨by decide, 6, 9, ⟨RX6, TX6, 36, tyX6, rfl, nr_u6, tyX6_ok, nmX6, by decide, wf_RX6_126, rfl, by decide +kernel⟩, fun _ _ _ _ => ⟨_, rfl, Nat.le_of_ble_eq_true rfl, fun v q hq => match q, hq with | 0, _ => rfl | 1, _ => rfl | 2, _ => rfl | 3, _ => rfl | 4, _ => rfl | 5, _ => rfl | 6, _ => rfl | 7, _ => rfl | 8, _ => rfl | 9, _ => rfl | 10, _ => rfl | 11, _ => rfl | 12, _ => rfl | 13, _ => rfl | 14, _ => rfl | 15, _ => rfl | 16, _ => rfl | 17, _ => rfl | 18, _ => rfl | 19, _ => rfl | 20, _ => rfl | 21, _ => rfl | 22, _ => rfl | 23, _ => rfl | 24, _ => rfl | 25, _ => rfl | 26, _ => rfl | 27, _ => rfl | 28, _ => rfl | 29, _ => rfl | 30, _ => rfl | 31, _ => rfl | 32, _ => rfl | 33, _ => rfl | 34, _ => rfl | 35, _ => rfl | n + 36, q => absurd q (by omega)⟩⟩
theorem gt_RX6_129 : nr_GT RX6 129 20 (fun _ z => .int (z 24)) := ⟨by decide, 6, 10, ⟨RX6, TX6, 36, rfl, nr_u6, by decide, Or.inl wf_RX6_129⟩, fun _ _ _ _ => ⟨_, rfl, rfl⟩⟩
theorem pt_RX6_129 : nr_PT RX6 129 20 24 .int := ⟨by decide, 6, 10, ⟨RX6, TX6, 36, tyX6, rfl, nr_u6, tyX6_ok, nmX6, by decide, wf_RX6_129, rfl, by decide +kernel⟩, fun _ _ _ _ => ⟨_, rfl, Nat.le_of_ble_eq_true rfl, fun v q hq => match q, hq with | 0, _ => rfl | 1, _ => rfl | 2, _ => rfl | 3, _ => rfl | 4, _ => rfl | 5, _ => rfl | 6, _ => rfl | 7, _ => rfl | 8, _ => rfl | 9, _ => rfl | 10, _ => rfl | 11, _ => rfl | 12, _ => rfl | 13, _ => rfl | 14, _ => rfl | 15, _ => rfl | 16, _ => rfl | 17, _ => rfl | 18, _ => rfl | 19, _ => rfl | 20, _ => rfl | 21, _ => rfl | 22, _ => rfl | 23, _ => rfl | 24, _ => rfl | 25, _ => rfl | 26, _ => rfl | 27, _ => rfl | 28, _ => rfl | 29, _ => rfl | 30, _ => rfl | 31, _ => rfl | 32, _ => rfl | 33, _ => rfl | 34, _ => rfl | 35, _ => rfl | n + 36, q => absurd q (by omega)⟩⟩
theorem gt_RX6_142 : nr_GT RX6 142 20 (fun _ z => .int (z 26)) := ⟨by decide, 6, 14, ⟨RX6, TX6, 36, rfl, nr_u6, by decide, Or.inl wf_RX6_142⟩, fun _ _ _ _ => ⟨_, rfl, rfl⟩⟩
theorem pt_RX6_142 : nr_PT RX6 142 20 26 .int := ⟨by decide, 6, 14, ⟨RX6, TX6, 36, tyX6, rfl, nr_u6, tyX6_ok, nmX6, by decide, wf_RX6_142, rfl, by decide +kernel⟩, fun _ _ _ _ => ⟨_, rfl, Nat.le_of_ble_eq_true rfl, fun v q hq => match q, hq with | 0, _ => rfl | 1, _ => rfl | 2, _ => rfl | 3, _ => rfl | 4, _ => rfl | 5, _ => rfl | 6, _ => rfl | 7, _ => rfl | 8, _ => rfl | 9, _ => rfl | 10, _ => rfl | 11, _ => rfl | 12, _ => rfl | 13, _ => rfl | 14, _ => rfl | 15, _ => rfl | 16, _ => rfl | 17, _ => rfl | 18, _ => rfl | 19, _ => rfl | 20, _ => rfl | 21, _ => rfl | 22, _ => rfl | 23, _ => rfl | 24, _ => rfl | 25, _ => rfl | 26, _ => rfl | 27, _ => rfl | 28, _ => rfl | 29, _ => rfl | 30, _ => rfl | 31, _ => rfl | 32, _ => rfl | 33, _ => rfl | 34, _ => rfl | 35, _ => rfl | n + 36, q => absurd q (by omega)⟩⟩
theorem gt_RX6_145 : nr_GT RX6 145 20 (fun _ z => .int (z 30)) := ⟨by decide, 6, 18, ⟨RX6, TX6, 36, rfl, nr_u6, by decide, Or.inl wf_RX6_145⟩, fun _ _ _ _ => ⟨_, rfl, rfl⟩⟩
theorem pt_RX6_145 : nr_PT RX6 145 20 30 .int := ⟨by decide, 6, 18, ⟨RX6, TX6, 36, tyX6, rfl, nr_u6, tyX6_ok, nmX6, by decide, wf_RX6_145, rfl, by decide +kernel⟩, fun _ _ _ _ => ⟨_, rfl, Nat.le_of_ble_eq_true rfl, fun v q hq => match q, hq with | 0, _ => rfl | 1, _ => rfl | 2, _ => rfl | 3, _ => rfl | 4, _ => rfl | 5, _ => rfl | 6, _ => rfl | 7, _ => rfl | 8, _ => rfl | 9, _ => rfl | 10, _ => rfl | 11, _ => rfl | 12, _ => rfl | 13, _ => rfl | 14, _ => rfl | 15, _ => rfl | 16, _ => rfl | 17, _ => rfl | 18, _ => rfl | 19, _ => rfl | 20, _ => rfl | 21, _ => rfl | 22, _ => rfl | 23, _ => rfl | 24, _ => rfl | 25, _ => rfl | 26, _ => rfl | 27, _ => rfl | 28, _ => rfl | 29, _ => rfl | 30, _ => rfl | 31, _ => rfl | 32, _ => rfl | 33, _ => rfl | 34, _ => rfl | 35, _ => rfl | n + 36, q => absurd q (by omega)⟩⟩
theorem gt_RX6_148 : nr_GT RX6 148 20 (fun _ z => .int (z 36)) := ⟨by decide, 6, 28, ⟨RX6, TX6, 36, rfl, nr_u6, by decide, Or.inl wf_RX6_148⟩, fun _ _ _ _ => ⟨_, rfl, rfl⟩⟩
theorem pt_RX6_148 : nr_PT RX6 148 20 36 .int := ⟨by decide, 6, 28, ⟨RX6, TX6, 36, tyX6, rfl, nr_u6, tyX6_ok, nmX6, by decide, wf_RX6_148, rfl, by decide +kernel⟩, fun _ _ _ _ => ⟨_, rfl, Nat.le_of_ble_eq_true rfl, fun v q hq => match q, hq with | 0, _ => rfl | 1, _ => rfl | 2, _ => rfl | 3, _ => rfl | 4, _ => rfl | 5, _ => rfl | 6, _ => rfl | 7, _ => rfl | 8, _ => rfl | 9, _ => rfl | 10, _ => rfl | 11, _ => rfl | 12, _ => rfl | 13, _ => rfl | 14, _ => rfl | 15, _ => rfl | 16, _ => rfl | 17, _ => rfl | 18, _ => rfl | 19, _ => rfl | 20, _ => rfl | 21, _ => rfl | 22, _ => rfl | 23, _ => rfl | 24, _ => rfl | 25, _ => rfl | 26, _ => rfl | 27, _ => rfl | 28, _ => rfl | 29, _ => rfl | 30, _ => rfl | 31, _ => rfl | 32, _ => rfl | 33, _ => rfl | 34, _ => rfl | 35, _ => rfl | n + 36, q => absurd q (by omega)⟩⟩
theorem gt_RX6_151 : nr_GT RX6 151 20 (fun _ z => .int (z 31)) := ⟨by decide, 6, 19, ⟨RX6, TX6, 36, rfl, nr_u6, by decide, Or.inl wf_RX6_151⟩, fun _ _ _ _ => ⟨_, rfl, rfl⟩⟩
theorem pt_RX6_151 : nr_PT RX6 151 20 31 .int := ⟨by decide, 6, 19, ⟨RX6, TX6, 36, tyX6, rfl, nr_u6, tyX6_ok, nmX6, by decide, wf_RX6_151, rfl, by decide +kernel⟩, fun _ _ _ _ => ⟨_, rfl, Nat.le_of_ble_eq_true rfl, fun v q hq => match q, hq with | 0, _ => rfl | 1, _ => rfl | 2, _ => rfl | 3, _ => rfl | 4, _ => rfl | 5, _ => rfl | 6, _ => rfl | 7, _ => rfl | 8, _ => rfl | 9, _ => rfl | 10, _ => rfl | 11, _ => rfl | 12, _ => rfl | 13, _ => rfl | 14, _ => rfl | 15, _ => rfl | 16, _ => rfl | 17, _ => rfl | 18, _ => rfl | 19, _ => rfl | 20, _ => rfl | 21, _ => rfl | 22, _ => rfl | 23, _ => rfl | 24, _ => rfl | 25, _ => rfl | 26, _ => rfl | 27, _ => rfl | 28, _ => rfl | 29, _ => rfl | 30, _ => rfl | 31, _ => rfl | 32, _ => rfl | 33, _ => rfl | 34, _ => rfl | 35, _ => rfl | n + 36, q => absurd q (by omega)⟩⟩
theorem gt_RX6_154 : nr_GT RX6 154 20 (fun _ z => .int (z 32)) := ⟨by decide, 6, 20, ⟨RX6, TX6, 36, rfl, nr_u6, by decide, Or.inl wf_RX6_154⟩, fun _ _ _ _ => ⟨_, rfl, rfl⟩⟩
theorem pt_RX6_154 : nr_PT RX6 154 20 32 .int := ⟨by decide, 6, 20, ⟨RX6, TX6, 36, tyX6, rfl, nr_u6, tyX6_ok, nmX6, by decide, wf_RX6_154, rfl, by decide +kernel⟩, fun _ _ _ _ => ⟨_, rfl, Nat.le_of_ble_eq_true rfl, fun v q hq => match q, hq with | 0, _ => rfl | 1, _ => rfl | 2, _ => rfl | 3, _ => rfl | 4, _ => rfl | 5, _ => rfl | 6, _ => rfl | 7, _ => rfl | 8, _ => rfl | 9, _ => rfl | 10, _ => rfl | 11, _ => rfl | 12, _ => rfl | 13, _ => rfl | 14, _ => rfl | 15, _ => rfl | 16, _ => rfl | 17, _ => rfl | 18, _ => rfl | 19, _ => rfl | 20, _ => rfl | 21, _ => rfl | 22, _ => rfl | 23, _ => rfl | 24, _ => rfl | 25, _ => rfl | 26, _ => rfl | 27, _ => rfl | 28, _ => rfl | 29, _ => rfl | 30, _ => rfl | 31, _ => rfl | 32, _ => rfl | 33, _ => rfl | 34, _ => rfl | 35, _ => rfl | n + 36, q => absurd q (by omega)⟩⟩
theorem gt_RX6_157 : nr_GT RX6 157 20 (fun _ z => .int (z 33)) := ⟨by decide, 6, 21, ⟨RX6, TX6, 36, rfl, nr_u6, by decide, Or.inl wf_RX6_157⟩, fun _ _ _ _ => ⟨_, rfl, rfl⟩⟩
theorem pt_RX6_157 : nr_PT RX6 157 20 33 .int := ⟨by decide, 6, 21, ⟨RX6, TX6, 36, tyX6, rfl, nr_u6, tyX6_ok, nmX6, by decide, wf_RX6_157, rfl, by decide +kernel⟩, fun _ _ _ _ => ⟨_, rfl, Nat.le_of_ble_eq_true rfl, fun v q hq => match q, hq with | 0, _ => rfl | 1, _ => rfl | 2, _ => rfl | 3, _ => rfl | 4, _ => rfl | 5, _ => rfl | 6, _ => rfl | 7, _ => rfl | 8, _ => rfl | 9, _ => rfl | 10, _ => rfl | 11, _ => rfl | 12, _ => rfl | 13, _ => rfl | 14, _ => rfl | 15, _ => rfl | 16, _ => rfl | 17, _ => rfl | 18, _ => rfl | 19, _ => rfl | 20, _ => rfl | 21, _ => rfl | 22, _ => rfl | 23, _ => rfl | 24, _ => rfl | 25, _ => rfl | 26, _ => rfl | 27, _ => rfl | 28, _ => rfl | 29, _ => rfl | 30, _ => rfl | 31, _ => rfl | 32, _ => rfl | 33, _ => rfl | 34, _ => rfl | 35, _ => rfl | n + 36, q => absurd q (by omega)⟩⟩
theorem gt_RX6_160 : nr_GT RX6 160 20 (fun _ z => .int (z 34)) := ⟨by decide, 6, 22, ⟨RX6, TX6, 36, rfl, nr_u6, by decide, Or.inl wf_RX6_160⟩, fun _ _ _ _ => ⟨_, rfl, rfl⟩⟩
theorem pt_RX6_160 : nr_PT RX6 160 20 34 .int := ⟨by decide, 6, 22, ⟨RX6, TX6, 36, tyX6, rfl, nr_u6, tyX6_ok, nmX6, by decide, wf_RX6_160, rfl, by decide +kernel⟩, fun _ _ _ _ => ⟨_, rfl, Nat.le_of_ble_eq_true rfl, fun v q hq => match q, hq with | 0, _ => rfl | 1, _ => rfl | 2, _ => rfl | 3, _ => rfl | 4, _ => rfl | 5, _ => rfl | 6, _ => rfl | 7, _ => rfl | 8, _ => rfl | 9, _ => rfl | 10, _ => rfl | 11, _ => rfl | 12, _ => rfl | 13, _ => rfl | 14, _ => rfl | 15, _ => rfl | 16, _ => rfl | 17, _ => rfl | 18, _ => rfl | 19, _ => rfl | 20, _ => rfl | 21, _ => rfl | 22, _ => rfl | 23, _ => rfl | 24, _ => rfl | 25, _ => rfl | 26, _ => rfl | 27, _ => rfl | 28, _ => rfl | 29, _ => rfl | 30, _ => rfl | 31, _ => rfl | 32, _ => rfl | 33, _ => rfl | 34, _ => rfl | 35, _ => rfl | n + 36, q => absurd q (by omega)⟩⟩
theorem gt_RX6_163 : nr_GT RX6 163 20 (fun _ z => .int (z 29)) := ⟨by decide, 6, 17, ⟨RX6, TX6, 36, rfl, nr_u6, by decide, Or.inl wf_RX6_163⟩, fun _ _ _ _ => ⟨_, rfl, rfl⟩⟩
theorem pt_RX6_163 : nr_PT RX6 163 20 29 .int := ⟨by decide, 6, 17, ⟨RX6, TX6, 36, tyX6, rfl, nr_u6, tyX6_ok, nmX6, by decide, wf_RX6_163, rfl, by decide +kernel⟩, fun _ _ _ _ => ⟨_, rfl, Nat.le_of_ble_eq_true rfl, fun v q hq => match q, hq with | 0, _ => rfl | 1, _ => rfl | 2, _ => rfl | 3, _ => rfl | 4, _ => rfl | 5, _ => rfl | 6, _ => rfl | 7, _ => rfl | 8, _ => rfl | 9, _ => rfl | 10, _ => rfl | 11, _ => rfl | 12, _ => rfl | 13, _ => rfl | 14, _ => rfl | 15, _ => rfl | 16, _ => rfl | 17, _ => rfl | 18, _ => rfl | 19, _ => rfl | 20, _ => rfl | 21, _ => rfl | 22, _ => rfl | 23, _ => rfl | 24, _ => rfl | 25, _ => rfl | 26, _ => rfl | 27, _ => rfl | 28, _ => rfl | 29, _ => rfl | 30, _ => rfl | 31, _ => rfl | 32, _ => rfl | 33, _ => rfl | 34, _ => rfl | 35, _ => rfl | n + 36, q => absurd q (by omega)⟩⟩
theorem gt_RX6_166 : nr_GT RX6 166 20 (fun _ z => .int (z 35)) := ⟨by decide, 6, 27, ⟨RX6, TX6, 36, rfl, nr_u6, by decide, Or.inl wf_RX6_166⟩, fun _ _ _ _ => ⟨_, rfl, rfl⟩⟩
theorem pt_RX6_166 : nr_PT RX6 166 20 35 .int := ⟨by decide, 6, 27, ⟨RX6, TX6, 36, tyX6, rfl, nr_u6, tyX6_ok, nmX6, by decide, wf_RX6_166, rfl, by decide +kernel⟩, fun _ _ _ _ => ⟨_, rfl, Nat.le_of_ble_eq_true rfl, fun v q hq => match q, hq with | 0, _ => rfl | 1, _ => rfl | 2, _ => rfl | 3, _ => rfl | 4, _ => rfl | 5, _ => rfl | 6, _ => rfl | 7, _ => rfl | 8, _ => rfl | 9, _ => rfl | 10, _ => rfl | 11, _ => rfl | 12, _ => rfl | 13, _ => rfl | 14, _ => rfl | 15, _ => rfl | 16, _ => rfl | 17, _ => rfl | 18, _ => rfl | 19, _ => rfl | 20, _ => rfl | 21, _ => rfl | 22, _ => rfl | 23, _ => rfl | 24, _ => rfl | 25, _ => rfl | 26, _ => rfl | 27, _ => rfl | 28, _ => rfl | 29, _ => rfl | 30, _ => rfl | 31, _ => rfl | 32, _ => rfl | 33, _ => rfl | 34, _ => rfl | 35, _ => rfl | n + 36, q => absurd q (by omega)⟩⟩
theorem gt_RX6_169 : nr_GT RX6 169 20 (fun _ z => .int (z 37)) := ⟨by decide, 6, 29, ⟨RX6, TX6, 36, rfl, nr_u6, by decide, Or.inl wf_RX6_169⟩, fun _ _ _ _ => ⟨_, rfl, rfl⟩⟩
theorem pt_RX6_169 : nr_PT RX6 169 20 37 .int := ⟨by decide, 6, 29, ⟨RX6, TX6, 36, tyX6, rfl, nr_u6, tyX6_ok, nmX6, by decide, wf_RX6_169, rfl, by decide +kernel⟩, fun _ _ _ _ => ⟨_, rfl, Nat.le_of_ble_eq_true rfl, fun v q hq => match q, hq with | 0, _ => rfl | 1, _ => rfl | 2, _ => rfl | 3, _ => rfl | 4, _ => rfl | 5, _ => rfl | 6, _ => rfl | 7, _ => rfl | 8, _ => rfl | 9, _ => rfl | 10, _ => rfl | 11, _ => rfl | 12, _ => rfl | 13, _ => rfl | 14, _ => rfl | 15, _ => rfl | 16, _ => rfl | 17, _ => rfl | 18, _ => rfl | 19, _ => rfl | 20, _ => rfl | 21, _ => rfl | 22, _ => rfl | 23, _ => rfl | 24, _ => rfl | 25, _ => rfl | 26, _ => rfl | 27, _ => rfl | 28, _ => rfl | 29, _ => rfl | 30, _ => rfl | 31, _ => rfl | 32, _ => rfl | 33, _ => rfl | 34, _ => rfl | 35, _ => rfl | n + 36, q => absurd q (by omega)⟩⟩
theorem gt_RX6_186 : nr_GT RX6 186 20 (fun _ z => .int (z 28)) := ⟨by decide, 6, 16, ⟨RX6, TX6, 36, rfl, nr_u6, by decide, Or.inl wf_RX6_186⟩, fun _ _ _ _ => ⟨_, rfl, rfl⟩⟩
theorem pt_RX6_186 : nr_PT RX6 186 20 28 .int := ⟨by decide, 6, 16, ⟨RX6, TX6, 36, tyX6, rfl, nr_u6, tyX6_ok, nmX6, by decide, wf_RX6_186, rfl, by decide +kernel⟩, fun _ _ _ _ => ⟨_, rfl, Nat.le_of_ble_eq_true rfl, fun v q hq => match q, hq with | 0, _ => rfl | 1, _ => rfl | 2, _ => rfl | 3, _ => rfl | 4, _ => rfl | 5, _ => rfl | 6, _ => rfl | 7, _ => rfl | 8, _ => rfl | 9, _ => rfl | 10, _ => rfl | 11, _ => rfl | 12, _ => rfl | 13, _ => rfl | 14, _ => rfl | 15, _ => rfl | 16, _ => rfl | 17, _ => rfl | 18, _ => rfl | 19, _ => rfl | 20, _ => rfl | 21, _ => rfl | 22, _ => rfl | 23, _ => rfl | 24, _ => rfl | 25, _ => rfl | 26, _ => rfl | 27, _ => rfl | 28, _ => rfl | 29, _ => rfl | 30, _ => rfl | 31, _ => rfl | 32, _ => rfl | 33, _ => rfl | 34, _ => rfl | 35, _ => rfl | n + 36, q => absurd q (by omega)⟩⟩
theorem gt_RX6_192 : nr_GT RX6 192 20 (fun _ z => .int (z 27)) := ⟨by decide, 6, 15, ⟨RX6, TX6, 36, rfl, nr_u6, by decide, Or.inl wf_RX6_192⟩, fun _ _ _ _ => ⟨_, rfl, rfl⟩⟩
theorem pt_RX6_192 : nr_PT RX6 192 20 27 .int := ⟨by decide, 6, 15, ⟨RX6, TX6, 36, tyX6, rfl, nr_u6, tyX6_ok, nmX6, by decide, wf_RX6_192, rfl, by decide +kernel⟩, fun _ _ _ _ => ⟨_, rfl, Nat.le_of_ble_eq_true rfl, fun v q hq => match q, hq with | 0, _ => rfl | 1, _ => rfl | 2, _ => rfl | 3, _ => rfl | 4, _ => rfl | 5, _ => rfl | 6, _ => rfl | 7, _ => rfl | 8, _ => rfl | 9, _ => rfl | 10, _ => rfl | 11, _ => rfl | 12, _ => rfl | 13, _ => rfl | 14, _ => rfl | 15, _ => rfl | 16, _ => rfl | 17, _ => rfl | 18, _ => rfl | 19, _ => rfl | 20, _ => rfl | 21, _ => rfl | 22, _ => rfl | 23, _ => rfl | 24, _ => rfl | 25, _ => rfl | 26, _ => rfl | 27, _ => rfl | 28, _ => rfl | 29, _ => rfl | 30, _ => rfl | 31, _ => rfl | 32, _ => rfl | 33, _ => rfl | 34, _ => rfl | 35, _ => rfl | n + 36, q => absurd q (by omega)⟩⟩
theorem gt_RX6_225 : nr_GT RX6 225 20 (fun _ z => .int (z 40)) := ⟨by decide, 6, 34, ⟨RX6, TX6, 36, rfl, nr_u6, by decide, Or.inl wf_RX6_225⟩, fun _ _ _ _ => ⟨_, rfl, rfl⟩⟩
theorem pt_RX6_225 : nr_PT RX6 225 20 40 .boolean := ⟨by decide, 6, 34, ⟨RX6, TX6, 36, tyX6, rfl, nr_u6, tyX6_ok, nmX6, by decide, wf_RX6_225, rfl, by decide +kernel⟩, fun _ _ _ _ => ⟨_, rfl, Nat.le_of_ble_eq_true rfl, fun v q hq => match q, hq with | 0, _ => rfl | 1, _ => rfl | 2, _ => rfl | 3, _ => rfl | 4, _ => rfl | 5, _ => rfl | 6, _ => rfl | 7, _ => rfl | 8, _ => rfl | 9, _ => rfl | 10, _ => rfl | 11, _ => rfl | 12, _ => rfl | 13, _ => rfl | 14, _ => rfl | 15, _ => rfl | 16, _ => rfl | 17, _ => rfl | 18, _ => rfl | 19, _ => rfl | 20, _ => rfl | 21, _ => rfl | 22, _ => rfl | 23, _ => rfl | 24, _ => rfl | 25, _ => rfl | 26, _ => rfl | 27, _ => rfl | 28, _ => rfl | 29, _ => rfl | 30, _ => rfl | 31, _ => rfl | 32, _ => rfl | 33, _ => rfl | 34, _ => rfl | 35, _ => rfl | n + 36, q => absurd q (by omega)⟩⟩
theorem gt_RX6_229 : nr_GT RX6 229 20 (fun _ z => .int (z 39)) := ⟨by decide, 6, 33, ⟨RX6, TX6, 36, rfl, nr_u6, by decide, Or.inl wf_RX6_229⟩, fun _ _ _ _ => ⟨_, rfl, rfl⟩⟩
theorem pt_RX6_229 : nr_PT RX6 229 20 39 .int := ⟨by decide, 6, 33, ⟨RX6, TX6, 36, tyX6, rfl, nr_u6, tyX6_ok, nmX6, by decide, wf_RX6_229, rfl, by decide +kernel⟩, fun _ _ _ _ => ⟨_, rfl, Nat.le_of_ble_eq_true rfl, fun v q hq => match q, hq with | 0, _ => rfl | 1, _ => rfl | 2, _ => rfl | 3, _ => rfl | 4, _ => rfl | 5, _ => rfl | 6, _ => rfl | 7, _ => rfl | 8, _ => rfl | 9, _ => rfl | 10, _ => rfl | 11, _ => rfl | 12, _ => rfl | 13, _ => rfl | 14, _ => rfl | 15, _ => rfl | 16, _ => rfl | 17, _ => rfl | 18, _ => rfl | 19, _ => rfl | 20, _ => rfl | 21, _ => rfl | 22, _ => rfl | 23, _ => rfl | 24, _ => rfl | 25, _ => rfl | 26, _ => rfl | 27, _ => rfl | 28, _ => rfl | 29, _ => rfl | 30, _ => rfl | 31, _ => rfl | 32, _ => rfl | 33, _ => rfl | 34, _ => rfl | 35, _ => rfl | n + 36, q => absurd q (by omega)⟩⟩
theorem ml_yX5_sets : nr_ML yX5_sets cX5_sets 5 (some .int) 3 := ⟨wc_yX5_sets, wn_RX5, ⟨by decide, by decide⟩, by decide +kernel, by decide⟩
theorem lv_RL_13 : nr_LV RL 13 5 yX5_sets cX5_sets 5 (some .int) 3 := ⟨wm_RL_13, wi_yX5_sets, we_yX5_sets, ml_yX5_sets, TX5, 10, rfl⟩
theorem ml_yX6_sets : nr_ML yX6_sets cX6_sets 6 (some .int) 3 := ⟨wc_yX6_sets, wn_RX6, ⟨by decide, by decide⟩, by decide +kernel, by decide⟩
theorem lv_RL_17 : nr_LV RL 17 6 yX6_sets cX6_sets 6 (some .int) 3 := ⟨wm_RL_17, wi_yX6_sets, we_yX6_sets, ml_yX6_sets, TX6, 36, rfl⟩
theorem ml_yX5_of : nr_ML yX5_of cX5_of 3 (some .int) 2 := ⟨wc_yX5_of, wn_RX5, ⟨by decide, by decide⟩, by decide +kernel, by decide⟩
theorem lv_RL_18 : nr_LV RL 18 5 yX5_of cX5_of 3 (some .int) 2 := ⟨wm_RL_18, wi_yX5_of, we_yX5_of, ml_yX5_of, TX5, 10, rfl⟩
theorem ml_yX6_of : nr_ML yX6_of cX6_of 3 (some .int) 2 := ⟨wc_yX6_of, wn_RX6, ⟨by decide, by decide⟩, by decide +kernel, by decide⟩
theorem lv_RL_22 : nr_LV RL 22 6 yX6_of cX6_of 3 (some .int) 2 := ⟨wm_RL_22, wi_yX6_of, we_yX6_of, ml_yX6_of, TX6, 36, rfl⟩
theorem ml_yX5_keys : nr_ML yX5_keys cX5_keys 3 (some .int) 1 := ⟨wc_yX5_keys, wn_RX5, ⟨by decide, by decide⟩, by decide +kernel, by decide⟩
theorem lv_RL_23 : nr_LV RL 23 5 yX5_keys cX5_keys 3 (some .int) 1 := ⟨wm_RL_23, wi_yX5_keys, we_yX5_keys, ml_yX5_keys, TX5, 10, rfl⟩
theorem ml_yX6_keys : nr_ML yX6_keys cX6_keys 3 (some .int) 1 := ⟨wc_yX6_keys, wn_RX6, ⟨by decide, by decide⟩, by decide +kernel, by decide⟩
theorem lv_RL_27 : nr_LV RL 27 6 yX6_keys cX6_keys 3 (some .int) 1 := ⟨wm_RL_27, wi_yX6_keys, we_yX6_keys, ml_yX6_keys, TX6, 36, rfl⟩
theorem ml_yX5_dusk : nr_ML yX5_dusk cX5_dusk 2 (some .int) 0 := ⟨wc_yX5_dusk, wn_RX5, ⟨by decide, by decide⟩, by decide +kernel, by decide⟩
theorem lv_RL_28 : nr_LV RL 28 5 yX5_dusk cX5_dusk 2 (some .int) 0 := ⟨wm_RL_28, wi_yX5_dusk, we_yX5_dusk, ml_yX5_dusk, TX5, 10, rfl⟩
theorem ml_yX6_dusk : nr_ML yX6_dusk cX6_dusk 3 (some .int) 0 := ⟨wc_yX6_dusk, wn_RX6, ⟨by decide, by decide⟩, by decide +kernel, by decide⟩
theorem lv_RL_32 : nr_LV RL 32 6 yX6_dusk cX6_dusk 3 (some .int) 0 := ⟨wm_RL_32, wi_yX6_dusk, we_yX6_dusk, ml_yX6_dusk, TX6, 36, rfl⟩
theorem ml_yX5_type : nr_ML yX5_type cX5_type 2 (some .int) 1 := ⟨wc_yX5_type, wn_RX5, ⟨by decide, by decide⟩, by decide +kernel, by decide⟩
theorem lv_RL_33 : nr_LV RL 33 5 yX5_type cX5_type 2 (some .int) 1 := ⟨wm_RL_33, wi_yX5_type, we_yX5_type, ml_yX5_type, TX5, 10, rfl⟩
theorem ml_yX6_type : nr_ML yX6_type cX6_type 2 (some .int) 1 := ⟨wc_yX6_type, wn_RX6, ⟨by decide, by decide⟩, by decide +kernel, by decide⟩
theorem lv_RL_36 : nr_LV RL 36 6 yX6_type cX6_type 2 (some .int) 1 := ⟨wm_RL_36, wi_yX6_type, we_yX6_type, ml_yX6_type, TX6, 36, rfl⟩
theorem ml_yX5_clear : nr_ML yX5_clear cX5_clear 2 (some .int) 0 := ⟨wc_yX5_clear, wn_RX5, ⟨by decide, by decide⟩, by decide +kernel, by decide⟩
theorem lv_RL_37 : nr_LV RL 37 5 yX5_clear cX5_clear 2 (some .int) 0 := ⟨wm_RL_37, wi_yX5_clear, we_yX5_clear, ml_yX5_clear, TX5, 10, rfl⟩
theorem ml_yX6_clear : nr_ML yX6_clear cX6_clear 2 (some .int) 0 := ⟨wc_yX6_clear, wn_RX6, ⟨by decide, by decide⟩, by decide +kernel, by decide⟩
theorem lv_RL_40 : nr_LV RL 40 6 yX6_clear cX6_clear 2 (some .int) 0 := ⟨wm_RL_40, wi_yX6_clear, we_yX6_clear, ml_yX6_clear, TX6, 36, rfl⟩
theorem ml_yX5_goes : nr_ML yX5_goes cX5_goes 2 (some .int) 0 := ⟨wc_yX5_goes, wn_RX5, ⟨by decide, by decide⟩, by decide +kernel, by decide⟩
theorem lv_RL_41 : nr_LV RL 41 5 yX5_goes cX5_goes 2 (some .int) 0 := ⟨wm_RL_41, wi_yX5_goes, we_yX5_goes, ml_yX5_goes, TX5, 10, rfl⟩
theorem ml_yX6_goes : nr_ML yX6_goes cX6_goes 3 (some .int) 0 := ⟨wc_yX6_goes, wn_RX6, ⟨by decide, by decide⟩, by decide +kernel, by decide⟩
theorem lv_RL_44 : nr_LV RL 44 6 yX6_goes cX6_goes 3 (some .int) 0 := ⟨wm_RL_44, wi_yX6_goes, we_yX6_goes, ml_yX6_goes, TX6, 36, rfl⟩
theorem ml_yX5_tries : nr_ML yX5_tries cX5_tries 2 (some .int) 0 := ⟨wc_yX5_tries, wn_RX5, ⟨by decide, by decide⟩, by decide +kernel, by decide⟩
theorem lv_RL_45 : nr_LV RL 45 5 yX5_tries cX5_tries 2 (some .int) 0 := ⟨wm_RL_45, wi_yX5_tries, we_yX5_tries, ml_yX5_tries, TX5, 10, rfl⟩
theorem ml_yX6_tries : nr_ML yX6_tries cX6_tries 3 (some .int) 0 := ⟨wc_yX6_tries, wn_RX6, ⟨by decide, by decide⟩, by decide +kernel, by decide⟩
theorem lv_RL_48 : nr_LV RL 48 6 yX6_tries cX6_tries 3 (some .int) 0 := ⟨wm_RL_48, wi_yX6_tries, we_yX6_tries, ml_yX6_tries, TX6, 36, rfl⟩
theorem ml_yX5_often : nr_ML yX5_often cX5_often 5 (some .int) 1 := ⟨wc_yX5_often, wn_RX5, ⟨by decide, by decide⟩, by decide +kernel, by decide⟩
theorem lv_RL_49 : nr_LV RL 49 5 yX5_often cX5_often 5 (some .int) 1 := ⟨wm_RL_49, wi_yX5_often, we_yX5_often, ml_yX5_often, TX5, 10, rfl⟩
theorem ml_yX6_often : nr_ML yX6_often cX6_often 6 (some .int) 1 := ⟨wc_yX6_often, wn_RX6, ⟨by decide, by decide⟩, by decide +kernel, by decide⟩
theorem lv_RL_52 : nr_LV RL 52 6 yX6_often cX6_often 6 (some .int) 1 := ⟨wm_RL_52, wi_yX6_often, we_yX6_often, ml_yX6_often, TX6, 36, rfl⟩
theorem ml_yX5_was : nr_ML yX5_was cX5_was 2 (some .int) 1 := ⟨wc_yX5_was, wn_RX5, ⟨by decide, by decide⟩, by decide +kernel, by decide⟩
theorem lv_RL_53 : nr_LV RL 53 5 yX5_was cX5_was 2 (some .int) 1 := ⟨wm_RL_53, wi_yX5_was, we_yX5_was, ml_yX5_was, TX5, 10, rfl⟩
theorem ml_yX6_was : nr_ML yX6_was cX6_was 2 (some .int) 1 := ⟨wc_yX6_was, wn_RX6, ⟨by decide, by decide⟩, by decide +kernel, by decide⟩
theorem lv_RL_56 : nr_LV RL 56 6 yX6_was cX6_was 2 (some .int) 1 := ⟨wm_RL_56, wi_yX6_was, we_yX6_was, ml_yX6_was, TX6, 36, rfl⟩
theorem ml_yX5_root : nr_ML yX5_root cX5_root 1 (some .int) 0 := ⟨wc_yX5_root, wn_RX5, ⟨by decide, by decide⟩, by decide +kernel, by decide⟩
theorem lv_RL_57 : nr_LV RL 57 5 yX5_root cX5_root 1 (some .int) 0 := ⟨wm_RL_57, wi_yX5_root, we_yX5_root, ml_yX5_root, TX5, 10, rfl⟩
theorem ml_yX6_root : nr_ML yX6_root cX6_root 1 (some .int) 0 := ⟨wc_yX6_root, wn_RX6, ⟨by decide, by decide⟩, by decide +kernel, by decide⟩
theorem lv_RL_60 : nr_LV RL 60 6 yX6_root cX6_root 1 (some .int) 0 := ⟨wm_RL_60, wi_yX6_root, we_yX6_root, ml_yX6_root, TX6, 36, rfl⟩
theorem ml_yX5_diary : nr_ML yX5_diary cX5_diary 2 (some .int) 1 := ⟨wc_yX5_diary, wn_RX5, ⟨by decide, by decide⟩, by decide +kernel, by decide⟩
theorem lv_RL_61 : nr_LV RL 61 5 yX5_diary cX5_diary 2 (some .int) 1 := ⟨wm_RL_61, wi_yX5_diary, we_yX5_diary, ml_yX5_diary, TX5, 10, rfl⟩
theorem ml_yX6_diary : nr_ML yX6_diary cX6_diary 2 (some .int) 1 := ⟨wc_yX6_diary, wn_RX6, ⟨by decide, by decide⟩, by decide +kernel, by decide⟩
theorem lv_RL_64 : nr_LV RL 64 6 yX6_diary cX6_diary 2 (some .int) 1 := ⟨wm_RL_64, wi_yX6_diary, we_yX6_diary, ml_yX6_diary, TX6, 36, rfl⟩
theorem ml_yX5_open : nr_ML yX5_open cX5_open 1 (some .int) 0 := ⟨wc_yX5_open, wn_RX5, ⟨by decide, by decide⟩, by decide +kernel, by decide⟩
theorem lv_RL_65 : nr_LV RL 65 5 yX5_open cX5_open 1 (some .int) 0 := ⟨wm_RL_65, wi_yX5_open, we_yX5_open, ml_yX5_open, TX5, 10, rfl⟩
theorem ml_yX6_open : nr_ML yX6_open cX6_open 1 (some .int) 0 := ⟨wc_yX6_open, wn_RX6, ⟨by decide, by decide⟩, by decide +kernel, by decide⟩
theorem lv_RL_68 : nr_LV RL 68 6 yX6_open cX6_open 1 (some .int) 0 := ⟨wm_RL_68, wi_yX6_open, we_yX6_open, ml_yX6_open, TX6, 36, rfl⟩
theorem ml_yX5_fewest : nr_ML yX5_fewest cX5_fewest 3 (some .int) 0 := ⟨wc_yX5_fewest, wn_RX5, ⟨by decide, by decide⟩, by decide +kernel, by decide⟩
theorem lv_RL_69 : nr_LV RL 69 5 yX5_fewest cX5_fewest 3 (some .int) 0 := ⟨wm_RL_69, wi_yX5_fewest, we_yX5_fewest, ml_yX5_fewest, TX5, 10, rfl⟩
theorem ml_yX6_fewest : nr_ML yX6_fewest cX6_fewest 5 (some .int) 0 := ⟨wc_yX6_fewest, wn_RX6, ⟨by decide, by decide⟩, by decide +kernel, by decide⟩
theorem lv_RL_72 : nr_LV RL 72 6 yX6_fewest cX6_fewest 5 (some .int) 0 := ⟨wm_RL_72, wi_yX6_fewest, we_yX6_fewest, ml_yX6_fewest, TX6, 36, rfl⟩
theorem ml_yX5_were : nr_ML yX5_were cX5_were 4 (some .int) 2 := ⟨wc_yX5_were, wn_RX5, ⟨by decide, by decide⟩, by decide +kernel, by decide⟩
theorem lv_RL_73 : nr_LV RL 73 5 yX5_were cX5_were 4 (some .int) 2 := ⟨wm_RL_73, wi_yX5_were, we_yX5_were, ml_yX5_were, TX5, 10, rfl⟩
theorem ml_yX6_were : nr_ML yX6_were cX6_were 5 (some .int) 2 := ⟨wc_yX6_were, wn_RX6, ⟨by decide, by decide⟩, by decide +kernel, by decide⟩
theorem lv_RL_76 : nr_LV RL 76 6 yX6_were cX6_were 5 (some .int) 2 := ⟨wm_RL_76, wi_yX6_were, we_yX6_were, ml_yX6_were, TX6, 36, rfl⟩
theorem ml_yX5_cures : nr_ML yX5_cures cX5_cures 5 (some .int) 1 := ⟨wc_yX5_cures, wn_RX5, ⟨by decide, by decide⟩, by decide +kernel, by decide⟩
theorem lv_RL_77 : nr_LV RL 77 5 yX5_cures cX5_cures 5 (some .int) 1 := ⟨wm_RL_77, wi_yX5_cures, we_yX5_cures, ml_yX5_cures, TX5, 10, rfl⟩
theorem ml_yX6_cures : nr_ML yX6_cures cX6_cures 5 (some .int) 1 := ⟨wc_yX6_cures, wn_RX6, ⟨by decide, by decide⟩, by decide +kernel, by decide⟩
theorem lv_RL_80 : nr_LV RL 80 6 yX6_cures cX6_cures 5 (some .int) 1 := ⟨wm_RL_80, wi_yX6_cures, we_yX6_cures, ml_yX6_cures, TX6, 36, rfl⟩
theorem ml_yX5_ends : nr_ML yX5_ends cX5_ends 5 (some .int) 1 := ⟨wc_yX5_ends, wn_RX5, ⟨by decide, by decide⟩, by decide +kernel, by decide⟩
theorem lv_RL_81 : nr_LV RL 81 5 yX5_ends cX5_ends 5 (some .int) 1 := ⟨wm_RL_81, wi_yX5_ends, we_yX5_ends, ml_yX5_ends, TX5, 10, rfl⟩
theorem ml_yX6_ends : nr_ML yX6_ends cX6_ends 5 (some .int) 1 := ⟨wc_yX6_ends, wn_RX6, ⟨by decide, by decide⟩, by decide +kernel, by decide⟩
theorem lv_RL_84 : nr_LV RL 84 6 yX6_ends cX6_ends 5 (some .int) 1 := ⟨wm_RL_84, wi_yX6_ends, we_yX6_ends, ml_yX6_ends, TX6, 36, rfl⟩
theorem ml_yX5_told : nr_ML yX5_told cX5_told 3 (some .int) 1 := ⟨wc_yX5_told, wn_RX5, ⟨by decide, by decide⟩, by decide +kernel, by decide⟩
theorem lv_RL_85 : nr_LV RL 85 5 yX5_told cX5_told 3 (some .int) 1 := ⟨wm_RL_85, wi_yX5_told, we_yX5_told, ml_yX5_told, TX5, 10, rfl⟩
theorem ml_yX6_told : nr_ML yX6_told cX6_told 3 (some .int) 1 := ⟨wc_yX6_told, wn_RX6, ⟨by decide, by decide⟩, by decide +kernel, by decide⟩
theorem lv_RL_88 : nr_LV RL 88 6 yX6_told cX6_told 3 (some .int) 1 := ⟨wm_RL_88, wi_yX6_told, we_yX6_told, ml_yX6_told, TX6, 36, rfl⟩
theorem ml_yX5_draw : nr_ML yX5_draw cX5_draw 2 (some .int) 1 := ⟨wc_yX5_draw, wn_RX5, ⟨by decide, by decide⟩, by decide +kernel, by decide⟩
theorem lv_RL_89 : nr_LV RL 89 5 yX5_draw cX5_draw 2 (some .int) 1 := ⟨wm_RL_89, wi_yX5_draw, we_yX5_draw, ml_yX5_draw, TX5, 10, rfl⟩
theorem ml_yX6_draw : nr_ML yX6_draw cX6_draw 5 (some .int) 1 := ⟨wc_yX6_draw, wn_RX6, ⟨by decide, by decide⟩, by decide +kernel, by decide⟩
theorem lv_RL_92 : nr_LV RL 92 6 yX6_draw cX6_draw 5 (some .int) 1 := ⟨wm_RL_92, wi_yX6_draw, we_yX6_draw, ml_yX6_draw, TX6, 36, rfl⟩
theorem ml_yX5_back : nr_ML yX5_back cX5_back 1 (some .int) 0 := ⟨wc_yX5_back, wn_RX5, ⟨by decide, by decide⟩, by decide +kernel, by decide⟩
theorem lv_RL_93 : nr_LV RL 93 5 yX5_back cX5_back 1 (some .int) 0 := ⟨wm_RL_93, wi_yX5_back, we_yX5_back, ml_yX5_back, TX5, 10, rfl⟩
theorem ml_yX6_back : nr_ML yX6_back cX6_back 2 (some .int) 0 := ⟨wc_yX6_back, wn_RX6, ⟨by decide, by decide⟩, by decide +kernel, by decide⟩
theorem lv_RL_96 : nr_LV RL 96 6 yX6_back cX6_back 2 (some .int) 0 := ⟨wm_RL_96, wi_yX6_back, we_yX6_back, ml_yX6_back, TX6, 36, rfl⟩
theorem ml_yX5_count : nr_ML yX5_count cX5_count 2 (some .int) 1 := ⟨wc_yX5_count, wn_RX5, ⟨by decide, by decide⟩, by decide +kernel, by decide⟩
theorem lv_RL_97 : nr_LV RL 97 5 yX5_count cX5_count 2 (some .int) 1 := ⟨wm_RL_97, wi_yX5_count, we_yX5_count, ml_yX5_count, TX5, 10, rfl⟩
theorem ml_yX6_count : nr_ML yX6_count cX6_count 2 (some .int) 1 := ⟨wc_yX6_count, wn_RX6, ⟨by decide, by decide⟩, by decide +kernel, by decide⟩
theorem lv_RL_100 : nr_LV RL 100 6 yX6_count cX6_count 2 (some .int) 1 := ⟨wm_RL_100, wi_yX6_count, we_yX6_count, ml_yX6_count, TX6, 36, rfl⟩
theorem ml_yX5_digest : nr_ML yX5_digest cX5_digest 5 (some .long) 0 := ⟨wc_yX5_digest, wn_RX5, ⟨by decide, by decide⟩, by decide +kernel, by decide⟩
theorem lv_RL_101 : nr_LV RL 101 5 yX5_digest cX5_digest 5 (some .long) 0 := ⟨wm_RL_101, wi_yX5_digest, we_yX5_digest, ml_yX5_digest, TX5, 10, rfl⟩
theorem ml_yX6_digest : nr_ML yX6_digest cX6_digest 5 (some .long) 0 := ⟨wc_yX6_digest, wn_RX6, ⟨by decide, by decide⟩, by decide +kernel, by decide⟩
theorem lv_RL_105 : nr_LV RL 105 6 yX6_digest cX6_digest 5 (some .long) 0 := ⟨wm_RL_105, wi_yX6_digest, we_yX6_digest, ml_yX6_digest, TX6, 36, rfl⟩
theorem ml_yX0_setCell : nr_ML yX0_setCell cX0_setCell 5 none 3 := ⟨wc_yX0_setCell, wn_RX0, ⟨by decide, by decide⟩, by decide +kernel, by decide⟩
theorem lv_RX0_15 : nr_LV RX0 15 0 yX0_setCell cX0_setCell 5 none 3 := ⟨wm_RX0_15, wi_yX0_setCell, we_yX0_setCell, ml_yX0_setCell, TX0, 1, rfl⟩
theorem ml_yX0_cell : nr_ML yX0_cell cX0_cell 4 (some .int) 2 := ⟨wc_yX0_cell, wn_RX0, ⟨by decide, by decide⟩, by decide +kernel, by decide⟩
theorem lv_RX0_19 : nr_LV RX0 19 0 yX0_cell cX0_cell 4 (some .int) 2 := ⟨wm_RX0_19, wi_yX0_cell, we_yX0_cell, ml_yX0_cell, TX0, 1, rfl⟩
theorem ml_yX0_swollen : nr_ML yX0_swollen cX0_swollen 1 (some .int) 1 := ⟨wc_yX0_swollen, wn_RX0, ⟨by decide, by decide⟩, by decide +kernel, by decide⟩
theorem ls_RX0_23 : nr_LS RX0 23 yX0_swollen cX0_swollen 1 (some .int) 1 := ⟨Or.inl wm_RX0_23, ws_yX0_swollen, ml_yX0_swollen⟩
theorem ml_yX0_keyring : nr_ML yX0_keyring cX0_keyring 1 (some .int) 0 := ⟨wc_yX0_keyring, wn_RX0, ⟨by decide, by decide⟩, by decide +kernel, by decide⟩
theorem lv_RX0_27 : nr_LV RX0 27 0 yX0_keyring cX0_keyring 1 (some .int) 0 := ⟨wm_RX0_27, wi_yX0_keyring, we_yX0_keyring, ml_yX0_keyring, TX0, 1, rfl⟩
theorem ml_yX0_sleepNow : nr_ML yX0_sleepNow cX0_sleepNow 2 (some .int) 1 := ⟨wc_yX0_sleepNow, wn_RX0, ⟨by decide, by decide⟩, by decide +kernel, by decide⟩
theorem lv_RX0_31 : nr_LV RX0 31 0 yX0_sleepNow cX0_sleepNow 2 (some .int) 1 := ⟨wm_RX0_31, wi_yX0_sleepNow, we_yX0_sleepNow, ml_yX0_sleepNow, TX0, 1, rfl⟩
theorem ml_yX0_giveKeys : nr_ML yX0_giveKeys cX0_giveKeys 2 none 1 := ⟨wc_yX0_giveKeys, wn_RX0, ⟨by decide, by decide⟩, by decide +kernel, by decide⟩
theorem lv_RX0_39 : nr_LV RX0 39 0 yX0_giveKeys cX0_giveKeys 2 none 1 := ⟨wm_RX0_39, wi_yX0_giveKeys, we_yX0_giveKeys, ml_yX0_giveKeys, TX0, 1, rfl⟩
theorem ml_yJ7_fill_53178 : nr_ML yJ7_fill_53178 cJ7_fill_53178 4 none 2 := ⟨wc_yJ7_fill_53178, wn_RJ7, ⟨by decide, by decide⟩, by decide +kernel, by decide⟩
theorem ls_RX0_49 : nr_LS RX0 49 yJ7_fill_53178 cJ7_fill_53178 4 none 2 := ⟨Or.inl wm_RX0_49, ws_yJ7_fill_53178, ml_yJ7_fill_53178⟩
theorem ml_yX0_upToThree : nr_ML yX0_upToThree cX0_upToThree 1 (some .int) 1 := ⟨wc_yX0_upToThree, wn_RX0, ⟨by decide, by decide⟩, by decide +kernel, by decide⟩
theorem ls_RX0_69 : nr_LS RX0 69 yX0_upToThree cX0_upToThree 1 (some .int) 1 := ⟨Or.inl wm_RX0_69, ws_yX0_upToThree, ml_yX0_upToThree⟩
theorem ml_yX4_begin : nr_ML yX4_begin cX4_begin 1 none 0 := ⟨wc_yX4_begin, wn_RX4, ⟨by decide, by decide⟩, by decide +kernel, by decide⟩
theorem lv_RX2_23 : nr_LV RX2 23 4 yX4_begin cX4_begin 1 none 0 := ⟨wm_RX2_23, wi_yX4_begin, we_yX4_begin, ml_yX4_begin, TX4, 5, rfl⟩
theorem ml_yX3_acts : nr_ML yX3_acts cX3_acts 1 (some .int) 0 := ⟨wc_yX3_acts, wn_RX3, ⟨by decide, by decide⟩, by decide +kernel, by decide⟩
theorem lv_RX2_28 : nr_LV RX2 28 3 yX3_acts cX3_acts 1 (some .int) 0 := ⟨wm_RX2_28, wi_yX3_acts, we_yX3_acts, ml_yX3_acts, TX3, 11, rfl⟩
theorem ml_yX2_doActs : nr_ML yX2_doActs cX2_doActs 7 (some .boolean) 4 := ⟨wc_yX2_doActs, wn_RX2, ⟨by decide, by decide⟩, by decide +kernel, by decide⟩
theorem lv_RX2_34 : nr_LV RX2 34 2 yX2_doActs cX2_doActs 7 (some .boolean) 4 := ⟨wm_RX2_34, wi_yX2_doActs, we_yX2_doActs, ml_yX2_doActs, TX2, 3, rfl⟩
theorem ml_yX0_sum : nr_ML yX0_sum cX0_sum 1 (some .int) 0 := ⟨wc_yX0_sum, wn_RX0, ⟨by decide, by decide⟩, by decide +kernel, by decide⟩
theorem lv_RX2_38 : nr_LV RX2 38 0 yX0_sum cX0_sum 1 (some .int) 0 := ⟨wm_RX2_38, wi_yX0_sum, we_yX0_sum, ml_yX0_sum, TX0, 1, rfl⟩
theorem ml_yX4_close : nr_ML yX4_close cX4_close 2 none 1 := ⟨wc_yX4_close, wn_RX4, ⟨by decide, by decide⟩, by decide +kernel, by decide⟩
theorem lv_RX2_43 : nr_LV RX2 43 4 yX4_close cX4_close 2 none 1 := ⟨wm_RX2_43, wi_yX4_close, we_yX4_close, ml_yX4_close, TX4, 5, rfl⟩
theorem ml_yX4_fact : nr_ML yX4_fact cX4_fact 2 (some .int) 1 := ⟨wc_yX4_fact, wn_RX4, ⟨by decide, by decide⟩, by decide +kernel, by decide⟩
theorem lv_RX2_47 : nr_LV RX2 47 4 yX4_fact cX4_fact 2 (some .int) 1 := ⟨wm_RX2_47, wi_yX4_fact, we_yX4_fact, ml_yX4_fact, TX4, 5, rfl⟩
theorem ml_yX2_doAct : nr_ML yX2_doAct cX2_doAct 4 (some .boolean) 3 := ⟨wc_yX2_doAct, wn_RX2, ⟨by decide, by decide⟩, by decide +kernel, by decide⟩
theorem lv_RX2_51 : nr_LV RX2 51 2 yX2_doAct cX2_doAct 4 (some .boolean) 3 := ⟨wm_RX2_51, wi_yX2_doAct, we_yX2_doAct, ml_yX2_doAct, TX2, 3, rfl⟩
theorem ml_yX3_next : nr_ML yX3_next cX3_next 2 (some .int) 1 := ⟨wc_yX3_next, wn_RX3, ⟨by decide, by decide⟩, by decide +kernel, by decide⟩
theorem lv_RX2_55 : nr_LV RX2 55 3 yX3_next cX3_next 2 (some .int) 1 := ⟨wm_RX2_55, wi_yX3_next, we_yX3_next, ml_yX3_next, TX3, 11, rfl⟩
theorem ml_yX4_tick : nr_ML yX4_tick cX4_tick 1 (some .boolean) 0 := ⟨wc_yX4_tick, wn_RX4, ⟨by decide, by decide⟩, by decide +kernel, by decide⟩
theorem lv_RX2_58 : nr_LV RX2 58 4 yX4_tick cX4_tick 1 (some .boolean) 0 := ⟨wm_RX2_58, wi_yX4_tick, we_yX4_tick, ml_yX4_tick, TX4, 5, rfl⟩
theorem ml_yX2_befalls : nr_ML yX2_befalls cX2_befalls 3 (some .boolean) 2 := ⟨wc_yX2_befalls, wn_RX2, ⟨by decide, by decide⟩, by decide +kernel, by decide⟩
theorem lv_RX2_62 : nr_LV RX2 62 2 yX2_befalls cX2_befalls 3 (some .boolean) 2 := ⟨wm_RX2_62, wi_yX2_befalls, we_yX2_befalls, ml_yX2_befalls, TX2, 3, rfl⟩
theorem ml_yX3_sign : nr_ML yX3_sign cX3_sign 2 (some .int) 1 := ⟨wc_yX3_sign, wn_RX3, ⟨by decide, by decide⟩, by decide +kernel, by decide⟩
theorem lv_RX2_66 : nr_LV RX2 66 3 yX3_sign cX3_sign 2 (some .int) 1 := ⟨wm_RX2_66, wi_yX3_sign, we_yX3_sign, ml_yX3_sign, TX3, 11, rfl⟩
theorem ml_yX2_goInto : nr_ML yX2_goInto cX2_goInto 6 (some .boolean) 3 := ⟨wc_yX2_goInto, wn_RX2, ⟨by decide, by decide⟩, by decide +kernel, by decide⟩
theorem lv_RX2_69 : nr_LV RX2 69 2 yX2_goInto cX2_goInto 6 (some .boolean) 3 := ⟨wm_RX2_69, wi_yX2_goInto, we_yX2_goInto, ml_yX2_goInto, TX2, 3, rfl⟩
theorem ml_yX2_doOrElse : nr_ML yX2_doOrElse cX2_doOrElse 4 (some .boolean) 3 := ⟨wc_yX2_doOrElse, wn_RX2, ⟨by decide, by decide⟩, by decide +kernel, by decide⟩
theorem lv_RX2_72 : nr_LV RX2 72 2 yX2_doOrElse cX2_doOrElse 4 (some .boolean) 3 := ⟨wm_RX2_72, wi_yX2_doOrElse, we_yX2_doOrElse, ml_yX2_doOrElse, TX2, 3, rfl⟩
theorem ml_yX2_doAndHear : nr_ML yX2_doAndHear cX2_doAndHear 5 (some .boolean) 3 := ⟨wc_yX2_doAndHear, wn_RX2, ⟨by decide, by decide⟩, by decide +kernel, by decide⟩
theorem lv_RX2_75 : nr_LV RX2 75 2 yX2_doAndHear cX2_doAndHear 5 (some .boolean) 3 := ⟨wm_RX2_75, wi_yX2_doAndHear, we_yX2_doAndHear, ml_yX2_doAndHear, TX2, 3, rfl⟩
theorem ml_yX2_doAndReport : nr_ML yX2_doAndReport cX2_doAndReport 4 (some .boolean) 3 := ⟨wc_yX2_doAndReport, wn_RX2, ⟨by decide, by decide⟩, by decide +kernel, by decide⟩
theorem lv_RX2_78 : nr_LV RX2 78 2 yX2_doAndReport cX2_doAndReport 4 (some .boolean) 3 := ⟨wm_RX2_78, wi_yX2_doAndReport, we_yX2_doAndReport, ml_yX2_doAndReport, TX2, 3, rfl⟩
theorem ml_yX2_doSoOften : nr_ML yX2_doSoOften cX2_doSoOften 6 (some .boolean) 3 := ⟨wc_yX2_doSoOften, wn_RX2, ⟨by decide, by decide⟩, by decide +kernel, by decide⟩
theorem lv_RX2_81 : nr_LV RX2 81 2 yX2_doSoOften cX2_doSoOften 6 (some .boolean) 3 := ⟨wm_RX2_81, wi_yX2_doSoOften, we_yX2_doSoOften, ml_yX2_doSoOften, TX2, 3, rfl⟩
theorem ml_yX3_figure : nr_ML yX3_figure cX3_figure 2 (some .int) 1 := ⟨wc_yX3_figure, wn_RX3, ⟨by decide, by decide⟩, by decide +kernel, by decide⟩
theorem lv_RX2_84 : nr_LV RX2 84 3 yX3_figure cX3_figure 2 (some .int) 1 := ⟨wm_RX2_84, wi_yX3_figure, we_yX3_figure, ml_yX3_figure, TX3, 11, rfl⟩
theorem ml_yX4_befall : nr_ML yX4_befall cX4_befall 4 none 3 := ⟨wc_yX4_befall, wn_RX4, ⟨by decide, by decide⟩, by decide +kernel, by decide⟩
theorem lv_RX2_87 : nr_LV RX2 87 4 yX4_befall cX4_befall 4 none 3 := ⟨wm_RX2_87, wi_yX4_befall, we_yX4_befall, ml_yX4_befall, TX4, 5, rfl⟩
theorem ml_yX4_doorsOpen : nr_ML yX4_doorsOpen cX4_doorsOpen 1 (some .int) 0 := ⟨wc_yX4_doorsOpen, wn_RX4, ⟨by decide, by decide⟩, by decide +kernel, by decide⟩
theorem lv_RX2_91 : nr_LV RX2 91 4 yX4_doorsOpen cX4_doorsOpen 1 (some .int) 0 := ⟨wm_RX2_91, wi_yX4_doorsOpen, we_yX4_doorsOpen, ml_yX4_doorsOpen, TX4, 5, rfl⟩
theorem ml_yX0_addToSum : nr_ML yX0_addToSum cX0_addToSum 2 none 1 := ⟨wc_yX0_addToSum, wn_RX0, ⟨by decide, by decide⟩, by decide +kernel, by decide⟩
theorem lv_RX2_94 : nr_LV RX2 94 0 yX0_addToSum cX0_addToSum 2 none 1 := ⟨wm_RX2_94, wi_yX0_addToSum, we_yX0_addToSum, ml_yX0_addToSum, TX0, 1, rfl⟩
theorem ml_yX2_doInRoom : nr_ML yX2_doInRoom cX2_doInRoom 3 (some .boolean) 2 := ⟨wc_yX2_doInRoom, wn_RX2, ⟨by decide, by decide⟩, by decide +kernel, by decide⟩
theorem lv_RX2_97 : nr_LV RX2 97 2 yX2_doInRoom cX2_doInRoom 3 (some .boolean) 2 := ⟨wm_RX2_97, wi_yX2_doInRoom, we_yX2_doInRoom, ml_yX2_doInRoom, TX2, 3, rfl⟩
theorem ml_yX3_middle : nr_ML yX3_middle cX3_middle 2 (some .int) 1 := ⟨wc_yX3_middle, wn_RX3, ⟨by decide, by decide⟩, by decide +kernel, by decide⟩
theorem lv_RX2_100 : nr_LV RX2 100 3 yX3_middle cX3_middle 2 (some .int) 1 := ⟨wm_RX2_100, wi_yX3_middle, we_yX3_middle, ml_yX3_middle, TX3, 11, rfl⟩
theorem ml_yX4_calm : nr_ML yX4_calm cX4_calm 1 none 0 := ⟨wc_yX4_calm, wn_RX4, ⟨by decide, by decide⟩, by decide +kernel, by decide⟩
theorem lv_RX2_103 : nr_LV RX2 103 4 yX4_calm cX4_calm 1 none 0 := ⟨wm_RX2_103, wi_yX4_calm, we_yX4_calm, ml_yX4_calm, TX4, 5, rfl⟩
theorem ml_yX0_admits : nr_ML yX0_admits cX0_admits 3 (some .boolean) 1 := ⟨wc_yX0_admits, wn_RX0, ⟨by decide, by decide⟩, by decide +kernel, by decide⟩
theorem lv_RX2_106 : nr_LV RX2 106 0 yX0_admits cX0_admits 3 (some .boolean) 1 := ⟨wm_RX2_106, wi_yX0_admits, we_yX0_admits, ml_yX0_admits, TX0, 1, rfl⟩
theorem ml_yX0_openDoor : nr_ML yX0_openDoor cX0_openDoor 2 none 1 := ⟨wc_yX0_openDoor, wn_RX0, ⟨by decide, by decide⟩, by decide +kernel, by decide⟩
theorem lv_RX2_110 : nr_LV RX2 110 0 yX0_openDoor cX0_openDoor 2 none 1 := ⟨wm_RX2_110, wi_yX0_openDoor, we_yX0_openDoor, ml_yX0_openDoor, TX0, 1, rfl⟩
theorem ml_yX4_doorOpened : nr_ML yX4_doorOpened cX4_doorOpened 2 none 1 := ⟨wc_yX4_doorOpened, wn_RX4, ⟨by decide, by decide⟩, by decide +kernel, by decide⟩
theorem lv_RX2_113 : nr_LV RX2 113 4 yX4_doorOpened cX4_doorOpened 2 none 1 := ⟨wm_RX2_113, wi_yX4_doorOpened, we_yX4_doorOpened, ml_yX4_doorOpened, TX4, 5, rfl⟩
theorem ml_yX0_loudness : nr_ML yX0_loudness cX0_loudness 3 (some .int) 1 := ⟨wc_yX0_loudness, wn_RX0, ⟨by decide, by decide⟩, by decide +kernel, by decide⟩
theorem lv_RX2_116 : nr_LV RX2 116 0 yX0_loudness cX0_loudness 3 (some .int) 1 := ⟨wm_RX2_116, wi_yX0_loudness, we_yX0_loudness, ml_yX0_loudness, TX0, 1, rfl⟩
theorem ml_yX0_wakes : nr_ML yX0_wakes cX0_wakes 4 (some .boolean) 2 := ⟨wc_yX0_wakes, wn_RX0, ⟨by decide, by decide⟩, by decide +kernel, by decide⟩
theorem lv_RX2_119 : nr_LV RX2 119 0 yX0_wakes cX0_wakes 4 (some .boolean) 2 := ⟨wm_RX2_119, wi_yX0_wakes, we_yX0_wakes, ml_yX0_wakes, TX0, 1, rfl⟩
theorem ml_yX2_doFirstPart : nr_ML yX2_doFirstPart cX2_doFirstPart 4 (some .boolean) 3 := ⟨wc_yX2_doFirstPart, wn_RX2, ⟨by decide, by decide⟩, by decide +kernel, by decide⟩
theorem lv_RX2_122 : nr_LV RX2 122 2 yX2_doFirstPart cX2_doFirstPart 4 (some .boolean) 3 := ⟨wm_RX2_122, wi_yX2_doFirstPart, we_yX2_doFirstPart, ml_yX2_doFirstPart, TX2, 3, rfl⟩
theorem ml_yX4_doorShut : nr_ML yX4_doorShut cX4_doorShut 2 none 1 := ⟨wc_yX4_doorShut, wn_RX4, ⟨by decide, by decide⟩, by decide +kernel, by decide⟩
theorem lv_RX2_125 : nr_LV RX2 125 4 yX4_doorShut cX4_doorShut 2 none 1 := ⟨wm_RX2_125, wi_yX4_doorShut, we_yX4_doorShut, ml_yX4_doorShut, TX4, 5, rfl⟩
theorem ml_yX5_within : nr_ML yX5_within cX5_within 3 (some .boolean) 3 := ⟨wc_yX5_within, wn_RX5, ⟨by decide, by decide⟩, by decide +kernel, by decide⟩
theorem ls_RX2_128 : nr_LS RX2 128 yX5_within cX5_within 3 (some .boolean) 3 := ⟨Or.inr ⟨_, wm_RX2_128⟩, ws_yX5_within, ml_yX5_within⟩
theorem ml_yX2_doSecondPart : nr_ML yX2_doSecondPart cX2_doSecondPart 4 (some .boolean) 3 := ⟨wc_yX2_doSecondPart, wn_RX2, ⟨by decide, by decide⟩, by decide +kernel, by decide⟩
theorem lv_RX2_131 : nr_LV RX2 131 2 yX2_doSecondPart cX2_doSecondPart 4 (some .boolean) 3 := ⟨wm_RX2_131, wi_yX2_doSecondPart, we_yX2_doSecondPart, ml_yX2_doSecondPart, TX2, 3, rfl⟩
theorem ml_yX4_report : nr_ML yX4_report cX4_report 1 none 0 := ⟨wc_yX4_report, wn_RX4, ⟨by decide, by decide⟩, by decide +kernel, by decide⟩
theorem lv_RX2_134 : nr_LV RX2 134 4 yX4_report cX4_report 1 none 0 := ⟨wm_RX2_134, wi_yX4_report, we_yX4_report, ml_yX4_report, TX4, 5, rfl⟩
theorem ml_yX0_turnLamp : nr_ML yX0_turnLamp cX0_turnLamp 2 none 1 := ⟨wc_yX0_turnLamp, wn_RX0, ⟨by decide, by decide⟩, by decide +kernel, by decide⟩
theorem lv_RX2_137 : nr_LV RX2 137 0 yX0_turnLamp cX0_turnLamp 2 none 1 := ⟨wm_RX2_137, wi_yX0_turnLamp, we_yX0_turnLamp, ml_yX0_turnLamp, TX0, 1, rfl⟩
theorem ml_yX0_takeKey : nr_ML yX0_takeKey cX0_takeKey 3 none 1 := ⟨wc_yX0_takeKey, wn_RX0, ⟨by decide, by decide⟩, by decide +kernel, by decide⟩
theorem lv_RX2_140 : nr_LV RX2 140 0 yX0_takeKey cX0_takeKey 3 none 1 := ⟨wm_RX2_140, wi_yX0_takeKey, we_yX0_takeKey, ml_yX0_takeKey, TX0, 1, rfl⟩
theorem lv_RX2_143 : nr_LV RX2 143 0 yX0_cell cX0_cell 4 (some .int) 2 := ⟨wm_RX2_143, wi_yX0_cell, we_yX0_cell, ml_yX0_cell, TX0, 1, rfl⟩
theorem lv_RX2_147 : nr_LV RX2 147 0 yX0_sleepNow cX0_sleepNow 2 (some .int) 1 := ⟨wm_RX2_147, wi_yX0_sleepNow, we_yX0_sleepNow, ml_yX0_sleepNow, TX0, 1, rfl⟩
theorem ml_yX5_at : nr_ML yX5_at cX5_at 2 (some .int) 2 := ⟨wc_yX5_at, wn_RX5, ⟨by decide, by decide⟩, by decide +kernel, by decide⟩
theorem ls_RX3_40 : nr_LS RX3 40 yX5_at cX5_at 2 (some .int) 2 := ⟨Or.inr ⟨_, wm_RX3_40⟩, ws_yX5_at, ml_yX5_at⟩
theorem ml_yX3_readActs : nr_ML yX3_readActs cX3_readActs 3 none 1 := ⟨wc_yX3_readActs, wn_RX3, ⟨by decide, by decide⟩, by decide +kernel, by decide⟩
theorem lv_RX3_50 : nr_LV RX3 50 3 yX3_readActs cX3_readActs 3 none 1 := ⟨wm_RX3_50, wi_yX3_readActs, we_yX3_readActs, ml_yX3_readActs, TX3, 11, rfl⟩
theorem ml_yX3_nextSign : nr_ML yX3_nextSign cX3_nextSign 1 (some .int) 0 := ⟨wc_yX3_nextSign, wn_RX3, ⟨by decide, by decide⟩, by decide +kernel, by decide⟩
theorem lv_RX3_54 : nr_LV RX3 54 3 yX3_nextSign cX3_nextSign 1 (some .int) 0 := ⟨wm_RX3_54, wi_yX3_nextSign, we_yX3_nextSign, ml_yX3_nextSign, TX3, 11, rfl⟩
theorem ml_yX3_beginsAct : nr_ML yX3_beginsAct cX3_beginsAct 1 (some .boolean) 1 := ⟨wc_yX3_beginsAct, wn_RX3, ⟨by decide, by decide⟩, by decide +kernel, by decide⟩
theorem ls_RX3_58 : nr_LS RX3 58 yX3_beginsAct cX3_beginsAct 1 (some .boolean) 1 := ⟨Or.inl wm_RX3_58, ws_yX3_beginsAct, ml_yX3_beginsAct⟩
theorem ml_yX3_readAct : nr_ML yX3_readAct cX3_readAct 4 none 1 := ⟨wc_yX3_readAct, wn_RX3, ⟨by decide, by decide⟩, by decide +kernel, by decide⟩
theorem lv_RX3_62 : nr_LV RX3 62 3 yX3_readAct cX3_readAct 4 none 1 := ⟨wm_RX3_62, wi_yX3_readAct, we_yX3_readAct, ml_yX3_readAct, TX3, 11, rfl⟩
theorem ml_yX3_holdsActs : nr_ML yX3_holdsActs cX3_holdsActs 1 (some .boolean) 1 := ⟨wc_yX3_holdsActs, wn_RX3, ⟨by decide, by decide⟩, by decide +kernel, by decide⟩
theorem ls_RX3_65 : nr_LS RX3 65 yX3_holdsActs cX3_holdsActs 1 (some .boolean) 1 := ⟨Or.inl wm_RX3_65, ws_yX3_holdsActs, ml_yX3_holdsActs⟩
theorem ml_yX3_isRoomSign : nr_ML yX3_isRoomSign cX3_isRoomSign 1 (some .boolean) 1 := ⟨wc_yX3_isRoomSign, wn_RX3, ⟨by decide, by decide⟩, by decide +kernel, by decide⟩
theorem ls_RX3_74 : nr_LS RX3 74 yX3_isRoomSign cX3_isRoomSign 1 (some .boolean) 1 := ⟨Or.inl wm_RX3_74, ws_yX3_isRoomSign, ml_yX3_isRoomSign⟩
theorem ml_yX5_put : nr_ML yX5_put cX5_put 3 none 3 := ⟨wc_yX5_put, wn_RX5, ⟨by decide, by decide⟩, by decide +kernel, by decide⟩
theorem ls_RX3_77 : nr_LS RX3 77 yX5_put cX5_put 3 none 3 := ⟨Or.inr ⟨_, wm_RX3_77⟩, ws_yX5_put, ml_yX5_put⟩
theorem ml_yX3_readRest : nr_ML yX3_readRest cX3_readRest 4 none 3 := ⟨wc_yX3_readRest, wn_RX3, ⟨by decide, by decide⟩, by decide +kernel, by decide⟩
theorem lv_RX3_81 : nr_LV RX3 81 3 yX3_readRest cX3_readRest 4 none 3 := ⟨wm_RX3_81, wi_yX3_readRest, we_yX3_readRest, ml_yX3_readRest, TX3, 11, rfl⟩
theorem ml_yX3_readFigure : nr_ML yX3_readFigure cX3_readFigure 2 (some .int) 0 := ⟨wc_yX3_readFigure, wn_RX3, ⟨by decide, by decide⟩, by decide +kernel, by decide⟩
theorem lv_RX3_85 : nr_LV RX3 85 3 yX3_readFigure cX3_readFigure 2 (some .int) 0 := ⟨wm_RX3_85, wi_yX3_readFigure, we_yX3_readFigure, ml_yX3_readFigure, TX3, 11, rfl⟩
theorem ml_yX3_readParts : nr_ML yX3_readParts cX3_readParts 5 none 4 := ⟨wc_yX3_readParts, wn_RX3, ⟨by decide, by decide⟩, by decide +kernel, by decide⟩
theorem lv_RX3_88 : nr_LV RX3 88 3 yX3_readParts cX3_readParts 5 none 4 := ⟨wm_RX3_88, wi_yX3_readParts, we_yX3_readParts, ml_yX3_readParts, TX3, 11, rfl⟩
theorem ml_yX3_expect : nr_ML yX3_expect cX3_expect 2 none 1 := ⟨wc_yX3_expect, wn_RX3, ⟨by decide, by decide⟩, by decide +kernel, by decide⟩
theorem lv_RX3_92 : nr_LV RX3 92 3 yX3_expect cX3_expect 2 none 1 := ⟨wm_RX3_92, wi_yX3_expect, we_yX3_expect, ml_yX3_expect, TX3, 11, rfl⟩
theorem ls_RX3_95 : nr_LS RX3 95 yX5_within cX5_within 3 (some .boolean) 3 := ⟨Or.inr ⟨_, wm_RX3_95⟩, ws_yX5_within, ml_yX5_within⟩
theorem lv_RX4_18 : nr_LV RX4 18 4 yX4_begin cX4_begin 1 none 0 := ⟨wm_RX4_18, wi_yX4_begin, we_yX4_begin, ml_yX4_begin, TX4, 5, rfl⟩
theorem ls_RX4_21 : nr_LS RX4 21 yJ7_fill_53178 cJ7_fill_53178 4 none 2 := ⟨Or.inl wm_RX4_21, ws_yJ7_fill_53178, ml_yJ7_fill_53178⟩
theorem lv_RX4_34 : nr_LV RX4 34 4 yX4_calm cX4_calm 1 none 0 := ⟨wm_RX4_34, wi_yX4_calm, we_yX4_calm, ml_yX4_calm, TX4, 5, rfl⟩
theorem lv_RX4_40 : nr_LV RX4 40 4 yX4_befall cX4_befall 4 none 3 := ⟨wm_RX4_40, wi_yX4_befall, we_yX4_befall, ml_yX4_befall, TX4, 5, rfl⟩
theorem ls_RX4_44 : nr_LS RX4 44 yX5_at cX5_at 2 (some .int) 2 := ⟨Or.inr ⟨_, wm_RX4_44⟩, ws_yX5_at, ml_yX5_at⟩
theorem ml_yX4_write : nr_ML yX4_write cX4_write 2 none 1 := ⟨wc_yX4_write, wn_RX4, ⟨by decide, by decide⟩, by decide +kernel, by decide⟩
theorem lv_RX4_54 : nr_LV RX4 54 4 yX4_write cX4_write 2 none 1 := ⟨wm_RX4_54, wi_yX4_write, we_yX4_write, ml_yX4_write, TX4, 5, rfl⟩
theorem ml_yX5_isRoom : nr_ML yX5_isRoom cX5_isRoom 1 (some .boolean) 1 := ⟨wc_yX5_isRoom, wn_RX5, ⟨by decide, by decide⟩, by decide +kernel, by decide⟩
theorem ls_RX5_52 : nr_LS RX5 52 yX5_isRoom cX5_isRoom 1 (some .boolean) 1 := ⟨Or.inl wm_RX5_52, ws_yX5_isRoom, ml_yX5_isRoom⟩
theorem ls_RX5_56 : nr_LS RX5 56 yX5_within cX5_within 3 (some .boolean) 3 := ⟨Or.inl wm_RX5_56, ws_yX5_within, ml_yX5_within⟩
theorem ls_RX5_64 : nr_LS RX5 64 yX5_at cX5_at 2 (some .int) 2 := ⟨Or.inl wm_RX5_64, ws_yX5_at, ml_yX5_at⟩
theorem ml_yX5_refuse : nr_ML yX5_refuse cX5_refuse 2 (some .int) 1 := ⟨wc_yX5_refuse, wn_RX5, ⟨by decide, by decide⟩, by decide +kernel, by decide⟩
theorem lv_RX5_68 : nr_LV RX5 68 5 yX5_refuse cX5_refuse 2 (some .int) 1 := ⟨wm_RX5_68, wi_yX5_refuse, we_yX5_refuse, ml_yX5_refuse, TX5, 10, rfl⟩
theorem lv_RX5_72 : nr_LV RX5 72 0 yX0_cell cX0_cell 4 (some .int) 2 := ⟨wm_RX5_72, wi_yX0_cell, we_yX0_cell, ml_yX0_cell, TX0, 1, rfl⟩
theorem ml_yX1_keep : nr_ML yX1_keep cX1_keep 2 none 1 := ⟨wc_yX1_keep, wn_RX1, ⟨by decide, by decide⟩, by decide +kernel, by decide⟩
theorem lv_RX5_76 : nr_LV RX5 76 1 yX1_keep cX1_keep 2 none 1 := ⟨wm_RX5_76, wi_yX1_keep, we_yX1_keep, ml_yX1_keep, TX1, 2, rfl⟩
theorem ml_yX0_change : nr_ML yX0_change cX0_change 4 none 3 := ⟨wc_yX0_change, wn_RX0, ⟨by decide, by decide⟩, by decide +kernel, by decide⟩
theorem lv_RX5_80 : nr_LV RX5 80 0 yX0_change cX0_change 4 none 3 := ⟨wm_RX5_80, wi_yX0_change, we_yX0_change, ml_yX0_change, TX0, 1, rfl⟩
theorem lv_RX5_84 : nr_LV RX5 84 0 yX0_loudness cX0_loudness 3 (some .int) 1 := ⟨wm_RX5_84, wi_yX0_loudness, we_yX0_loudness, ml_yX0_loudness, TX0, 1, rfl⟩
theorem lv_RX5_87 : nr_LV RX5 87 0 yX0_keyring cX0_keyring 1 (some .int) 0 := ⟨wm_RX5_87, wi_yX0_keyring, we_yX0_keyring, ml_yX0_keyring, TX0, 1, rfl⟩
theorem lv_RX5_91 : nr_LV RX5 91 0 yX0_giveKeys cX0_giveKeys 2 none 1 := ⟨wm_RX5_91, wi_yX0_giveKeys, we_yX0_giveKeys, ml_yX0_giveKeys, TX0, 1, rfl⟩
theorem ml_yX0_roomsWith : nr_ML yX0_roomsWith cX0_roomsWith 4 (some .int) 1 := ⟨wc_yX0_roomsWith, wn_RX0, ⟨by decide, by decide⟩, by decide +kernel, by decide⟩
theorem lv_RX5_95 : nr_LV RX5 95 0 yX0_roomsWith cX0_roomsWith 4 (some .int) 1 := ⟨wm_RX5_95, wi_yX0_roomsWith, we_yX0_roomsWith, ml_yX0_roomsWith, TX0, 1, rfl⟩
theorem ml_yX0_settle : nr_ML yX0_settle cX0_settle 2 none 0 := ⟨wc_yX0_settle, wn_RX0, ⟨by decide, by decide⟩, by decide +kernel, by decide⟩
theorem lv_RX5_98 : nr_LV RX5 98 0 yX0_settle cX0_settle 2 none 0 := ⟨wm_RX5_98, wi_yX0_settle, we_yX0_settle, ml_yX0_settle, TX0, 1, rfl⟩
theorem ml_yX3_length : nr_ML yX3_length cX3_length 1 (some .int) 0 := ⟨wc_yX3_length, wn_RX3, ⟨by decide, by decide⟩, by decide +kernel, by decide⟩
theorem lv_RX5_101 : nr_LV RX5 101 3 yX3_length cX3_length 1 (some .int) 0 := ⟨wm_RX5_101, wi_yX3_length, we_yX3_length, ml_yX3_length, TX3, 11, rfl⟩
theorem ml_yX3_append : nr_ML yX3_append cX3_append 2 none 1 := ⟨wc_yX3_append, wn_RX3, ⟨by decide, by decide⟩, by decide +kernel, by decide⟩
theorem lv_RX5_104 : nr_LV RX5 104 3 yX3_append cX3_append 2 none 1 := ⟨wm_RX5_104, wi_yX3_append, we_yX3_append, ml_yX3_append, TX3, 11, rfl⟩
theorem ml_yX3_empty : nr_ML yX3_empty cX3_empty 1 none 0 := ⟨wc_yX3_empty, wn_RX3, ⟨by decide, by decide⟩, by decide +kernel, by decide⟩
theorem lv_RX5_107 : nr_LV RX5 107 3 yX3_empty cX3_empty 1 none 0 := ⟨wm_RX5_107, wi_yX3_empty, we_yX3_empty, ml_yX3_empty, TX3, 11, rfl⟩
theorem ml_yX3_read : nr_ML yX3_read cX3_read 1 (some .int) 0 := ⟨wc_yX3_read, wn_RX3, ⟨by decide, by decide⟩, by decide +kernel, by decide⟩
theorem lv_RX5_110 : nr_LV RX5 110 3 yX3_read cX3_read 1 (some .int) 0 := ⟨wm_RX5_110, wi_yX3_read, we_yX3_read, ml_yX3_read, TX3, 11, rfl⟩
theorem ml_yX2_walk : nr_ML yX2_walk cX2_walk 3 (some .int) 2 := ⟨wc_yX2_walk, wn_RX2, ⟨by decide, by decide⟩, by decide +kernel, by decide⟩
theorem lv_RX5_113 : nr_LV RX5 113 2 yX2_walk cX2_walk 3 (some .int) 2 := ⟨wm_RX5_113, wi_yX2_walk, we_yX2_walk, ml_yX2_walk, TX2, 3, rfl⟩
theorem ml_yX0_become : nr_ML yX0_become cX0_become 2 none 1 := ⟨wc_yX0_become, wn_RX0, ⟨by decide, by decide⟩, by decide +kernel, by decide⟩
theorem lv_RX5_117 : nr_LV RX5 117 0 yX0_become cX0_become 2 none 1 := ⟨wm_RX5_117, wi_yX0_become, we_yX0_become, ml_yX0_become, TX0, 1, rfl⟩
theorem lv_RX5_120 : nr_LV RX5 120 4 yX4_fact cX4_fact 2 (some .int) 1 := ⟨wm_RX5_120, wi_yX4_fact, we_yX4_fact, ml_yX4_fact, TX4, 5, rfl⟩
theorem ml_yX4_innermost : nr_ML yX4_innermost cX4_innermost 1 (some .int) 0 := ⟨wc_yX4_innermost, wn_RX4, ⟨by decide, by decide⟩, by decide +kernel, by decide⟩
theorem lv_RX5_123 : nr_LV RX5 123 4 yX4_innermost cX4_innermost 1 (some .int) 0 := ⟨wm_RX5_123, wi_yX4_innermost, we_yX4_innermost, ml_yX4_innermost, TX4, 5, rfl⟩
theorem ml_yX4_written : nr_ML yX4_written cX4_written 1 (some .int) 0 := ⟨wc_yX4_written, wn_RX4, ⟨by decide, by decide⟩, by decide +kernel, by decide⟩
theorem lv_RX5_126 : nr_LV RX5 126 4 yX4_written cX4_written 1 (some .int) 0 := ⟨wm_RX5_126, wi_yX4_written, we_yX4_written, ml_yX4_written, TX4, 5, rfl⟩
theorem ml_yX4_entry : nr_ML yX4_entry cX4_entry 2 (some .int) 1 := ⟨wc_yX4_entry, wn_RX4, ⟨by decide, by decide⟩, by decide +kernel, by decide⟩
theorem lv_RX5_129 : nr_LV RX5 129 4 yX4_entry cX4_entry 2 (some .int) 1 := ⟨wm_RX5_129, wi_yX4_entry, we_yX4_entry, ml_yX4_entry, TX4, 5, rfl⟩
theorem lv_RX5_132 : nr_LV RX5 132 4 yX4_doorsOpen cX4_doorsOpen 1 (some .int) 0 := ⟨wm_RX5_132, wi_yX4_doorsOpen, we_yX4_doorsOpen, ml_yX4_doorsOpen, TX4, 5, rfl⟩
theorem ml_yX5_withKeys : nr_ML yX5_withKeys cX5_withKeys 2 (some (.object "NightRounds$House")) 1 := ⟨wc_yX5_withKeys, wn_RX5, ⟨by decide, by decide⟩, by decide +kernel, by decide⟩
theorem lv_RX5_138 : nr_LV RX5 138 5 yX5_withKeys cX5_withKeys 2 (some (.object "NightRounds$House")) 1 := ⟨wm_RX5_138, wi_yX5_withKeys, we_yX5_withKeys, ml_yX5_withKeys, TX5, 10, rfl⟩
theorem ml_yX5_withRoom : nr_ML yX5_withRoom cX5_withRoom 4 (some (.object "NightRounds$House")) 3 := ⟨wc_yX5_withRoom, wn_RX5, ⟨by decide, by decide⟩, by decide +kernel, by decide⟩
theorem lv_RX5_142 : nr_LV RX5 142 5 yX5_withRoom cX5_withRoom 4 (some (.object "NightRounds$House")) 3 := ⟨wm_RX5_142, wi_yX5_withRoom, we_yX5_withRoom, ml_yX5_withRoom, TX5, 10, rfl⟩
theorem lv_RX5_149 : nr_LV RX5 149 3 yX3_acts cX3_acts 1 (some .int) 0 := ⟨wm_RX5_149, wi_yX3_acts, we_yX3_acts, ml_yX3_acts, TX3, 11, rfl⟩
theorem ml_yX3_deepest : nr_ML yX3_deepest cX3_deepest 1 (some .int) 0 := ⟨wc_yX3_deepest, wn_RX3, ⟨by decide, by decide⟩, by decide +kernel, by decide⟩
theorem lv_RX5_152 : nr_LV RX5 152 3 yX3_deepest cX3_deepest 1 (some .int) 0 := ⟨wm_RX5_152, wi_yX3_deepest, we_yX3_deepest, ml_yX3_deepest, TX3, 11, rfl⟩
theorem ml_yX3_roomBits : nr_ML yX3_roomBits cX3_roomBits 1 (some .int) 0 := ⟨wc_yX3_roomBits, wn_RX3, ⟨by decide, by decide⟩, by decide +kernel, by decide⟩
theorem lv_RX5_155 : nr_LV RX5 155 3 yX3_roomBits cX3_roomBits 1 (some .int) 0 := ⟨wm_RX5_155, wi_yX3_roomBits, we_yX3_roomBits, ml_yX3_roomBits, TX3, 11, rfl⟩
theorem ml_yX0_drawFrom : nr_ML yX0_drawFrom cX0_drawFrom 5 none 1 := ⟨wc_yX0_drawFrom, wn_RX0, ⟨by decide, by decide⟩, by decide +kernel, by decide⟩
theorem lv_RX5_159 : nr_LV RX5 159 0 yX0_drawFrom cX0_drawFrom 5 none 1 := ⟨wm_RX5_159, wi_yX0_drawFrom, we_yX0_drawFrom, ml_yX0_drawFrom, TX0, 1, rfl⟩
theorem ml_yX1_held : nr_ML yX1_held cX1_held 1 (some .int) 0 := ⟨wc_yX1_held, wn_RX1, ⟨by decide, by decide⟩, by decide +kernel, by decide⟩
theorem lv_RX5_162 : nr_LV RX5 162 1 yX1_held cX1_held 1 (some .int) 0 := ⟨wm_RX5_162, wi_yX1_held, we_yX1_held, ml_yX1_held, TX1, 2, rfl⟩
theorem ml_yX1_giveBack : nr_ML yX1_giveBack cX1_giveBack 2 none 1 := ⟨wc_yX1_giveBack, wn_RX1, ⟨by decide, by decide⟩, by decide +kernel, by decide⟩
theorem lv_RX5_165 : nr_LV RX5 165 1 yX1_giveBack cX1_giveBack 2 none 1 := ⟨wm_RX5_165, wi_yX1_giveBack, we_yX1_giveBack, ml_yX1_giveBack, TX1, 2, rfl⟩
theorem lv_RX5_178 : nr_LV RX5 178 0 yX0_sum cX0_sum 1 (some .int) 0 := ⟨wm_RX5_178, wi_yX0_sum, we_yX0_sum, ml_yX0_sum, TX0, 1, rfl⟩
theorem lv_RX5_185 : nr_LV RX5 185 5 yX5_count cX5_count 2 (some .int) 1 := ⟨wm_RX5_185, wi_yX5_count, we_yX5_count, ml_yX5_count, TX5, 10, rfl⟩
theorem ml_yX6_in : nr_ML yX6_in cX6_in 6 (some .boolean) 3 := ⟨wc_yX6_in, wn_RX6, ⟨by decide, by decide⟩, by decide +kernel, by decide⟩
theorem ls_RX6_62 : nr_LS RX6 62 yX6_in cX6_in 6 (some .boolean) 3 := ⟨Or.inl wm_RX6_62, ws_yX6_in, ml_yX6_in⟩
theorem ml_yX6_at : nr_ML yX6_at cX6_at 3 (some .int) 2 := ⟨wc_yX6_at, wn_RX6, ⟨by decide, by decide⟩, by decide +kernel, by decide⟩
theorem lv_RX6_69 : nr_LV RX6 69 6 yX6_at cX6_at 3 (some .int) 2 := ⟨wm_RX6_69, wi_yX6_at, we_yX6_at, ml_yX6_at, TX6, 36, rfl⟩
theorem ml_yX6_loudAs : nr_ML yX6_loudAs cX6_loudAs 4 (some .int) 2 := ⟨wc_yX6_loudAs, wn_RX6, ⟨by decide, by decide⟩, by decide +kernel, by decide⟩
theorem ls_RX6_73 : nr_LS RX6 73 yX6_loudAs cX6_loudAs 4 (some .int) 2 := ⟨Or.inl wm_RX6_73, ws_yX6_loudAs, ml_yX6_loudAs⟩
theorem ml_yX6_isRoom : nr_ML yX6_isRoom cX6_isRoom 1 (some .boolean) 1 := ⟨wc_yX6_isRoom, wn_RX6, ⟨by decide, by decide⟩, by decide +kernel, by decide⟩
theorem ls_RX6_76 : nr_LS RX6 76 yX6_isRoom cX6_isRoom 1 (some .boolean) 1 := ⟨Or.inl wm_RX6_76, ws_yX6_isRoom, ml_yX6_isRoom⟩
theorem ml_yX6_bad : nr_ML yX6_bad cX6_bad 2 (some .int) 1 := ⟨wc_yX6_bad, wn_RX6, ⟨by decide, by decide⟩, by decide +kernel, by decide⟩
theorem lv_RX6_82 : nr_LV RX6 82 6 yX6_bad cX6_bad 2 (some .int) 1 := ⟨wm_RX6_82, wi_yX6_bad, we_yX6_bad, ml_yX6_bad, TX6, 36, rfl⟩
theorem ml_yX6_night : nr_ML yX6_night cX6_night 2 none 0 := ⟨wc_yX6_night, wn_RX6, ⟨by decide, by decide⟩, by decide +kernel, by decide⟩
theorem lv_RX6_86 : nr_LV RX6 86 6 yX6_night cX6_night 2 none 0 := ⟨wm_RX6_86, wi_yX6_night, we_yX6_night, ml_yX6_night, TX6, 36, rfl⟩
theorem ml_yX6_put : nr_ML yX6_put cX6_put 4 none 3 := ⟨wc_yX6_put, wn_RX6, ⟨by decide, by decide⟩, by decide +kernel, by decide⟩
theorem lv_RX6_89 : nr_LV RX6 89 6 yX6_put cX6_put 4 none 3 := ⟨wm_RX6_89, wi_yX6_put, we_yX6_put, ml_yX6_put, TX6, 36, rfl⟩
theorem ml_yX6_loud : nr_ML yX6_loud cX6_loud 2 (some .int) 1 := ⟨wc_yX6_loud, wn_RX6, ⟨by decide, by decide⟩, by decide +kernel, by decide⟩
theorem lv_RX6_93 : nr_LV RX6 93 6 yX6_loud cX6_loud 2 (some .int) 1 := ⟨wm_RX6_93, wi_yX6_loud, we_yX6_loud, ml_yX6_loud, TX6, 36, rfl⟩
theorem ml_yX6_toldOf : nr_ML yX6_toldOf cX6_toldOf 3 (some .int) 2 := ⟨wc_yX6_toldOf, wn_RX6, ⟨by decide, by decide⟩, by decide +kernel, by decide⟩
theorem lv_RX6_96 : nr_LV RX6 96 6 yX6_toldOf cX6_toldOf 3 (some .int) 2 := ⟨wm_RX6_96, wi_yX6_toldOf, we_yX6_toldOf, ml_yX6_toldOf, TX6, 36, rfl⟩
theorem ml_yX6_awake : nr_ML yX6_awake cX6_awake 3 (some .int) 0 := ⟨wc_yX6_awake, wn_RX6, ⟨by decide, by decide⟩, by decide +kernel, by decide⟩
theorem lv_RX6_101 : nr_LV RX6 101 6 yX6_awake cX6_awake 3 (some .int) 0 := ⟨wm_RX6_101, wi_yX6_awake, we_yX6_awake, ml_yX6_awake, TX6, 36, rfl⟩
theorem ml_yX6_full : nr_ML yX6_full cX6_full 1 (some .int) 0 := ⟨wc_yX6_full, wn_RX6, ⟨by decide, by decide⟩, by decide +kernel, by decide⟩
theorem lv_RX6_110 : nr_LV RX6 110 6 yX6_full cX6_full 1 (some .int) 0 := ⟨wm_RX6_110, wi_yX6_full, we_yX6_full, ml_yX6_full, TX6, 36, rfl⟩
theorem ml_yX6_skip : nr_ML yX6_skip cX6_skip 1 none 0 := ⟨wc_yX6_skip, wn_RX6, ⟨by decide, by decide⟩, by decide +kernel, by decide⟩
theorem lv_RX6_116 : nr_LV RX6 116 6 yX6_skip cX6_skip 1 none 0 := ⟨wm_RX6_116, wi_yX6_skip, we_yX6_skip, ml_yX6_skip, TX6, 36, rfl⟩
theorem ml_yX6_opens : nr_ML yX6_opens cX6_opens 1 (some .boolean) 1 := ⟨wc_yX6_opens, wn_RX6, ⟨by decide, by decide⟩, by decide +kernel, by decide⟩
theorem ls_RX6_132 : nr_LS RX6 132 yX6_opens cX6_opens 1 (some .boolean) 1 := ⟨Or.inl wm_RX6_132, ws_yX6_opens, ml_yX6_opens⟩
theorem ml_yX6_meets : nr_ML yX6_meets cX6_meets 4 (some .boolean) 2 := ⟨wc_yX6_meets, wn_RX6, ⟨by decide, by decide⟩, by decide +kernel, by decide⟩
theorem lv_RX6_135 : nr_LV RX6 135 6 yX6_meets cX6_meets 4 (some .boolean) 2 := ⟨wm_RX6_135, wi_yX6_meets, we_yX6_meets, ml_yX6_meets, TX6, 36, rfl⟩
theorem ml_yX6_endsBy : nr_ML yX6_endsBy cX6_endsBy 1 (some .int) 1 := ⟨wc_yX6_endsBy, wn_RX6, ⟨by decide, by decide⟩, by decide +kernel, by decide⟩
theorem ls_RX6_139 : nr_LS RX6 139 yX6_endsBy cX6_endsBy 1 (some .int) 1 := ⟨Or.inl wm_RX6_139, ws_yX6_endsBy, ml_yX6_endsBy⟩
theorem ml_yX6_notes : nr_ML yX6_notes cX6_notes 2 none 1 := ⟨wc_yX6_notes, wn_RX6, ⟨by decide, by decide⟩, by decide +kernel, by decide⟩
theorem lv_RX6_172 : nr_LV RX6 172 6 yX6_notes cX6_notes 2 none 1 := ⟨wm_RX6_172, wi_yX6_notes, we_yX6_notes, ml_yX6_notes, TX6, 36, rfl⟩
theorem ml_yX6_isAsleep : nr_ML yX6_isAsleep cX6_isAsleep 2 (some .boolean) 1 := ⟨wc_yX6_isAsleep, wn_RX6, ⟨by decide, by decide⟩, by decide +kernel, by decide⟩
theorem lv_RX6_176 : nr_LV RX6 176 6 yX6_isAsleep cX6_isAsleep 2 (some .boolean) 1 := ⟨wm_RX6_176, wi_yX6_isAsleep, we_yX6_isAsleep, ml_yX6_isAsleep, TX6, 36, rfl⟩
theorem ml_yX6_shuts : nr_ML yX6_shuts cX6_shuts 2 none 1 := ⟨wc_yX6_shuts, wn_RX6, ⟨by decide, by decide⟩, by decide +kernel, by decide⟩
theorem lv_RX6_179 : nr_LV RX6 179 6 yX6_shuts cX6_shuts 2 none 1 := ⟨wm_RX6_179, wi_yX6_shuts, we_yX6_shuts, ml_yX6_shuts, TX6, 36, rfl⟩
theorem ml_yX6_befalls : nr_ML yX6_befalls cX6_befalls 3 none 2 := ⟨wc_yX6_befalls, wn_RX6, ⟨by decide, by decide⟩, by decide +kernel, by decide⟩
theorem lv_RX6_182 : nr_LV RX6 182 6 yX6_befalls cX6_befalls 3 none 2 := ⟨wm_RX6_182, wi_yX6_befalls, we_yX6_befalls, ml_yX6_befalls, TX6, 36, rfl⟩
theorem ml_yX6_pushes : nr_ML yX6_pushes cX6_pushes 4 none 3 := ⟨wc_yX6_pushes, wn_RX6, ⟨by decide, by decide⟩, by decide +kernel, by decide⟩
theorem lv_RX6_189 : nr_LV RX6 189 6 yX6_pushes cX6_pushes 4 none 3 := ⟨wm_RX6_189, wi_yX6_pushes, we_yX6_pushes, ml_yX6_pushes, TX6, 36, rfl⟩
theorem ml_yX6_behindByte : nr_ML yX6_behindByte cX6_behindByte 2 none 1 := ⟨wc_yX6_behindByte, wn_RX6, ⟨by decide, by decide⟩, by decide +kernel, by decide⟩
theorem lv_RX6_195 : nr_LV RX6 195 6 yX6_behindByte cX6_behindByte 2 none 1 := ⟨wm_RX6_195, wi_yX6_behindByte, we_yX6_behindByte, ml_yX6_behindByte, TX6, 36, rfl⟩
theorem ml_yX6_goesIn : nr_ML yX6_goesIn cX6_goesIn 4 none 1 := ⟨wc_yX6_goesIn, wn_RX6, ⟨by decide, by decide⟩, by decide +kernel, by decide⟩
theorem lv_RX6_198 : nr_LV RX6 198 6 yX6_goesIn cX6_goesIn 4 none 1 := ⟨wm_RX6_198, wi_yX6_goesIn, we_yX6_goesIn, ml_yX6_goesIn, TX6, 36, rfl⟩
theorem ml_yX6_figureFrom : nr_ML yX6_figureFrom cX6_figureFrom 3 (some .int) 1 := ⟨wc_yX6_figureFrom, wn_RX6, ⟨by decide, by decide⟩, by decide +kernel, by decide⟩
theorem lv_RX6_201 : nr_LV RX6 201 6 yX6_figureFrom cX6_figureFrom 3 (some .int) 1 := ⟨wm_RX6_201, wi_yX6_figureFrom, we_yX6_figureFrom, ml_yX6_figureFrom, TX6, 36, rfl⟩
theorem ml_yX6_takesKey : nr_ML yX6_takesKey cX6_takesKey 2 none 0 := ⟨wc_yX6_takesKey, wn_RX6, ⟨by decide, by decide⟩, by decide +kernel, by decide⟩
theorem lv_RX6_204 : nr_LV RX6 204 6 yX6_takesKey cX6_takesKey 2 none 0 := ⟨wm_RX6_204, wi_yX6_takesKey, we_yX6_takesKey, ml_yX6_takesKey, TX6, 36, rfl⟩
theorem ml_yX6_wakes : nr_ML yX6_wakes cX6_wakes 1 none 0 := ⟨wc_yX6_wakes, wn_RX6, ⟨by decide, by decide⟩, by decide +kernel, by decide⟩
theorem lv_RX6_207 : nr_LV RX6 207 6 yX6_wakes cX6_wakes 1 none 0 := ⟨wm_RX6_207, wi_yX6_wakes, we_yX6_wakes, ml_yX6_wakes, TX6, 36, rfl⟩
theorem ml_yX6_looksIn : nr_ML yX6_looksIn cX6_looksIn 1 none 0 := ⟨wc_yX6_looksIn, wn_RX6, ⟨by decide, by decide⟩, by decide +kernel, by decide⟩
theorem lv_RX6_210 : nr_LV RX6 210 6 yX6_looksIn cX6_looksIn 1 none 0 := ⟨wm_RX6_210, wi_yX6_looksIn, we_yX6_looksIn, ml_yX6_looksIn, TX6, 36, rfl⟩
theorem ml_yX6_pops : nr_ML yX6_pops cX6_pops 2 none 0 := ⟨wc_yX6_pops, wn_RX6, ⟨by decide, by decide⟩, by decide +kernel, by decide⟩
theorem lv_RX6_213 : nr_LV RX6 213 6 yX6_pops cX6_pops 2 none 0 := ⟨wm_RX6_213, wi_yX6_pops, we_yX6_pops, ml_yX6_pops, TX6, 36, rfl⟩
theorem ml_yX6_goesDown : nr_ML yX6_goesDown cX6_goesDown 5 none 0 := ⟨wc_yX6_goesDown, wn_RX6, ⟨by decide, by decide⟩, by decide +kernel, by decide⟩
theorem lv_RX6_216 : nr_LV RX6 216 6 yX6_goesDown cX6_goesDown 5 none 0 := ⟨wm_RX6_216, wi_yX6_goesDown, we_yX6_goesDown, ml_yX6_goesDown, TX6, 36, rfl⟩
theorem ml_yX6_endsAt : nr_ML yX6_endsAt cX6_endsAt 3 none 1 := ⟨wc_yX6_endsAt, wn_RX6, ⟨by decide, by decide⟩, by decide +kernel, by decide⟩
theorem lv_RX6_219 : nr_LV RX6 219 6 yX6_endsAt cX6_endsAt 3 none 1 := ⟨wm_RX6_219, wi_yX6_endsAt, we_yX6_endsAt, ml_yX6_endsAt, TX6, 36, rfl⟩
theorem ml_yX6_begins : nr_ML yX6_begins cX6_begins 4 none 1 := ⟨wc_yX6_begins, wn_RX6, ⟨by decide, by decide⟩, by decide +kernel, by decide⟩
theorem lv_RX6_222 : nr_LV RX6 222 6 yX6_begins cX6_begins 4 none 1 := ⟨wm_RX6_222, wi_yX6_begins, we_yX6_begins, ml_yX6_begins, TX6, 36, rfl⟩
theorem ml_yX6_reads : nr_ML yX6_reads cX6_reads 6 (some .int) 0 := ⟨wc_yX6_reads, wn_RX6, ⟨by decide, by decide⟩, by decide +kernel, by decide⟩
theorem lv_RX6_232 : nr_LV RX6 232 6 yX6_reads cX6_reads 6 (some .int) 0 := ⟨wm_RX6_232, wi_yX6_reads, we_yX6_reads, ml_yX6_reads, TX6, 36, rfl⟩
theorem ml_yX6_round : nr_ML yX6_round cX6_round 2 (some .int) 0 := ⟨wc_yX6_round, wn_RX6, ⟨by decide, by decide⟩, by decide +kernel, by decide⟩
theorem lv_RX6_235 : nr_LV RX6 235 6 yX6_round cX6_round 2 (some .int) 0 := ⟨wm_RX6_235, wi_yX6_round, we_yX6_round, ml_yX6_round, TX6, 36, rfl⟩
theorem ml_yX6_keepsWas : nr_ML yX6_keepsWas cX6_keepsWas 3 none 1 := ⟨wc_yX6_keepsWas, wn_RX6, ⟨by decide, by decide⟩, by decide +kernel, by decide⟩
theorem lv_RX6_238 : nr_LV RX6 238 6 yX6_keepsWas cX6_keepsWas 3 none 1 := ⟨wm_RX6_238, wi_yX6_keepsWas, we_yX6_keepsWas, ml_yX6_keepsWas, TX6, 36, rfl⟩
theorem ml_yX6_keep : nr_ML yX6_keep cX6_keep 2 none 0 := ⟨wc_yX6_keep, wn_RX6, ⟨by decide, by decide⟩, by decide +kernel, by decide⟩
theorem lv_RX6_241 : nr_LV RX6 241 6 yX6_keep cX6_keep 2 none 0 := ⟨wm_RX6_241, wi_yX6_keep, we_yX6_keep, ml_yX6_keep, TX6, 36, rfl⟩
theorem ml_yX6_bring : nr_ML yX6_bring cX6_bring 2 none 0 := ⟨wc_yX6_bring, wn_RX6, ⟨by decide, by decide⟩, by decide +kernel, by decide⟩
theorem lv_RX6_244 : nr_LV RX6 244 6 yX6_bring cX6_bring 2 none 0 := ⟨wm_RX6_244, wi_yX6_bring, we_yX6_bring, ml_yX6_bring, TX6, 36, rfl⟩
theorem ml_yX6_toldWas : nr_ML yX6_toldWas cX6_toldWas 2 (some .int) 1 := ⟨wc_yX6_toldWas, wn_RX6, ⟨by decide, by decide⟩, by decide +kernel, by decide⟩
theorem lv_RX6_247 : nr_LV RX6 247 6 yX6_toldWas cX6_toldWas 2 (some .int) 1 := ⟨wm_RX6_247, wi_yX6_toldWas, we_yX6_toldWas, ml_yX6_toldWas, TX6, 36, rfl⟩
theorem ml_yX6_bits : nr_ML yX6_bits cX6_bits 3 (some .int) 1 := ⟨wc_yX6_bits, wn_RX6, ⟨by decide, by decide⟩, by decide +kernel, by decide⟩
theorem ls_RX6_250 : nr_LS RX6 250 yX6_bits cX6_bits 3 (some .int) 1 := ⟨Or.inl wm_RX6_250, ws_yX6_bits, ml_yX6_bits⟩
theorem ml_yX6_endBy : nr_ML yX6_endBy cX6_endBy 3 (some .int) 1 := ⟨wc_yX6_endBy, wn_RX6, ⟨by decide, by decide⟩, by decide +kernel, by decide⟩
theorem lv_RX6_253 : nr_LV RX6 253 6 yX6_endBy cX6_endBy 3 (some .int) 1 := ⟨wm_RX6_253, wi_yX6_endBy, we_yX6_endBy, ml_yX6_endBy, TX6, 36, rfl⟩
theorem ml_yX6_atMost3 : nr_ML yX6_atMost3 cX6_atMost3 2 (some .int) 1 := ⟨wc_yX6_atMost3, wn_RX6, ⟨by decide, by decide⟩, by decide +kernel, by decide⟩
theorem ls_RX6_278 : nr_LS RX6 278 yX6_atMost3 cX6_atMost3 2 (some .int) 1 := ⟨Or.inl wm_RX6_278, ws_yX6_atMost3, ml_yX6_atMost3⟩
theorem ml_yX6_no : nr_ML yX6_no cX6_no 1 (some .int) 0 := ⟨wc_yX6_no, wn_RX6, ⟨by decide, by decide⟩, by decide +kernel, by decide⟩
theorem lv_RX6_288 : nr_LV RX6 288 6 yX6_no cX6_no 1 (some .int) 0 := ⟨wm_RX6_288, wi_yX6_no, we_yX6_no, ml_yX6_no, TX6, 36, rfl⟩
theorem ml_yX6_lamps : nr_ML yX6_lamps cX6_lamps 3 (some .int) 0 := ⟨wc_yX6_lamps, wn_RX6, ⟨by decide, by decide⟩, by decide +kernel, by decide⟩
theorem lv_RX6_291 : nr_LV RX6 291 6 yX6_lamps cX6_lamps 3 (some .int) 0 := ⟨wm_RX6_291, wi_yX6_lamps, we_yX6_lamps, ml_yX6_lamps, TX6, 36, rfl⟩
theorem ml_yX6_counted : nr_ML yX6_counted cX6_counted 2 (some .int) 1 := ⟨wc_yX6_counted, wn_RX6, ⟨by decide, by decide⟩, by decide +kernel, by decide⟩
theorem lv_RX6_294 : nr_LV RX6 294 6 yX6_counted cX6_counted 2 (some .int) 1 := ⟨wm_RX6_294, wi_yX6_counted, we_yX6_counted, ml_yX6_counted, TX6, 36, rfl⟩
