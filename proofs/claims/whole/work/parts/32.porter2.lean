/-! what the house and the tale do, told of the porter's cells -/
/-- the loudness of a door of kind k with o openings -/
def pl_loud (k o : Int32) : Int32 := if k = 1 then 2 else if k = 2 then 2 + nr_rem o 3 else if k = 3 then (if o ≤ 2 then 2 else 0) else if k = 4 then 2 * (2 + nr_rem o 3) else 0
/-- the sleep of a guest who is asleep -/
def pl_slp (f : Nat → Int32) (r : Nat) : Int32 := if f (7 * r + 4) = 0 then f (7 * r + 3) else 0
section
variable {z : Nat → Int32} {g : Nat → Nat → Int32} {h t : Nat} {f fa en : Nat → Int32} {wr inn dr : Int32} {r : Nat}
theorem cp_c (hh : nr_ho h) (ht : nr_ta t) (hr : r < 8) {w : Nat} (hw : w < 7) : R_X0_cell h (nI r) (nI w) (PZ z t wr inn dr) (PG g h t f fa en) = f (7 * r + w) ∧ O_X0_cell h (nI r) (nI w) (PZ z t wr inn dr) (PG g h t f fa en) := by
  obtain ⟨a, b⟩ := cp_cell h hr hw (PZ z t wr inn dr) (PG g h t f fa en)
  rw [a, PG_h hh ht]
  exact ⟨rfl, b⟩
theorem cp_s (hh : nr_ho h) (ht : nr_ta t) (hr : r < 8) {w : Nat} (hw : w < 7) (v : Int32) : nr_V (O_X0_setCell h (nI r) (nI w) v (PZ z t wr inn dr) (PG g h t f fa en)) (T_X0_setCell h (nI r) (nI w) v (PZ z t wr inn dr) (PG g h t f fa en)) (0, PZ z t wr inn dr, PG g h t (upd f (7 * r + w) v) fa en) := by
  have e := cp_set h hr hw v (PZ z t wr inn dr) (PG g h t f fa en)
  rw [PG_h hh ht, PG_sh hh ht] at e
  exact e
theorem cp_loud (hh : nr_ho h) (ht : nr_ta t) (hr : r < 8) : R_X0_loudness h (nI r) (PZ z t wr inn dr) (PG g h t f fa en) = pl_loud (f (7 * r)) (f (7 * r + 6)) ∧ O_X0_loudness h (nI r) (PZ z t wr inn dr) (PG g h t f fa en) := by
  obtain ⟨a0, b0⟩ := cp_c (z := z) (g := g) (f := f) (fa := fa) (en := en) (wr := wr) (inn := inn) (dr := dr) hh ht hr (w := 0) (by decide)
  obtain ⟨a6, b6⟩ := cp_c (z := z) (g := g) (f := f) (fa := fa) (en := en) (wr := wr) (inn := inn) (dr := dr) hh ht hr (w := 6) (by decide)
  have a0' : R_X0_cell h (nI r) 0 (PZ z t wr inn dr) (PG g h t f fa en) = f (7 * r) := a0
  have a6' : R_X0_cell h (nI r) 6 (PZ z t wr inn dr) (PG g h t f fa en) = f (7 * r + 6) := a6
  have b0' : O_X0_cell h (nI r) 0 (PZ z t wr inn dr) (PG g h t f fa en) := b0
  have b6' : O_X0_cell h (nI r) 6 (PZ z t wr inn dr) (PG g h t f fa en) := b6
  unfold R_X0_loudness O_X0_loudness R_X0_swollen pl_loud
  rw [a0', a6']
  exact ⟨rfl, by simp [b0', b6']⟩
theorem cp_slp (hh : nr_ho h) (ht : nr_ta t) (hr : r < 8) : R_X0_sleepNow h (nI r) (PZ z t wr inn dr) (PG g h t f fa en) = pl_slp f r ∧ O_X0_sleepNow h (nI r) (PZ z t wr inn dr) (PG g h t f fa en) := by
  obtain ⟨a3, b3⟩ := cp_c (z := z) (g := g) (f := f) (fa := fa) (en := en) (wr := wr) (inn := inn) (dr := dr) hh ht hr (w := 3) (by decide)
  obtain ⟨a4, b4⟩ := cp_c (z := z) (g := g) (f := f) (fa := fa) (en := en) (wr := wr) (inn := inn) (dr := dr) hh ht hr (w := 4) (by decide)
  have a3' : R_X0_cell h (nI r) 3 (PZ z t wr inn dr) (PG g h t f fa en) = f (7 * r + 3) := a3
  have a4' : R_X0_cell h (nI r) 4 (PZ z t wr inn dr) (PG g h t f fa en) = f (7 * r + 4) := a4
  have b3' : O_X0_cell h (nI r) 3 (PZ z t wr inn dr) (PG g h t f fa en) := b3
  have b4' : O_X0_cell h (nI r) 4 (PZ z t wr inn dr) (PG g h t f fa en) := b4
  unfold R_X0_sleepNow O_X0_sleepNow pl_slp
  rw [a3', a4']
  exact ⟨rfl, by simp [b3', b4']⟩
/-- whether the guest is woken by a noise -/
def pl_wk (f : Nat → Int32) (r : Nat) (n : Int32) : Prop := ¬ pl_slp f r = 0 ∧ pl_slp f r ≤ n
theorem cp_wk_y (hh : nr_ho h) (ht : nr_ta t) (hr : r < 8) {n : Int32} (hw : pl_wk f r n) : nr_V (O_X0_wakes h (nI r) n (PZ z t wr inn dr) (PG g h t f fa en)) (T_X0_wakes h (nI r) n (PZ z t wr inn dr) (PG g h t f fa en)) (1, PZ z t wr inn dr, PG g h t (upd f (7 * r + 4) 1) fa en) := by
  obtain ⟨a, b⟩ := cp_slp (z := z) (g := g) (f := f) (fa := fa) (en := en) (wr := wr) (inn := inn) (dr := dr) hh ht hr
  unfold O_X0_wakes T_X0_wakes
  rw [a]
  exact V_and b (V_neg hw.1 (V_pos hw.2 (V_K1 (cp_s hh ht hr (w := 4) (by decide) 1) (V_T rfl))))
theorem cp_wk_n (hh : nr_ho h) (ht : nr_ta t) (hr : r < 8) {n : Int32} (hw : ¬ pl_wk f r n) : nr_V (O_X0_wakes h (nI r) n (PZ z t wr inn dr) (PG g h t f fa en)) (T_X0_wakes h (nI r) n (PZ z t wr inn dr) (PG g h t f fa en)) (0, PZ z t wr inn dr, PG g h t f fa en) := by
  obtain ⟨a, b⟩ := cp_slp (z := z) (g := g) (f := f) (fa := fa) (en := en) (wr := wr) (inn := inn) (dr := dr) hh ht hr
  unfold O_X0_wakes T_X0_wakes
  rw [a]
  refine V_and b ?_
  by_cases h1 : pl_slp f r = 0
  · exact V_pos h1 (V_T rfl)
  · exact V_neg h1 (V_neg (fun q => hw ⟨h1, q⟩) (V_T rfl))
theorem cp_key (hh : nr_ho h) (ht : nr_ta t) : R_X0_keyring h (PZ z t wr inn dr) (PG g h t f fa en) = f 56 := by
  unfold R_X0_keyring
  rw [PG_h hh ht]
  rfl
def pl_adm (f : Nat → Int32) (r : Nat) : Prop := f (7 * r + 1) = 0 ∨ ¬ (f 56 &&& ((1 : Int32) <<< (f (7 * r + 1) &&& 31))) = 0
theorem cp_adm (hh : nr_ho h) (ht : nr_ta t) (hr : r < 8) : (R_X0_admits h (nI r) (PZ z t wr inn dr) (PG g h t f fa en) = 0 ↔ ¬ pl_adm f r) ∧ O_X0_admits h (nI r) (PZ z t wr inn dr) (PG g h t f fa en) := by
  obtain ⟨a1, b1⟩ := cp_c (z := z) (g := g) (f := f) (fa := fa) (en := en) (wr := wr) (inn := inn) (dr := dr) hh ht hr (w := 1) (by decide)
  have a1' : R_X0_cell h (nI r) 1 (PZ z t wr inn dr) (PG g h t f fa en) = f (7 * r + 1) := a1
  have b1' : O_X0_cell h (nI r) 1 (PZ z t wr inn dr) (PG g h t f fa en) := b1
  unfold R_X0_admits O_X0_admits pl_adm
  rw [a1', cp_key hh ht]
  refine ⟨?_, by simp [b1']⟩
  by_cases h1 : f (7 * r + 1) = 0
  · rw [if_pos h1]
    exact ⟨fun q => absurd q (by decide), fun q => absurd (Or.inl h1) q⟩
  · rw [if_neg h1]
    by_cases h2 : (f 56 &&& ((1 : Int32) <<< (f (7 * r + 1) &&& 31))) = 0
    · rw [if_pos h2]
      exact ⟨fun _ q => q.elim h1 (fun n => n h2), fun _ => rfl⟩
    · rw [if_neg h2]
      exact ⟨fun q => absurd q (by decide), fun q => absurd (Or.inr h2) q⟩
def pl_op (o : Int32) : Int32 := if (9999 : Int32) < o + 1 then 9999 else o + 1
theorem cp_open (hh : nr_ho h) (ht : nr_ta t) (hr : r < 8) : nr_V (O_X0_openDoor h (nI r) (PZ z t wr inn dr) (PG g h t f fa en)) (T_X0_openDoor h (nI r) (PZ z t wr inn dr) (PG g h t f fa en)) (0, PZ z t wr inn dr, PG g h t (upd f (7 * r + 6) (pl_op (f (7 * r + 6)))) fa en) := by
  obtain ⟨a6, b6⟩ := cp_c (z := z) (g := g) (f := f) (fa := fa) (en := en) (wr := wr) (inn := inn) (dr := dr) hh ht hr (w := 6) (by decide)
  have a6' : R_X0_cell h (nI r) 6 (PZ z t wr inn dr) (PG g h t f fa en) = f (7 * r + 6) := a6
  have b6' : O_X0_cell h (nI r) 6 (PZ z t wr inn dr) (PG g h t f fa en) := b6
  unfold O_X0_openDoor T_X0_openDoor
  rw [a6']
  exact V_and b6' (V_K1 (cp_s hh ht hr (w := 6) (by decide) _) (V_T rfl))
theorem cp_lamp (hh : nr_ho h) (ht : nr_ta t) (hr : r < 8) : nr_V (O_X0_turnLamp h (nI r) (PZ z t wr inn dr) (PG g h t f fa en)) (T_X0_turnLamp h (nI r) (PZ z t wr inn dr) (PG g h t f fa en)) (0, PZ z t wr inn dr, PG g h t (upd f (7 * r + 5) (1 - f (7 * r + 5))) fa en) := by
  obtain ⟨a5, b5⟩ := cp_c (z := z) (g := g) (f := f) (fa := fa) (en := en) (wr := wr) (inn := inn) (dr := dr) hh ht hr (w := 5) (by decide)
  have a5' : R_X0_cell h (nI r) 5 (PZ z t wr inn dr) (PG g h t f fa en) = f (7 * r + 5) := a5
  have b5' : O_X0_cell h (nI r) 5 (PZ z t wr inn dr) (PG g h t f fa en) := b5
  unfold O_X0_turnLamp T_X0_turnLamp
  rw [a5']
  exact V_and b5' (V_K1 (cp_s hh ht hr (w := 5) (by decide) _) (V_T rfl))
theorem cp_give (hh : nr_ho h) (ht : nr_ta t) (v : Int32) : T_X0_giveKeys h v (PZ z t wr inn dr) (PG g h t f fa en) = (0, PZ z t wr inn dr, PG g h t (upd f 56 v) fa en) := by
  unfold T_X0_giveKeys
  rw [show (56 : Int32) = nI 56 from rfl, pp_st_lit (by decide), PG_h hh ht, PG_sh hh ht]
theorem cp_take (hh : nr_ho h) (ht : nr_ta t) (hr : r < 8) : nr_V (O_X0_takeKey h (nI r) (PZ z t wr inn dr) (PG g h t f fa en)) (T_X0_takeKey h (nI r) (PZ z t wr inn dr) (PG g h t f fa en)) (0, PZ z t wr inn dr, PG g h t (if f (7 * r + 2) = 0 then f else upd (upd f 56 (f 56 ||| ((1 : Int32) <<< (f (7 * r + 2) &&& 31)))) (7 * r + 2) 0) fa en) := by
  obtain ⟨a2, b2⟩ := cp_c (z := z) (g := g) (f := f) (fa := fa) (en := en) (wr := wr) (inn := inn) (dr := dr) hh ht hr (w := 2) (by decide)
  have a2' : R_X0_cell h (nI r) 2 (PZ z t wr inn dr) (PG g h t f fa en) = f (7 * r + 2) := a2
  have b2' : O_X0_cell h (nI r) 2 (PZ z t wr inn dr) (PG g h t f fa en) := b2
  unfold O_X0_takeKey T_X0_takeKey
  rw [a2', cp_key hh ht]
  refine V_and b2' ?_
  by_cases h2 : f (7 * r + 2) = 0
  · rw [if_pos h2, if_pos h2]
    exact ⟨⟨fun _ => trivial, fun q => absurd h2 q⟩, rfl⟩
  · rw [if_neg h2, if_neg h2]
    have k := V_K0 (cp_give (z := z) (g := g) (f := f) (fa := fa) (en := en) (wr := wr) (inn := inn) (dr := dr) hh ht (f 56 ||| ((1 : Int32) <<< (f (7 * r + 2) &&& 31)))) (k := fun r_20 z_20 g_20 => (nr_K (T_X0_setCell h (nI r) (2 : Int32) (0 : Int32) z_20 g_20) (fun r_27 z_27 g_27 => ((0 : Int32), z_27, g_27)))) (w := (0, PZ z t wr inn dr, PG g h t (upd (upd f 56 (f 56 ||| ((1 : Int32) <<< (f (7 * r + 2) &&& 31)))) (7 * r + 2) 0) fa en)) (V_K0 (cp_s hh ht hr (w := 2) (by decide) 0).2 (V_T rfl))
    refine ⟨⟨fun q => absurd q h2, fun _ => ?_⟩, k.2⟩
    unfold nr_KP
    rw [cp_give hh ht]
    exact ⟨(cp_s hh ht hr (w := 2) (by decide) 0).1, trivial⟩
theorem cp_sum (hh : nr_ho h) (ht : nr_ta t) (v : Int32) : T_X0_addToSum h v (PZ z t wr inn dr) (PG g h t f fa en) = (0, PZ z t wr inn dr, PG g h t (upd f 57 (f 57 + v)) fa en) := by
  unfold T_X0_addToSum
  rw [show (57 : Int32) = nI 57 from rfl, pp_st_lit (by decide), PG_h hh ht, PG_sh hh ht, nI_clamp (by decide)]
/-! the tale -/
def pt_calm (fa : Nat → Int32) : Nat → Int32 := upd (upd (upd (upd fa 0 0) 1 (-1)) 2 (-1)) 3 0
theorem PG_st1 (hh : nr_ho h) (ht : nr_ta t) {i : Nat} (hi : i < 2 ^ 31) (v : Int32) : nr_st (PG g h t f fa en) (t + 1) (nI i) v = PG g h t f (upd fa i v) en := by
  rw [pp_st_lit hi, PG_1 hh ht, PG_s1 hh ht]
theorem cp_calm (hh : nr_ho h) (ht : nr_ta t) : T_X4_calm t (PZ z t wr inn dr) (PG g h t f fa en) = (0, PZ z t wr (-1) dr, PG g h t f (pt_calm fa) en) := by
  have e0 : ∀ fa v, nr_st (PG g h t f fa en) (t + 1) 0 v = PG g h t f (upd fa 0 v) en := fun fa v => PG_st1 hh ht (i := 0) (by decide) v
  have e1 : ∀ fa v, nr_st (PG g h t f fa en) (t + 1) 1 v = PG g h t f (upd fa 1 v) en := fun fa v => PG_st1 hh ht (i := 1) (by decide) v
  have e2 : ∀ fa v, nr_st (PG g h t f fa en) (t + 1) 2 v = PG g h t f (upd fa 2 v) en := fun fa v => PG_st1 hh ht (i := 2) (by decide) v
  have e3 : ∀ fa v, nr_st (PG g h t f fa en) (t + 1) 3 v = PG g h t f (upd fa 3 v) en := fun fa v => PG_st1 hh ht (i := 3) (by decide) v
  unfold T_X4_calm pt_calm
  rw [e0, e1, e2, e3, PZ_s2 ht]
def pt_bef (fa : Nat → Int32) (a b c : Int32) : Nat → Int32 := upd (upd (upd (upd fa 0 a) 1 b) 2 c) 7 (fa 7 + 1)
theorem cp_bef (hh : nr_ho h) (ht : nr_ta t) (a b c : Int32) : T_X4_befall t a b c (PZ z t wr inn dr) (PG g h t f fa en) = (0, PZ z t wr inn dr, PG g h t f (pt_bef fa a b c) en) := by
  have e0 : ∀ fa v, nr_st (PG g h t f fa en) (t + 1) 0 v = PG g h t f (upd fa 0 v) en := fun fa v => PG_st1 hh ht (i := 0) (by decide) v
  have e1 : ∀ fa v, nr_st (PG g h t f fa en) (t + 1) 1 v = PG g h t f (upd fa 1 v) en := fun fa v => PG_st1 hh ht (i := 1) (by decide) v
  have e2 : ∀ fa v, nr_st (PG g h t f fa en) (t + 1) 2 v = PG g h t f (upd fa 2 v) en := fun fa v => PG_st1 hh ht (i := 2) (by decide) v
  have e7 : ∀ fa v, nr_st (PG g h t f fa en) (t + 1) 7 v = PG g h t f (upd fa 7 v) en := fun fa v => PG_st1 hh ht (i := 7) (by decide) v
  unfold T_X4_befall pt_bef
  rw [e0, e1, e2, e7, PG_1 hh ht]
  rfl
def pt_rep (fa : Nat → Int32) : Nat → Int32 := pt_bef (upd fa 3 (fa 3 + 1)) 5 (fa 1) (-1)
theorem cp_rep (hh : nr_ho h) (ht : nr_ta t) : T_X4_report t (PZ z t wr inn dr) (PG g h t f fa en) = (0, PZ z t wr (if fa 0 = 5 then inn else fa 0) dr, PG g h t f (pt_rep fa) en) := by
  have k : ∀ i9, T_X4_report_20 t (PZ z t wr i9 dr) (PG g h t f fa en) = (0, PZ z t wr i9 dr, PG g h t f (pt_rep fa) en) := by
    intro i9
    unfold T_X4_report_20 pt_rep
    rw [show (3 : Int32) = nI 3 from rfl, show (1 : Int32) = nI 1 from rfl, pp_st_lit (by decide), PG_1 hh ht, PG_s1 hh ht, nI_clamp (by decide), nI_clamp (by decide), PG_1 hh ht, cp_bef hh ht]
    rfl
  unfold T_X4_report
  rw [show (0 : Int32) = nI 0 from rfl, nI_clamp (by decide), PG_1 hh ht]
  by_cases h5 : fa 0 = 5
  · rw [if_pos h5, if_pos h5, k]
    rfl
  · rw [if_neg h5, if_neg h5, PZ_s2 ht, k]
    rfl
theorem cp_tick_y (hh : nr_ho h) (ht : nr_ta t) (hk : fa 4 < 40) : T_X4_tick t (PZ z t wr inn dr) (PG g h t f fa en) = (1, PZ z t wr inn dr, PG g h t f (upd fa 4 (fa 4 + 1)) en) := by
  unfold T_X4_tick
  rw [show (4 : Int32) = nI 4 from rfl, nI_clamp (by decide), PG_1 hh ht, if_pos hk, pp_st_lit (by decide), PG_1 hh ht, PG_s1 hh ht]
theorem cp_tick_n (hh : nr_ho h) (ht : nr_ta t) (hk : ¬ fa 4 < 40) : T_X4_tick t (PZ z t wr inn dr) (PG g h t f fa en) = (0, PZ z t wr inn dr, PG g h t f fa en) := by
  unfold T_X4_tick
  rw [show (4 : Int32) = nI 4 from rfl, nI_clamp (by decide), PG_1 hh ht, if_neg hk]
theorem cp_wr_y (hh : nr_ho h) (ht : nr_ta t) {w : Nat} (hw : w < 150) (v : Int32) : nr_V (O_X4_write t v (PZ z t (nI w) inn dr) (PG g h t f fa en)) (T_X4_write t v (PZ z t (nI w) inn dr) (PG g h t f fa en)) (0, PZ z t (nI (w + 1)) inn dr, PG g h t f fa (upd en w v)) := by
  unfold O_X4_write T_X4_write
  rw [PZ_3 ht]
  refine V_neg (nI_ge (b := 150) hw (by decide)) (V_and (vp_in_nI hw (by decide)) (V_T ?_))
  rw [nI_1, PZ_s3 ht, pp_st_lit (by omega), PG_2, PG_s2]
theorem cp_wr_n (hh : nr_ho h) (ht : nr_ta t) {w : Nat} (hw : 150 ≤ w) (hw2 : w < 2 ^ 31) (v : Int32) : nr_V (O_X4_write t v (PZ z t (nI w) inn dr) (PG g h t f fa en)) (T_X4_write t v (PZ z t (nI w) inn dr) (PG g h t f fa en)) (0, PZ z t (nI w) inn dr, PG g h t f fa en) := by
  unfold O_X4_write T_X4_write
  rw [PZ_3 ht]
  exact V_pos (nI_le (a := 150) hw hw2) (V_T rfl)
def pt_n (w : Nat) : Nat := if w < 150 then w + 1 else w
def pt_e (en : Nat → Int32) (w : Nat) (v : Int32) : Nat → Int32 := if w < 150 then upd en w v else en
theorem cp_wr (hh : nr_ho h) (ht : nr_ta t) {w : Nat} (hw : w ≤ 150) (v : Int32) : nr_V (O_X4_write t v (PZ z t (nI w) inn dr) (PG g h t f fa en)) (T_X4_write t v (PZ z t (nI w) inn dr) (PG g h t f fa en)) (0, PZ z t (nI (pt_n w)) inn dr, PG g h t f fa (pt_e en w v)) := by
  unfold pt_n pt_e
  by_cases h1 : w < 150
  · rw [if_pos h1, if_pos h1]; exact cp_wr_y hh ht h1 v
  · rw [if_neg h1, if_neg h1]; exact cp_wr_n hh ht (by omega) (by omega) v
def pt_mo (fa : Nat → Int32) (dr : Int32) : Nat → Int32 := upd fa 6 (if fa 6 < dr + 1 then dr + 1 else fa 6)
theorem cp_opened (hh : nr_ho h) (ht : nr_ta t) {w : Nat} (hw : w ≤ 150) (v : Int32) : nr_V (O_X4_doorOpened t v (PZ z t (nI w) inn dr) (PG g h t f fa en)) (T_X4_doorOpened t v (PZ z t (nI w) inn dr) (PG g h t f fa en)) (0, PZ z t (nI (pt_n w)) inn (dr + 1), PG g h t f (pt_mo fa dr) (pt_e en w (10 + v))) := by
  unfold O_X4_doorOpened T_X4_doorOpened
  rw [PZ_1, PZ_s1, PZ_1, show (6 : Int32) = nI 6 from rfl, nI_clamp (by decide), PG_1 hh ht, pp_st_lit (by decide), PG_1 hh ht, PG_s1 hh ht]
  exact V_K1 (cp_wr hh ht hw _) (V_T rfl)
theorem cp_shut (hh : nr_ho h) (ht : nr_ta t) {w : Nat} (hw : w ≤ 150) (v : Int32) : nr_V (O_X4_doorShut t v (PZ z t (nI w) inn dr) (PG g h t f fa en)) (T_X4_doorShut t v (PZ z t (nI w) inn dr) (PG g h t f fa en)) (0, PZ z t (nI (pt_n w)) inn (dr - 1), PG g h t f fa (pt_e en w (20 + v))) := by
  unfold O_X4_doorShut T_X4_doorShut
  rw [PZ_1, PZ_s1]
  exact V_K1 (cp_wr hh ht hw _) (V_T rfl)
end
