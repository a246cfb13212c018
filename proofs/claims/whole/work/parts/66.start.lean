/-! THE CLAIM OUT OF ONE WALK OF THE LAW'S BODY. Your part is whole_start (and what it stands on); all else here is the same for every law, but numbers. -/
def R_law : String := "NightRoundsLaw"
def lw_P (b : Addr) (xs : List Int32) (args : Array Value) (s : State) : Prop := args = #[.ref b] ∧ s.IntsAt b xs ∧ xs.length ≤ 2048 ∧ (Jvm.Cond.and given_1 narrow_1).before args s = true
def lw_Q (_ : Array Value) (s : State) (o : Outcome) (t : State) : Prop := o = .returned (some (.int 1)) ∧ Framed s o t [] 600000 7302249
def lw_Z (below : List Frame) (a : Array Value) (s : State) : State → Prop := fun t => ∃ o, t.status = .running ∧ Ended t below o ∧ lw_Q a s o t
/-- the law's own end, with 1 on the stack, nothing written that was there before, its room as the claim has it -/
theorem lw_ret {p : Program} {l : Launch} {e : Env} {s : State} {m : MethodId} {below : List Frame} {meth : Method} {c : Code} {b : Nat} (hx : p.tables.exec = Jvm.exec) (hb : c.code = code) (hr : meth.sig.returnType = ret) (hlocks : meth.locks = false) {pc : Nat} {H : Heap} {ls : Array Slot} (hdg : decode code pc = .ok (.ireturn, 1)) : W p l e room_1 s m #[Value.ref b] below meth c H [] 600000 7302249 (lw_Z below #[Value.ref b] s) (F0 m pc ls [.int 1]) := by
  intro T hT X
  obtain ⟨fs, hret, hrun, hended, hW, hframe⟩ := X.leave (v := some (.int 1)) (hlocks := hlocks) (fun h => by rw [hr] at h; cases h)
  have hmeth' : T.vm.method? m = some meth := X.method'
  refine ⟨T.setFrames fs, ?_, .returned (some (.int 1)), hrun, hended, rfl, ⟨_, rfl⟩, hW, hframe⟩
  jvm_step X.here [X.here.top, hx, hb, hdg, hmeth', hr, ret, narrow_b1]
  (try refine ⟨rfl, ?_⟩); (try refine ⟨rfl, ?_⟩)
  first | (intro acts; rw [hret _ acts rfl rfl rfl]) | rw [hret _ _ rfl rfl rfl]
  exact Steps.refl _
/-- what holds at the law's entry: the machine, the code, the tables' words (any of lw_tbl by 'hts w (by decide +kernel)'), the script of L ints xs at the cell b, what the Statement gives of the start (any of its parts by flat_of_before) -/
def lw_At (p : Program) (s : State) (m : MethodId) (meth : Method) (c : Code) (b L : Nat) (xs : Nat → Int32) : Prop :=
  p.tables.exec = Jvm.exec ∧ c.code = code ∧ meth.sig.returnType = ret ∧ c.maxLocals = 4 ∧ s.vm.findClass R_law = some m.cls ∧ (∀ w ∈ lw_tbl, w.before #[Value.ref b] s = true) ∧ va_X b L xs s s.heap ∧ b < s.heap.size ∧ meth.locks = false ∧ (Jvm.Cond.and given_1 narrow_1).before #[Value.ref b] s = true
def st_z : Nat → Int32 := fun i => match i with
  | 11 => -1
  | 14 => -1
  | 16 => 1
  | 17 => 13
  | 38 => -1
  | _ => 0
def st_g (f1 f2 : Nat → Int32) : Nat → Nat → Int32 := fun k => match k with
  | 14 => f1
  | 17 => f2
  | _ => fun _ => 0
theorem st_W : rW (fun _ => 0) := by
  refine ⟨fun r w hr hw => ?_, fun _ _ _ => rfl, 0, by decide, rfl⟩
  rcases (show w = 0 ∨ w = 1 ∨ w = 2 ∨ w = 3 ∨ w = 4 ∨ w = 5 ∨ w = 6 by omega) with rfl | rfl | rfl | rfl | rfl | rfl | rfl
  · exact ⟨0, by decide, rfl⟩
  · exact ⟨0, by decide, rfl⟩
  · exact ⟨0, by decide, rfl⟩
  · exact ⟨0, by decide, rfl⟩
  · exact Or.inl rfl
  · exact Or.inl rfl
  · exact ⟨0, by decide, rfl⟩
theorem st_iv {f1 f2 : Nat → Int32} (h1 : b_tf f1) : iv st_z (st_g f1 f2) st_z (st_g f1 f2) := by
  refine ⟨⟨fun i hi => rfl, st_W⟩, ⟨0, by decide, rfl, rfl, fun j hj => absurd hj (by omega)⟩, ⟨rfl, rfl, rfl⟩, ⟨0, by decide, rfl, rfl, fun i hi => absurd hi (by omega), fun i hi => absurd hi (by omega)⟩, rfl, rfl, rfl, ⟨0, by decide, rfl, fun i hi => absurd hi (by omega)⟩, Or.inl ⟨rfl, h1.1, h1.2.1, h1.2.2.1, h1.2.2.2⟩⟩
def st_r (r0 r1 r2 r3 r4 r5 r6 r7 r8 r9 r10 r11 r12 r13 r14 r15 r16 r17 r18 r19 r20 r21 r22 r23 r24 r25 r26 r27 r28 r29 r30 r31 r32 r33 r34 r35 t40 t41 t42 : Nat) : Nat → Nat := fun k => match k with
  | 0 => r0
  | 1 => r1
  | 2 => r2
  | 3 => r3
  | 4 => r4
  | 5 => r5
  | 6 => r6
  | 7 => r7
  | 8 => r8
  | 9 => r9
  | 10 => r10
  | 11 => r11
  | 12 => r12
  | 13 => r13
  | 14 => r14
  | 15 => r15
  | 16 => r16
  | 17 => r17
  | 18 => r18
  | 19 => r19
  | 20 => r20
  | 21 => r21
  | 22 => r22
  | 23 => r23
  | 24 => r24
  | 25 => r25
  | 26 => r26
  | 27 => r27
  | 28 => r28
  | 29 => r29
  | 30 => r30
  | 31 => r31
  | 32 => r32
  | 33 => r33
  | 34 => r34
  | 35 => r35
  | 40 => t40
  | 41 => t41
  | _ => t42
theorem lw_arrI {args : Array Value} {s : State} (h : (Cond.arrayClass .int).before args s = true) : ∃ cA : ClassId, ArrOfT s cA .int ∧ va_RA s cA .int := by
  obtain ⟨cA, kA, comp, h1, h2, h3⟩ := Cond.arrayClass_spec h
  exact ⟨cA, fun n z => ⟨fun k h => (by cases h), kA, h2, comp, h3⟩, h1⟩
theorem lw_arrZ {args : Array Value} {s : State} (h : (Cond.arrayClass .boolean).before args s = true) : ∃ cA : ClassId, ArrOfT s cA .boolean ∧ va_RA s cA .boolean := by
  obtain ⟨cA, kA, comp, h1, h2, h3⟩ := Cond.arrayClass_spec h
  exact ⟨cA, fun n z => ⟨fun k h => (by cases h), kA, h2, comp, h3⟩, h1⟩
set_option maxRecDepth 100000 in
theorem lw_st40 {args : Array Value} {s : State} (hts : ∀ w ∈ lw_tbl, w.before args s = true) (hgv : (Jvm.Cond.and given_1 narrow_1).before args s = true) : ∃ t : Nat, va_Z "NightRounds" (nr_sN 40) "[I" (.ref t) (fun q => s.heap.size ≤ q) s s.heap ∧ va_T .int t (nr_sn 40) (fun j => .int (nr_sf 40 j)) (fun q => s.heap.size ≤ q) s s.heap := by
  have hs := flat_of_before _ hgv
  have harr : (Cond.arrayOf (.static "NightRounds" "SETS_MOST" "[I") .int).before args s = true := hs _ (by decide +kernel)
  have hlen := va_eqt (hs (Cond.eq (.length (.static "NightRounds" "SETS_MOST" "[I")) (.int 4)) (by decide +kernel))
  have e0 := va_eqt (hs (Cond.eq (.elem (.static "NightRounds" "SETS_MOST" "[I") (.int 0)) (.int 4)) (by decide +kernel))
  have e1 := va_eqt (hs (Cond.eq (.elem (.static "NightRounds" "SETS_MOST" "[I") (.int 1)) (.int 3)) (by decide +kernel))
  have e2 := va_eqt (hs (Cond.eq (.elem (.static "NightRounds" "SETS_MOST" "[I") (.int 2)) (.int 3)) (by decide +kernel))
  have e3 := va_eqt (hs (Cond.eq (.elem (.static "NightRounds" "SETS_MOST" "[I") (.int 3)) (.int 9)) (by decide +kernel))
  obtain ⟨t, h1, h2⟩ := va_Tof (A := fun q => s.heap.size ≤ q) (N := 4) (f := fun j => .int (nr_sf 40 j)) (by decide) harr hlen (fun j hj => by
    rcases (show j = 0 ∨ j = 1 ∨ j = 2 ∨ j = 3 by omega) with rfl | rfl | rfl | rfl
    · exact e0
    · exact e1
    · exact e2
    · exact e3
    ) (fun a ha => Nat.not_le.mpr ha)
  exact ⟨t, va_Zof (hts (.laysStatic "NightRounds" "SETS_MOST" "[I") (by decide +kernel)) (hts (.initialized "NightRounds") (by decide +kernel)) h1 (fun a ha => Nat.not_le.mpr ha), h2⟩
set_option maxRecDepth 100000 in
theorem lw_st41 {args : Array Value} {s : State} (hts : ∀ w ∈ lw_tbl, w.before args s = true) (hgv : (Jvm.Cond.and given_1 narrow_1).before args s = true) : ∃ t : Nat, va_Z "NightRounds" (nr_sN 41) "[I" (.ref t) (fun q => s.heap.size ≤ q) s s.heap ∧ va_T .int t (nr_sn 41) (fun j => .int (nr_sf 41 j)) (fun q => s.heap.size ≤ q) s s.heap := by
  have hs := flat_of_before _ hgv
  have harr : (Cond.arrayOf (.static "NightRounds" "KEY_SETS" "[I") .int).before args s = true := hs _ (by decide +kernel)
  have hlen := va_eqt (hs (Cond.eq (.length (.static "NightRounds" "KEY_SETS" "[I")) (.int 8)) (by decide +kernel))
  have e0 := va_eqt (hs (Cond.eq (.elem (.static "NightRounds" "KEY_SETS" "[I") (.int 0)) (.int 0)) (by decide +kernel))
  have e1 := va_eqt (hs (Cond.eq (.elem (.static "NightRounds" "KEY_SETS" "[I") (.int 1)) (.int 2)) (by decide +kernel))
  have e2 := va_eqt (hs (Cond.eq (.elem (.static "NightRounds" "KEY_SETS" "[I") (.int 2)) (.int 4)) (by decide +kernel))
  have e3 := va_eqt (hs (Cond.eq (.elem (.static "NightRounds" "KEY_SETS" "[I") (.int 3)) (.int 8)) (by decide +kernel))
  have e4 := va_eqt (hs (Cond.eq (.elem (.static "NightRounds" "KEY_SETS" "[I") (.int 4)) (.int 6)) (by decide +kernel))
  have e5 := va_eqt (hs (Cond.eq (.elem (.static "NightRounds" "KEY_SETS" "[I") (.int 5)) (.int 10)) (by decide +kernel))
  have e6 := va_eqt (hs (Cond.eq (.elem (.static "NightRounds" "KEY_SETS" "[I") (.int 6)) (.int 12)) (by decide +kernel))
  have e7 := va_eqt (hs (Cond.eq (.elem (.static "NightRounds" "KEY_SETS" "[I") (.int 7)) (.int 14)) (by decide +kernel))
  obtain ⟨t, h1, h2⟩ := va_Tof (A := fun q => s.heap.size ≤ q) (N := 8) (f := fun j => .int (nr_sf 41 j)) (by decide) harr hlen (fun j hj => by
    rcases (show j = 0 ∨ j = 1 ∨ j = 2 ∨ j = 3 ∨ j = 4 ∨ j = 5 ∨ j = 6 ∨ j = 7 by omega) with rfl | rfl | rfl | rfl | rfl | rfl | rfl | rfl
    · exact e0
    · exact e1
    · exact e2
    · exact e3
    · exact e4
    · exact e5
    · exact e6
    · exact e7
    ) (fun a ha => Nat.not_le.mpr ha)
  exact ⟨t, va_Zof (hts (.laysStatic "NightRounds" "KEY_SETS" "[I") (by decide +kernel)) (hts (.initialized "NightRounds") (by decide +kernel)) h1 (fun a ha => Nat.not_le.mpr ha), h2⟩
set_option maxRecDepth 100000 in
theorem lw_st42 {args : Array Value} {s : State} (hts : ∀ w ∈ lw_tbl, w.before args s = true) (hgv : (Jvm.Cond.and given_1 narrow_1).before args s = true) : ∃ t : Nat, va_Z "NightRounds" (nr_sN 42) "[I" (.ref t) (fun q => s.heap.size ≤ q) s s.heap ∧ va_T .int t (nr_sn 42) (fun j => .int (nr_sf 42 j)) (fun q => s.heap.size ≤ q) s s.heap := by
  have hs := flat_of_before _ hgv
  have harr : (Cond.arrayOf (.static "NightRounds" "CURED" "[I") .int).before args s = true := hs _ (by decide +kernel)
  have hlen := va_eqt (hs (Cond.eq (.length (.static "NightRounds" "CURED" "[I")) (.int 3)) (by decide +kernel))
  have e0 := va_eqt (hs (Cond.eq (.elem (.static "NightRounds" "CURED" "[I") (.int 0)) (.int 0)) (by decide +kernel))
  have e1 := va_eqt (hs (Cond.eq (.elem (.static "NightRounds" "CURED" "[I") (.int 1)) (.int 3)) (by decide +kernel))
  have e2 := va_eqt (hs (Cond.eq (.elem (.static "NightRounds" "CURED" "[I") (.int 2)) (.int 1)) (by decide +kernel))
  obtain ⟨t, h1, h2⟩ := va_Tof (A := fun q => s.heap.size ≤ q) (N := 3) (f := fun j => .int (nr_sf 42 j)) (by decide) harr hlen (fun j hj => by
    rcases (show j = 0 ∨ j = 1 ∨ j = 2 by omega) with rfl | rfl | rfl
    · exact e0
    · exact e1
    · exact e2
    ) (fun a ha => Nat.not_le.mpr ha)
  exact ⟨t, va_Zof (hts (.laysStatic "NightRounds" "CURED" "[I") (by decide +kernel)) (hts (.initialized "NightRounds") (by decide +kernel)) h1 (fun a ha => Nat.not_le.mpr ha), h2⟩
set_option maxHeartbeats 8000000 in
set_option maxRecDepth 100000 in
theorem st_ws (Γ : nr_M) (r0 r1 r2 r3 r4 r5 r6 r7 r8 r9 r10 r11 r12 r13 r14 r15 r16 r17 r18 r19 r20 r21 r22 r23 r24 r25 r26 r27 r28 r29 r30 r31 r32 r33 r34 r35 t40 t41 t42 : Nat) (f1 f2 : Nat → Int32) : [0, 1, 2, 3, 4, 5, 6, 7, 8, 9, 10, 11, 12, 14, 15, 13, 17, 18, 16, 19, 20, 21, 22, 23, 24, 25, 26, 27, 28, 29, 30, 31, 32, 33, 34, 35].map (fun i => ([(r0, .inr (5, [.ref r1, .ref r3, .ref r5, .ref r7, .ref r13, .ref r16, .ref r19, .int 0, .int 0, .int 0])), (r1, .inr (0, [.ref r2])), (r2, .inl (Γ.2.2.2.1, 58, .inl (fun _ => 0))), (r3, .inr (0, [.ref r4])), (r4, .inl (Γ.2.2.2.1, 58, .inl (fun _ => 0))), (r5, .inr (1, [.ref r6, .int 0])), (r6, .inl (Γ.2.2.2.1, 464, .inl (fun _ => 0))), (r7, .inr (3, [.ref r8, .ref r9, .ref r10, .ref r11, .ref r12, .int 0, .int 0, .int 0, .int 0, .int 0, .int 0])), (r8, .inl (Γ.2.2.2.1, 100, .inl (fun _ => 0))), (r9, .inl (Γ.2.2.2.1, 100, .inl (fun _ => 0))), (r10, .inl (Γ.2.2.2.1, 100, .inl (fun _ => 0))), (r11, .inl (Γ.2.2.2.1, 100, .inl (fun _ => 0))), (r12, .inl (Γ.2.2.2.1, 100, .inl (fun _ => 0))), (r15, .inl (Γ.2.2.2.1, 150, .inl (fun _ => 0))), (r13, .inr (4, [.ref r14, .ref r15, .int 0, .int (-1), .int 0])), (r14, .inl (Γ.2.2.2.1, 8, .inl f1)), (r18, .inl (Γ.2.2.2.1, 150, .inl (fun _ => 0))), (r16, .inr (4, [.ref r17, .ref r18, .int 0, .int (-1), .int 0])), (r17, .inl (Γ.2.2.2.1, 8, .inl f2)), (r19, .inr (2, [.ref r7, .ref r1, .ref r13]))] ++ [(r20, .inr (6, [.ref r21, .ref r22, .int 0, .ref r23, .ref r24, .int 0, .ref r25, .ref r26, .int 0, .int 0, .int 0, .int 0, .ref r27, .ref r28, .int 0, .int 0, .int 0, .int 0, .int 0, .int 0, .int 0, .int 0, .int 0, .ref r29, .ref r30, .ref r31, .ref r32, .int 0, .int 0, .int 0, .ref r33, .int (-1), .ref r34, .int 0, .int 0, .ref r35])), (r21, .inl (Γ.2.2.2.1, 58, .inl (fun _ => 0))), (r22, .inl (Γ.2.2.2.1, 464, .inl (fun _ => 0))), (r23, .inl (Γ.2.2.2.1, 3, .inl (fun _ => 0))), (r24, .inl (Γ.2.2.2.1, 100, .inl (fun _ => 0))), (r25, .inl (Γ.2.2.2.1, 100, .inl (fun _ => 0))), (r26, .inl (Γ.2.2.2.1, 100, .inl (fun _ => 0))), (r27, .inl (Γ.2.2.2.1, 9, .inl (fun _ => 0))), (r28, .inl (Γ.2.2.2.1, 150, .inl (fun _ => 0))), (r29, .inl (Γ.2.2.2.1, 9, .inl (fun _ => 0))), (r30, .inl (Γ.2.2.2.1, 9, .inl (fun _ => 0))), (r31, .inl (Γ.2.2.2.1, 9, .inl (fun _ => 0))), (r32, .inl (Γ.2.2.2.2, 9, .inl (fun _ => 0))), (r33, .inl (Γ.2.2.2.1, 8, .inl (fun _ => 0))), (r34, .inl (Γ.2.2.2.1, 150, .inl (fun _ => 0))), (r35, .inl (Γ.2.2.2.1, 58, .inl (fun _ => 0)))])[i]?) = (nr_ws Γ (st_r r0 r1 r2 r3 r4 r5 r6 r7 r8 r9 r10 r11 r12 r13 r14 r15 r16 r17 r18 r19 r20 r21 r22 r23 r24 r25 r26 r27 r28 r29 r30 r31 r32 r33 r34 r35 t40 t41 t42) st_z (st_g f1 f2)).map some := rfl
set_option maxHeartbeats 8000000 in
set_option maxRecDepth 100000 in
/-- behind the two makings: the world of part 08 -/
theorem st_in {p : Program} {e : Env} {s : State} {m : MethodId} {below : List Frame} {meth : Method} {c : Code} {l : Launch} {b L : Nat} {xs : Nat → Int32} {dC : Nat → ClassId} {dI : Nat → Nat → Nat} {cI cZ : ClassId} {cells slots k1 k2 : Nat} (hL : L ≤ 2048) (C0 : lw_At p s m meth c b L xs) (hK : va_K (dC, dI) vwCl (nb_T (l, dC, dI, cI, cZ)) s) (hc : cells ≤ 600000) (hsl : slots ≤ 7302249) (r0 r1 r2 r3 r4 r5 r6 r7 r8 r9 r10 r11 r12 r13 r14 r15 r16 r17 r18 r19 r20 r21 r22 r23 r24 r25 r26 r27 r28 r29 r30 r31 r32 r33 r34 r35 : Nat) (f1 f2 : Nat → Int32) (h1 : b_tf f1) : nb_G (l, dC, dI, cI, cZ) (fun q => s.heap.size ≤ q) (p, e, room_1, s, m, #[Value.ref b], below, meth, c, k1, k2) 4 (lw_Z below #[Value.ref b] s) 18 [(3, .int 0), (2, .ref r20), (1, .ref r0), (0, .ref b)] [] ([(r0, .inr (5, [.ref r1, .ref r3, .ref r5, .ref r7, .ref r13, .ref r16, .ref r19, .int 0, .int 0, .int 0])), (r1, .inr (0, [.ref r2])), (r2, .inl (cI, 58, .inl (fun _ => 0))), (r3, .inr (0, [.ref r4])), (r4, .inl (cI, 58, .inl (fun _ => 0))), (r5, .inr (1, [.ref r6, .int 0])), (r6, .inl (cI, 464, .inl (fun _ => 0))), (r7, .inr (3, [.ref r8, .ref r9, .ref r10, .ref r11, .ref r12, .int 0, .int 0, .int 0, .int 0, .int 0, .int 0])), (r8, .inl (cI, 100, .inl (fun _ => 0))), (r9, .inl (cI, 100, .inl (fun _ => 0))), (r10, .inl (cI, 100, .inl (fun _ => 0))), (r11, .inl (cI, 100, .inl (fun _ => 0))), (r12, .inl (cI, 100, .inl (fun _ => 0))), (r15, .inl (cI, 150, .inl (fun _ => 0))), (r13, .inr (4, [.ref r14, .ref r15, .int 0, .int (-1), .int 0])), (r14, .inl (cI, 8, .inl f1)), (r18, .inl (cI, 150, .inl (fun _ => 0))), (r16, .inr (4, [.ref r17, .ref r18, .int 0, .int (-1), .int 0])), (r17, .inl (cI, 8, .inl f2)), (r19, .inr (2, [.ref r7, .ref r1, .ref r13]))] ++ [(r20, .inr (6, [.ref r21, .ref r22, .int 0, .ref r23, .ref r24, .int 0, .ref r25, .ref r26, .int 0, .int 0, .int 0, .int 0, .ref r27, .ref r28, .int 0, .int 0, .int 0, .int 0, .int 0, .int 0, .int 0, .int 0, .int 0, .ref r29, .ref r30, .ref r31, .ref r32, .int 0, .int 0, .int 0, .ref r33, .int (-1), .ref r34, .int 0, .int 0, .ref r35])), (r21, .inl (cI, 58, .inl (fun _ => 0))), (r22, .inl (cI, 464, .inl (fun _ => 0))), (r23, .inl (cI, 3, .inl (fun _ => 0))), (r24, .inl (cI, 100, .inl (fun _ => 0))), (r25, .inl (cI, 100, .inl (fun _ => 0))), (r26, .inl (cI, 100, .inl (fun _ => 0))), (r27, .inl (cI, 9, .inl (fun _ => 0))), (r28, .inl (cI, 150, .inl (fun _ => 0))), (r29, .inl (cI, 9, .inl (fun _ => 0))), (r30, .inl (cI, 9, .inl (fun _ => 0))), (r31, .inl (cI, 9, .inl (fun _ => 0))), (r32, .inl (cZ, 9, .inl (fun _ => 0))), (r33, .inl (cI, 8, .inl (fun _ => 0))), (r34, .inl (cI, 150, .inl (fun _ => 0))), (r35, .inl (cI, 58, .inl (fun _ => 0)))]) cells slots := by
  intro H locs ls hP hD hS hl
  obtain ⟨hx, hb, hr, hml, hown, hts, hX, hbl, hlocks, hgv⟩ := id C0
  obtain ⟨t40, s40, u40⟩ := lw_st40 hts hgv
  obtain ⟨t41, s41, u41⟩ := lw_st41 hts hgv
  obtain ⟨t42, s42, u42⟩ := lw_st42 hts hgv
  have ew := st_ws (l, dC, dI, cI, cZ) r0 r1 r2 r3 r4 r5 r6 r7 r8 r9 r10 r11 r12 r13 r14 r15 r16 r17 r18 r19 r20 r21 r22 r23 r24 r25 r26 r27 r28 r29 r30 r31 r32 r33 r34 r35 t40 t41 t42 f1 f2
  have hP1 := nb_sub hP _ ew
  have hD1 := hD.sub _ (by decide) ew
  have hlv : lv_has ls 4 (lw_lv (st_r r0 r1 r2 r3 r4 r5 r6 r7 r8 r9 r10 r11 r12 r13 r14 r15 r16 r17 r18 r19 r20 r21 r22 r23 r24 r25 r26 r27 r28 r29 r30 r31 r32 r33 r34 r35 t40 t41 t42) b 0) := nr_sub_has hl (nr_sl_all ⟨rfl, rfl, rfl, rfl, trivial⟩)
  have n40 : st_r r0 r1 r2 r3 r4 r5 r6 r7 r8 r9 r10 r11 r12 r13 r14 r15 r16 r17 r18 r19 r20 r21 r22 r23 r24 r25 r26 r27 r28 r29 r30 r31 r32 r33 r34 r35 t40 t41 t42 40 = t40 := rfl
  have n41 : st_r r0 r1 r2 r3 r4 r5 r6 r7 r8 r9 r10 r11 r12 r13 r14 r15 r16 r17 r18 r19 r20 r21 r22 r23 r24 r25 r26 r27 r28 r29 r30 r31 r32 r33 r34 r35 t40 t41 t42 41 = t41 := rfl
  have n42 : st_r r0 r1 r2 r3 r4 r5 r6 r7 r8 r9 r10 r11 r12 r13 r14 r15 r16 r17 r18 r19 r20 r21 r22 r23 r24 r25 r26 r27 r28 r29 r30 r31 r32 r33 r34 r35 t40 t41 t42 42 = t42 := rfl
  generalize st_r r0 r1 r2 r3 r4 r5 r6 r7 r8 r9 r10 r11 r12 r13 r14 r15 r16 r17 r18 r19 r20 r21 r22 r23 r24 r25 r26 r27 r28 r29 r30 r31 r32 r33 r34 r35 t40 t41 t42 = ρ at hP1 hD1 hlv n40 n41 n42
  have hge : ∀ q, nr_A ρ q → s.heap.size ≤ q := by
    rintro q ⟨k, hk, rfl⟩
    exact hD1.2 k _ (nr_ws_get hk)
  have hinj : nr_inj ρ := fun i j hi hj q => hD1.1 i j _ _ (nr_ws_get hi) (nr_ws_get hj) q
  have hST : nr_ST ρ s s.heap := by
    intro k hk1 hk2
    rcases (show k = 40 ∨ k = 41 ∨ k = 42 by omega) with rfl | rfl | rfl
    · rw [n40]; exact ⟨s40.narrow hge, u40.narrow hge⟩
    · rw [n41]; exact ⟨s41.narrow hge, u41.narrow hge⟩
    · rw [n42]; exact ⟨s42.narrow hge, u42.narrow hge⟩
  have hCx : nr_Cx (l, dC, dI, cI, cZ) ρ (p, e, room_1, s, m, #[Value.ref b], below, meth, c, cells, slots) yL_law code 4 ret 840 := ⟨hx, hb, hml, hown, fun w hw => hts w (List.mem_filter.mp hw).1, hK, hinj, hST, ⟨Nat.le_of_ble_eq_true rfl, Nat.le_of_ble_eq_true rfl⟩, ⟨hc, hsl⟩, hr, hlocks⟩
  have C : lw_C (l, dC, dI, cI, cZ) ρ (p, e, room_1, s, m, #[Value.ref b], below, meth, c, cells, slots) b L xs (lw_Z below #[Value.ref b] s) := by
    refine ⟨hCx, hX, hbl, fun q => absurd (hge b q) (Nat.not_le.mpr hbl), hL, fun lv z g => ?_⟩
    intro H locs ls hP hS hl
    refine va_forget (fun q hq => hge _ (hS.2.2 q hq)) ?_
    refine W.widen hc hsl ?_
    exact lw_ret hx hb hr hlocks dL_600
  refine va_forget (fun q hq => hS.2.2 q hq) ?_
  exact law_loop C (L + 1) 0 st_z (st_g f1 f2) (by omega) (by omega) (st_iv h1) H [] ls hP1 ⟨hS.1, fun q h1 h2 => hS.2.1 q h1 (Nat.not_le.mpr h1), fun _ h => by cases h⟩ hlv
set_option maxHeartbeats 8000000 in
set_option maxRecDepth 100000 in
/-- THE LAW, from its entry -/
theorem whole_start {p : Program} {e : Env} {s : State} {m : MethodId} {below : List Frame} {meth : Method} {c : Code} (l : Launch) {b L : Nat} {xs : Nat → Int32} (hL : L ≤ 2048) (C0 : lw_At p s m meth c b L xs) : W p l e room_1 s m #[Value.ref b] below meth c s.heap [] 0 0 (lw_Z below #[Value.ref b] s) (entryFrame m ([Value.ref b] : List Value).toArray 4) := by
  obtain ⟨hx, hb, hr, hml, hown, hts, hX, hbl, hlocks, hgv⟩ := id C0
  have htb : ∀ w ∈ nr_tb, w.before #[Value.ref b] s = true := fun w hw => hts w (List.mem_filter.mp hw).1
  obtain ⟨c0, i0, k0⟩ := u_known (C := RX0) (T := TX0) (N := 1) (n := 1) htb nr_u0 (htb _ wt_RX0)
  obtain ⟨c1, i1, k1⟩ := u_known (C := RX1) (T := TX1) (N := 2) (n := 2) htb nr_u1 (htb _ wt_RX1)
  obtain ⟨c2, i2, k2⟩ := u_known (C := RX2) (T := TX2) (N := 3) (n := 3) htb nr_u2 (htb _ wt_RX2)
  obtain ⟨c3, i3, k3⟩ := u_known (C := RX3) (T := TX3) (N := 11) (n := 11) htb nr_u3 (htb _ wt_RX3)
  obtain ⟨c4, i4, k4⟩ := u_known (C := RX4) (T := TX4) (N := 5) (n := 5) htb nr_u4 (htb _ wt_RX4)
  obtain ⟨c5, i5, k5⟩ := u_known (C := RX5) (T := TX5) (N := 10) (n := 10) htb nr_u5 (htb _ wt_RX5)
  obtain ⟨c6, i6, k6⟩ := u_known (C := RX6) (T := TX6) (N := 36) (n := 36) htb nr_u6 (htb _ wt_RX6)
  obtain ⟨cI, kI1, kI2⟩ := lw_arrI (htb _ wa_int)
  obtain ⟨cZ, kZ1, kZ2⟩ := lw_arrZ (htb _ wa_boolean)
  obtain ⟨dC, dI, hK0⟩ : ∃ (dC : Nat → ClassId) (dI : Nat → Nat → Nat), ∀ (k : Nat) (q : vw_C), vwCl[k]? = some q → u_Kn s q.1 q.2.1 q.2.2 (dC k) (dI k) := by
    refine ⟨fun k => match k with | 0 => c0 | 1 => c1 | 2 => c2 | 3 => c3 | 4 => c4 | 5 => c5 | _ => c6, fun k => match k with | 0 => i0 | 1 => i1 | 2 => i2 | 3 => i3 | 4 => i4 | 5 => i5 | _ => i6, ?_⟩
    intro k q hq
    match k, hq with
    | 0, hq => cases hq; exact k0
    | 1, hq => cases hq; exact k1
    | 2, hq => cases hq; exact k2
    | 3, hq => cases hq; exact k3
    | 4, hq => cases hq; exact k4
    | 5, hq => cases hq; exact k5
    | 6, hq => cases hq; exact k6
    | k + 7, hq => simp [vwCl] at hq
  have hK : va_K (dC, dI) vwCl (nb_T (l, dC, dI, cI, cZ)) s := by
    refine ⟨hK0, fun k q hq => ?_⟩
    match k, hq with
    | 0, hq => cases hq; exact ⟨kI1, kI2⟩
    | 1, hq => cases hq; exact ⟨kZ1, kZ2⟩
    | k + 2, hq => simp [nb_T] at hq
  have hX : nb_Cx (l, dC, dI, cI, cZ) (fun q => s.heap.size ≤ q) (p, e, room_1, s, m, #[Value.ref b], below, meth, c, 0, 0) yL_law code 4 ret 840 600000 7302249 := ⟨hx, hb, hml, hown, htb, hK, fun q h => h, ⟨Nat.le_of_ble_eq_true rfl, Nat.le_of_ble_eq_true rfl⟩, ⟨Nat.le_refl _, Nat.le_refl _⟩, hr, hlocks, fun q => absurd q (by decide)⟩
  have N : nb_G (l, dC, dI, cI, cZ) (fun q => s.heap.size ≤ q) (p, e, room_1, s, m, #[Value.ref b], below, meth, c, 0, 0) 4 (lw_Z below #[Value.ref b] s) 0 [(0, .ref b)] [] [] 0 0 := by
    refine N_new hX dL_0 nw_RL_7 (by decide) (by decide) rfl (fun r0 => ?_)
    refine N_dup hX dL_3 rfl rfl ?_
    refine N_mk hX dL_4 (Or.inl wm_RL_9) wi_yX5_init rfl ml_yX5_init (b_X5 _ r0) (by decide) rfl rfl (Nat.le_of_ble_eq_true rfl) (by decide) (by decide) rfl (fun w1 hw1 => ?_)
    obtain ⟨r1, r2, r3, r4, r5, r6, r7, r8, r9, r10, r11, r12, r13, r14, r15, r16, r17, r18, r19, f1, f2, rfl, hf1, hf2⟩ := hw1
    refine N_astore_n hX dL_7 (by decide) rfl rfl ?_
    refine N_new hX dL_8 nw_RL_10 (by decide) (by decide) rfl (fun r20 => ?_)
    refine N_dup hX dL_11 rfl rfl ?_
    refine N_mk hX dL_12 (Or.inl wm_RL_12) wi_yX6_init rfl ml_yX6_init (b_X6 _ r20) (by decide) rfl rfl (Nat.le_of_ble_eq_true rfl) (by decide) (by decide) rfl (fun w1 hw1 => ?_)
    obtain ⟨r21, r22, r23, r24, r25, r26, r27, r28, r29, r30, r31, r32, r33, r34, r35, rfl⟩ := hw1
    refine N_astore_n hX dL_15 (by decide) rfl rfl ?_
    refine N_iconst (v := 0) hX dL_16 (by decide) rfl ?_
    refine N_istore_n hX dL_17 (by decide) rfl rfl ?_
    exact st_in (e := e) (below := below) (cells := 36) (slots := 2706) hL C0 hK (Nat.le_of_ble_eq_true rfl) (Nat.le_of_ble_eq_true rfl) r0 r1 r2 r3 r4 r5 r6 r7 r8 r9 r10 r11 r12 r13 r14 r15 r16 r17 r18 r19 r20 r21 r22 r23 r24 r25 r26 r27 r28 r29 r30 r31 r32 r33 r34 r35 f1 f2 hf1
  rw [lg_entry_eq]
  exact N s.heap [] _ (fun k q h => by simp at h) ⟨fun i j p q h => by simp at h, fun k q h => by simp at h⟩ va_S.rf (lv_entry [.ref b] (n := 4) (Nat.le_of_ble_eq_true rfl))
