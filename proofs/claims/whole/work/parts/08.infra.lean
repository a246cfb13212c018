/-- what is fixed: the launch, the classes' numbers and slots, the two array classes -/
abbrev nr_M : Type := Launch × (Nat → ClassId) × (Nat → Nat → Nat) × ClassId × ClassId
abbrev nr_S : Type := (Nat → Int32) × (Nat → Nat → Int32)
/-- an id in a scalar -/
def nr_ix (x : Int32) : Nat := x.toNatClampNeg
abbrev nr_CX : Type := Program × Env × Room × State × MethodId × Array Value × List Frame × Method × Code × Nat × Nat
def nr_il (k : Nat) : Nat := match k with
  | 2 => 58 | 4 => 58 | 6 => 464 | 8 => 100 | 9 => 100 | 10 => 100 | 11 => 100 | 12 => 100
  | 14 => 8 | 15 => 150 | 17 => 8 | 18 => 150
  | 21 => 58 | 22 => 464 | 23 => 3 | 24 => 100 | 25 => 100 | 26 => 100 | 27 => 9 | 28 => 150 | 29 => 9 | 30 => 9 | 31 => 9 | 33 => 8 | 34 => 150 | 35 => 58
  | _ => 0
def nr_hp (Γ : nr_M) (ρ : Nat → Nat) (z : Nat → Int32) (g : Nat → Nat → Int32) (k : Nat) : va_E := match k with
  | 0 => .inr (5, [.ref (ρ 1), .ref (ρ 3), .ref (ρ 5), .ref (ρ 7), .ref (ρ 13), .ref (ρ 16), .ref (ρ 19), .int (z 0), .int (z 1), .int (z 2)])
  | 1 => .inr (0, [.ref (ρ 2)])
  | 2 => .inl (Γ.2.2.2.1, 58, .inl (g 2))
  | 3 => .inr (0, [.ref (ρ 4)])
  | 4 => .inl (Γ.2.2.2.1, 58, .inl (g 4))
  | 5 => .inr (1, [.ref (ρ 6), .int (z 3)])
  | 6 => .inl (Γ.2.2.2.1, 464, .inl (g 6))
  | 7 => .inr (3, [.ref (ρ 8), .ref (ρ 9), .ref (ρ 10), .ref (ρ 11), .ref (ρ 12), .int (z 4), .int (z 5), .int (z 6), .int (z 7), .int (z 8), .int (z 9)])
  | 8 => .inl (Γ.2.2.2.1, 100, .inl (g 8))
  | 9 => .inl (Γ.2.2.2.1, 100, .inl (g 9))
  | 10 => .inl (Γ.2.2.2.1, 100, .inl (g 10))
  | 11 => .inl (Γ.2.2.2.1, 100, .inl (g 11))
  | 12 => .inl (Γ.2.2.2.1, 100, .inl (g 12))
  | 13 => .inr (4, [.ref (ρ 14), .ref (ρ 15), .int (z 10), .int (z 11), .int (z 12)])
  | 14 => .inl (Γ.2.2.2.1, 8, .inl (g 14))
  | 15 => .inl (Γ.2.2.2.1, 150, .inl (g 15))
  | 16 => .inr (4, [.ref (ρ 17), .ref (ρ 18), .int (z 13), .int (z 14), .int (z 15)])
  | 17 => .inl (Γ.2.2.2.1, 8, .inl (g 17))
  | 18 => .inl (Γ.2.2.2.1, 150, .inl (g 18))
  | 19 => .inr (2, [.ref (ρ 7), .ref (ρ (nr_ix (z 16))), .ref (ρ (nr_ix (z 17)))])
  | 20 => .inr (6, [.ref (ρ 21), .ref (ρ 22), .int (z 20), .ref (ρ 23), .ref (ρ 24), .int (z 21), .ref (ρ 25), .ref (ρ 26), .int (z 22), .int (z 23), .int (z 24), .int (z 25), .ref (ρ 27), .ref (ρ 28), .int (z 26), .int (z 27), .int (z 28), .int (z 29), .int (z 30), .int (z 31), .int (z 32), .int (z 33), .int (z 34), .ref (ρ 29), .ref (ρ 30), .ref (ρ 31), .ref (ρ 32), .int (z 35), .int (z 36), .int (z 37), .ref (ρ 33), .int (z 38), .ref (ρ 34), .int (z 39), .int (z 40), .ref (ρ 35)])
  | 21 => .inl (Γ.2.2.2.1, 58, .inl (g 21))
  | 22 => .inl (Γ.2.2.2.1, 464, .inl (g 22))
  | 23 => .inl (Γ.2.2.2.1, 3, .inl (g 23))
  | 24 => .inl (Γ.2.2.2.1, 100, .inl (g 24))
  | 25 => .inl (Γ.2.2.2.1, 100, .inl (g 25))
  | 26 => .inl (Γ.2.2.2.1, 100, .inl (g 26))
  | 27 => .inl (Γ.2.2.2.1, 9, .inl (g 27))
  | 28 => .inl (Γ.2.2.2.1, 150, .inl (g 28))
  | 29 => .inl (Γ.2.2.2.1, 9, .inl (g 29))
  | 30 => .inl (Γ.2.2.2.1, 9, .inl (g 30))
  | 31 => .inl (Γ.2.2.2.1, 9, .inl (g 31))
  | 32 => .inl (Γ.2.2.2.2, 9, .inl (g 32))
  | 33 => .inl (Γ.2.2.2.1, 8, .inl (g 33))
  | 34 => .inl (Γ.2.2.2.1, 150, .inl (g 34))
  | 35 => .inl (Γ.2.2.2.1, 58, .inl (g 35))
  | _ => .inr (0, [])
def nr_ws (Γ : nr_M) (ρ : Nat → Nat) (z : Nat → Int32) (g : Nat → Nat → Int32) : va_W := (List.range 36).map (fun k => (ρ k, nr_hp Γ ρ z g k))
def nr_A (ρ : Nat → Nat) : Nat → Prop := fun q => ∃ k, k < 36 ∧ q = ρ k
def nr_inj (ρ : Nat → Nat) : Prop := ∀ i j, i < 36 → j < 36 → ρ i = ρ j → i = j
theorem nr_ws_get {Γ : nr_M} {ρ : Nat → Nat} {z : Nat → Int32} {g : Nat → Nat → Int32} {k : Nat} (hk : k < 36) : (nr_ws Γ ρ z g)[k]? = some (ρ k, nr_hp Γ ρ z g k) := by
  simp [nr_ws, hk]
theorem nr_ws_of {Γ : nr_M} {ρ : Nat → Nat} {z : Nat → Int32} {g : Nat → Nat → Int32} {k : Nat} {q : Nat × va_E} (hk : (nr_ws Γ ρ z g)[k]? = some q) : k < 36 ∧ q = (ρ k, nr_hp Γ ρ z g k) := by
  have hl : k < 36 := by
    have := (List.getElem?_eq_some_iff.mp hk).1
    simpa [nr_ws] using this
  exact ⟨hl, (Option.some.inj ((nr_ws_get hl).symm.trans hk)).symm⟩
theorem nr_D {Γ : nr_M} {ρ : Nat → Nat} {z : Nat → Int32} {g : Nat → Nat → Int32} (hi : nr_inj ρ) : va_D (nr_A ρ) (nr_ws Γ ρ z g) := by
  refine ⟨fun i j p q h1 h2 h3 => ?_, fun k q h1 => ?_⟩
  · obtain ⟨a1, b1⟩ := nr_ws_of h1
    obtain ⟨a2, b2⟩ := nr_ws_of h2
    subst b1; subst b2
    exact hi i j a1 a2 h3
  · obtain ⟨a1, b1⟩ := nr_ws_of h1
    subst b1
    exact ⟨k, a1, rfl⟩
theorem nr_ws_set {Γ : nr_M} {ρ : Nat → Nat} {z z' : Nat → Int32} {g g' : Nat → Nat → Int32} {k : Nat} {e : va_E} (hq : ∀ q, q < 36 → va_up (nr_hp Γ ρ z g) k e q = nr_hp Γ ρ z' g' q) : (nr_ws Γ ρ z g).set k (ρ k, e) = nr_ws Γ ρ z' g' := by
  refine List.ext_getElem? fun j => ?_
  by_cases hj : j < 36
  · rw [nr_ws_get hj, ← hq j hj]
    by_cases hk : j = k
    · subst hk
      rw [List.getElem?_set_self (by simpa [nr_ws] using hj)]
      simp [va_up]
    · rw [List.getElem?_set_ne (Ne.symm hk), nr_ws_get hj]
      simp [va_up, hk]
  · rw [List.getElem?_eq_none (by simp [nr_ws]; omega), List.getElem?_eq_none (by simp [nr_ws]; omega)]
/-- the three static tables -/
def nr_sn (k : Nat) : Nat := match k with | 40 => 4 | 41 => 8 | 42 => 3 | _ => 0
def nr_sf (k : Nat) : Nat → Int32 := match k with
  | 40 => fun j => [4, 3, 3, 9].getD j 0
  | 41 => fun j => [0, 2, 4, 8, 6, 10, 12, 14].getD j 0
  | _ => fun j => [0, 3, 1].getD j 0
def nr_sN (k : Nat) : String := match k with | 40 => "SETS_MOST" | 41 => "KEY_SETS" | _ => "CURED"
def nr_ST (ρ : Nat → Nat) (U : State) (H : Heap) : Prop := ∀ k, 40 ≤ k → k < 43 → va_Z "NightRounds" (nr_sN k) "[I" (.ref (ρ k)) (nr_A ρ) U H ∧ va_T .int (ρ k) (nr_sn k) (fun j => .int (nr_sf k j)) (nr_A ρ) U H
def nr_PW (Γ : nr_M) (ρ : Nat → Nat) (z : Nat → Int32) (g : Nat → Nat → Int32) (U : State) : Prop :=
  va_P (Γ.2.1, Γ.2.2.1) vwCl (nr_ws Γ ρ z g) U.heap ∧ va_K (Γ.2.1, Γ.2.2.1) vwCl [(Γ.2.2.2.1, .int), (Γ.2.2.2.2, .boolean)] U ∧ nr_inj ρ ∧ nr_ST ρ U U.heap
def nr_Bi (Γ : nr_M) (ρ : Nat → Nat) : nr_S → State → Prop := fun u U => nr_PW Γ ρ u.1 u.2 U
def nr_rm (d : Nat) : Room := { frames := d, cells := 0, slots := 0, locals := 100 * d }
def nr_wm (y : MethodName) (cc : ByteArray) (nL : Nat) (ret : Option FieldType) : List Cond := Cond.code y cc nL ret :: nr_tb
def nr_Si (Γ : nr_M) (ρ : Nat → Nat) (d : Nat) (y : MethodName) (cc : ByteArray) (nL : Nat) (ret : Option FieldType) (av : List Value) (z : Nat → Int32) (g : Nat → Nat → Int32) (post : Int32 → nr_S → Prop) : Prop :=
  Met Γ.1 y (nr_wm y cc nL ret) (nr_rm d) (va_Pc av (nr_PW Γ ρ z g)) (va_Qi post (nr_Bi Γ ρ) (nr_A ρ)) 0 0 (nr_A ρ)
def nr_Sv (Γ : nr_M) (ρ : Nat → Nat) (d : Nat) (y : MethodName) (cc : ByteArray) (nL : Nat) (ret : Option FieldType) (av : List Value) (z : Nat → Int32) (g : Nat → Nat → Int32) (post : nr_S → Prop) : Prop :=
  Met Γ.1 y (nr_wm y cc nL ret) (nr_rm d) (va_Pc av (nr_PW Γ ρ z g)) (va_Qv post (nr_Bi Γ ρ) (nr_A ρ)) 0 0 (nr_A ρ)
def nr_Sl (Γ : nr_M) (ρ : Nat → Nat) (d : Nat) (y : MethodName) (cc : ByteArray) (nL : Nat) (ret : Option FieldType) (av : List Value) (z : Nat → Int32) (g : Nat → Nat → Int32) (post : Int64 → nr_S → Prop) : Prop :=
  Met Γ.1 y (nr_wm y cc nL ret) (nr_rm d) (va_Pc av (nr_PW Γ ρ z g)) (va_Ql post (nr_Bi Γ ρ) (nr_A ρ)) 0 0 (nr_A ρ)
/-- what a method's walk knows -/
def nr_Cx (Γ : nr_M) (ρ : Nat → Nat) (X : nr_CX) (y : MethodName) (cc : ByteArray) (nL : Nat) (ret : Option FieldType) (d : Nat) : Prop :=
  X.1.tables.exec = Jvm.exec ∧ X.2.2.2.2.2.2.2.2.1.code = cc ∧ X.2.2.2.2.2.2.2.2.1.maxLocals = nL ∧ X.2.2.2.1.vm.findClass y.cls = some X.2.2.2.2.1.cls ∧ (∀ w ∈ nr_tb, w.before X.2.2.2.2.2.1 X.2.2.2.1 = true) ∧ va_K (Γ.2.1, Γ.2.2.1) vwCl [(Γ.2.2.2.1, .int), (Γ.2.2.2.2, .boolean)] X.2.2.2.1 ∧ nr_inj ρ ∧ nr_ST ρ X.2.2.2.1 X.2.2.2.1.heap ∧ (d ≤ X.2.2.1.frames ∧ 100 * d ≤ X.2.2.1.locals) ∧ (X.2.2.2.2.2.2.2.2.2.1 ≤ X.2.2.1.cells ∧ X.2.2.2.2.2.2.2.2.2.2 ≤ X.2.2.1.slots) ∧ X.2.2.2.2.2.2.2.1.sig.returnType = ret ∧ X.2.2.2.2.2.2.2.1.locks = false
def nr_W (Γ : nr_M) (X : nr_CX) (H : Heap) (locs : List Loc) (Q : State → Prop) (f : JFrame) : Prop := W X.1 Γ.1 X.2.1 X.2.2.1 X.2.2.2.1 X.2.2.2.2.1 X.2.2.2.2.2.1 X.2.2.2.2.2.2.1 X.2.2.2.2.2.2.2.1 X.2.2.2.2.2.2.2.2.1 H locs X.2.2.2.2.2.2.2.2.2.1 X.2.2.2.2.2.2.2.2.2.2 Q f
def nr_G (Γ : nr_M) (ρ : Nat → Nat) (X : nr_CX) (nL : Nat) (Q : State → Prop) (pc : Nat) (lv : List (Nat × Value)) (st : List Value) (z : Nat → Int32) (g : Nat → Nat → Int32) : Prop :=
  ∀ (H : Heap) (locs : List Loc) (ls : Array Slot), va_P (Γ.2.1, Γ.2.2.1) vwCl (nr_ws Γ ρ z g) H → va_S (nr_A ρ) X.2.2.2.1.heap H locs → lv_has ls nL lv → nr_W Γ X H locs Q (F0 X.2.2.2.2.1 pc ls st)
def nr_Qi (Γ : nr_M) (ρ : Nat → Nat) (X : nr_CX) (post : Int32 → nr_S → Prop) : State → Prop := MQ X.2.2.2.2.2.2.1 (va_Qi post (nr_Bi Γ ρ) (nr_A ρ)) X.2.2.2.2.2.1 X.2.2.2.1 X.2.2.2.2.2.2.2.2.2.1 X.2.2.2.2.2.2.2.2.2.2 (nr_A ρ)
def nr_Qv (Γ : nr_M) (ρ : Nat → Nat) (X : nr_CX) (post : nr_S → Prop) : State → Prop := MQ X.2.2.2.2.2.2.1 (va_Qv post (nr_Bi Γ ρ) (nr_A ρ)) X.2.2.2.2.2.1 X.2.2.2.1 X.2.2.2.2.2.2.2.2.2.1 X.2.2.2.2.2.2.2.2.2.2 (nr_A ρ)
def nr_Ql (Γ : nr_M) (ρ : Nat → Nat) (X : nr_CX) (post : Int64 → nr_S → Prop) : State → Prop := MQ X.2.2.2.2.2.2.1 (va_Ql post (nr_Bi Γ ρ) (nr_A ρ)) X.2.2.2.2.2.1 X.2.2.2.1 X.2.2.2.2.2.2.2.2.2.1 X.2.2.2.2.2.2.2.2.2.2 (nr_A ρ)
section
variable {Γ : nr_M} {ρ : Nat → Nat} {X : nr_CX} {y : MethodName} {cc : ByteArray} {nL : Nat} {ret : Option FieldType} {d : Nat} {Q : State → Prop} {pc n : Nat} {lv : List (Nat × Value)} {st : List Value} {z : Nat → Int32} {g : Nat → Nat → Int32}
theorem nr_ST_moved {u U : State} (hvm : u.vm.Alike U.vm) {H : Heap} (hs : nr_ST ρ u H) : nr_ST ρ U H := fun k h1 h2 => ⟨(hs k h1 h2).1.moved hvm, (hs k h1 h2).2.moved hvm⟩
theorem nr_ST_kept {U : State} {H H1 : Heap} (hs : nr_ST ρ U H) (hq : ∀ a : Nat, a < H.size → ¬ nr_A ρ a → H1[a]? = H[a]?) : nr_ST ρ U H1 := fun k h1 h2 => ⟨(hs k h1 h2).1.kept hq, (hs k h1 h2).2.kept hq⟩
/-- the world at a call or at the end -/
theorem nr_PW_of (hX : nr_Cx Γ ρ X y cc nL ret d) {H : Heap} {locs : List Loc} (hP : va_P (Γ.2.1, Γ.2.2.1) vwCl (nr_ws Γ ρ z g) H) (hS : va_S (nr_A ρ) X.2.2.2.1.heap H locs) {U : State} (hU : U.heap = H) (hA : X.2.2.2.1.vm.Alike U.vm) : nr_PW Γ ρ z g U := by
  obtain ⟨-, -, -, -, -, hK, hI, hst, -⟩ := hX
  refine ⟨by rw [hU]; exact hP, va_K.moved hA hK, hI, ?_⟩
  rw [hU]
  exact nr_ST_moved hA (nr_ST_kept hst hS.2.1)
theorem nr_blind {av : List Value} : FrameBlind (va_Pc av (nr_PW Γ ρ z g)) := by
  intro a U f mk hq
  obtain ⟨q0, q1, q2, q3, q4⟩ := hq
  exact ⟨q0, q1, va_K.moved (u := U) (U := U.calling f mk a) (Vm.Alike.refl U.vm) q2, q3, nr_ST_moved (u := U) (U := U.calling f mk a) (Vm.Alike.refl U.vm) q4⟩
theorem nr_body_i (hy : plainName y.cls = true) {av : List Value} {post : Int32 → nr_S → Prop} (hlen : (lg_sl av).length ≤ nL) (hlv : lv_args 0 av = lv)
    (body : ∀ X, nr_Cx Γ ρ X y cc nL ret d → nr_G Γ ρ X nL (nr_Qi Γ ρ X post) 0 lv [] z g) : nr_Si Γ ρ d y cc nL ret av z g post := by
  refine Met.ofW (cc := cc) (maxL := nL) (ret := ret) hy rfl ?_
  intro p e s m args below meth c s₁ B hml hv
  obtain ⟨rfl, hP, hK, hI, hst⟩ := hv
  have hts := atoms_spec (ws := nr_wm y cc nL ret) B.pre
  have hown : s.vm.findClass y.cls = some m.cls := findClass_of_methodNamed B.named
  have hX : nr_Cx Γ ρ (p, e, nr_rm d, s, m, av.toArray, below, meth, c, 0, 0) y cc nL ret d := ⟨B.exec, B.bytes, hml, hown, fun w hw => hts w (List.mem_cons_of_mem _ hw), hK, hI, hst, ⟨Nat.le_refl _, Nat.le_refl _⟩, ⟨Nat.le_refl _, Nat.le_refl _⟩, B.returns, B.notSynchronized⟩
  rw [lg_entry_eq]
  exact body _ hX s.heap [] _ hP va_S.rf (hlv ▸ lv_entry av hlen)
theorem nr_body_v (hy : plainName y.cls = true) {av : List Value} {post : nr_S → Prop} (hlen : (lg_sl av).length ≤ nL) (hlv : lv_args 0 av = lv)
    (body : ∀ X, nr_Cx Γ ρ X y cc nL ret d → nr_G Γ ρ X nL (nr_Qv Γ ρ X post) 0 lv [] z g) : nr_Sv Γ ρ d y cc nL ret av z g post := by
  refine Met.ofW (cc := cc) (maxL := nL) (ret := ret) hy rfl ?_
  intro p e s m args below meth c s₁ B hml hv
  obtain ⟨rfl, hP, hK, hI, hst⟩ := hv
  have hts := atoms_spec (ws := nr_wm y cc nL ret) B.pre
  have hown : s.vm.findClass y.cls = some m.cls := findClass_of_methodNamed B.named
  have hX : nr_Cx Γ ρ (p, e, nr_rm d, s, m, av.toArray, below, meth, c, 0, 0) y cc nL ret d := ⟨B.exec, B.bytes, hml, hown, fun w hw => hts w (List.mem_cons_of_mem _ hw), hK, hI, hst, ⟨Nat.le_refl _, Nat.le_refl _⟩, ⟨Nat.le_refl _, Nat.le_refl _⟩, B.returns, B.notSynchronized⟩
  rw [lg_entry_eq]
  exact body _ hX s.heap [] _ hP va_S.rf (hlv ▸ lv_entry av hlen)
theorem nr_body_l (hy : plainName y.cls = true) {av : List Value} {post : Int64 → nr_S → Prop} (hlen : (lg_sl av).length ≤ nL) (hlv : lv_args 0 av = lv)
    (body : ∀ X, nr_Cx Γ ρ X y cc nL ret d → nr_G Γ ρ X nL (nr_Ql Γ ρ X post) 0 lv [] z g) : nr_Sl Γ ρ d y cc nL ret av z g post := by
  refine Met.ofW (cc := cc) (maxL := nL) (ret := ret) hy rfl ?_
  intro p e s m args below meth c s₁ B hml hv
  obtain ⟨rfl, hP, hK, hI, hst⟩ := hv
  have hts := atoms_spec (ws := nr_wm y cc nL ret) B.pre
  have hown : s.vm.findClass y.cls = some m.cls := findClass_of_methodNamed B.named
  have hX : nr_Cx Γ ρ (p, e, nr_rm d, s, m, av.toArray, below, meth, c, 0, 0) y cc nL ret d := ⟨B.exec, B.bytes, hml, hown, fun w hw => hts w (List.mem_cons_of_mem _ hw), hK, hI, hst, ⟨Nat.le_refl _, Nat.le_refl _⟩, ⟨Nat.le_refl _, Nat.le_refl _⟩, B.returns, B.notSynchronized⟩
  rw [lg_entry_eq]
  exact body _ hX s.heap [] _ hP va_S.rf (hlv ▸ lv_entry av hlen)
/-- the ends -/
theorem G_iret (hX : nr_Cx Γ ρ X y cc nL ret d) {ty : FieldType} (hr : ret = some ty) {post : Int32 → nr_S → Prop} {r : Int32} (hd : decode cc pc = .ok (.ireturn, 1)) (hn : narrow ty (.int r) = .int r) (hp : post r (z, g)) : nr_G Γ ρ X nL (nr_Qi Γ ρ X post) pc lv [.int r] z g := by
  intro H locs ls hP hS hl
  have hX0 := hX
  obtain ⟨hx, hb, hml, hown, hts, hK, hI, hst, hR, hC, hret, hlk⟩ := hX
  exact W.zret (ty := ty) hx hb (hret.trans hr) hn (fun u hu hW => ⟨⟨r, (z, g), rfl, hp, nr_PW_of hX0 hP hS hu hW.alike⟩, by rw [hu]; exact hS.1, fun q h1 h2 => by rw [hu]; exact hS.2.1 q h1 h2⟩) hS.2.2 hd hlk
theorem G_vret (hX : nr_Cx Γ ρ X y cc nL none d) {post : nr_S → Prop} (hd : decode cc pc = .ok (.return_, 1)) (hp : post (z, g)) : nr_G Γ ρ X nL (nr_Qv Γ ρ X post) pc lv [] z g := by
  intro H locs ls hP hS hl
  have hX0 := hX
  obtain ⟨hx, hb, hml, hown, hts, hK, hI, hst, hR, hC, hret, hlk⟩ := hX
  exact W.vret hx hb hret (fun u hu hW => ⟨⟨(z, g), rfl, hp, nr_PW_of hX0 hP hS hu hW.alike⟩, by rw [hu]; exact hS.1, fun q h1 h2 => by rw [hu]; exact hS.2.1 q h1 h2⟩) hS.2.2 hd hlk
theorem G_lret (hX : nr_Cx Γ ρ X y cc nL (some .long) d) {post : Int64 → nr_S → Prop} {r : Int64} (hd : decode cc pc = .ok (.lreturn, 1)) (hp : post r (z, g)) : nr_G Γ ρ X nL (nr_Ql Γ ρ X post) pc lv [.long r] z g := by
  intro H locs ls hP hS hl
  have hX0 := hX
  obtain ⟨hx, hb, hml, hown, hts, hK, hI, hst, hR, hC, hret, hlk⟩ := hX
  exact W.lret hx hb hret (fun u hu hW => ⟨⟨r, (z, g), rfl, hp, nr_PW_of hX0 hP hS hu hW.alike⟩, by rw [hu]; exact hS.1, fun q h1 h2 => by rw [hu]; exact hS.2.1 q h1 h2⟩) hS.2.2 hd hlk
/-- locals -/
def nr_lg : List (Nat × Value) → Nat → Option Value
  | [], _ => none
  | q :: r, i => if q.1 = i then some q.2 else nr_lg r i
theorem nr_lg_in {i : Nat} {v : Value} : ∀ {l : List (Nat × Value)}, nr_lg l i = some v → (i, v) ∈ l
  | [], hq => by cases hq
  | q :: r, hq => by
    unfold nr_lg at hq
    by_cases hi : q.1 = i
    · rw [if_pos hi] at hq
      cases hq
      subst hi
      exact List.mem_cons_self
    · rw [if_neg hi] at hq
      exact List.mem_cons_of_mem _ (nr_lg_in hq)
theorem nr_at {ls : Array Slot} (hl : lv_has ls nL lv) {i : Nat} {v : Value} (hk : nr_lg lv i = some v) : ls[i]? = some (.val v) := hl.2.2 (i, v) (nr_lg_in hk)
theorem G_iconst (hX : nr_Cx Γ ρ X y cc nL ret d) {k : Int} {v : Int32} (hd : decode cc pc = .ok (.iconst k, 1)) (hv : Int32.ofInt k = v) (hn : pc + 1 = n) (kk : nr_G Γ ρ X nL Q n lv (.int v :: st) z g) : nr_G Γ ρ X nL Q pc lv st z g := by
  subst hn; intro H locs ls hP hS hl; exact lv_iconst hX.1 hX.2.1 hd hv (kk H locs ls hP hS hl)
theorem G_bipush (hX : nr_Cx Γ ρ X y cc nL ret d) {k : Int} {v : Int32} (hd : decode cc pc = .ok (.bipush k, 2)) (hv : (Int8.ofInt k).toInt32 = v) (hn : pc + 2 = n) (kk : nr_G Γ ρ X nL Q n lv (.int v :: st) z g) : nr_G Γ ρ X nL Q pc lv st z g := by
  subst hn; intro H locs ls hP hS hl; exact lv_bipush hX.1 hX.2.1 hd hv (kk H locs ls hP hS hl)
theorem G_sipush (hX : nr_Cx Γ ρ X y cc nL ret d) {k : Int} {v : Int32} (hd : decode cc pc = .ok (.sipush k, 3)) (hv : (Int16.ofInt k).toInt32 = v) (hn : pc + 3 = n) (kk : nr_G Γ ρ X nL Q n lv (.int v :: st) z g) : nr_G Γ ρ X nL Q pc lv st z g := by
  subst hn; intro H locs ls hP hS hl; exact lv_sipush hX.1 hX.2.1 hd hv (kk H locs ls hP hS hl)
theorem G_lconst (hX : nr_Cx Γ ρ X y cc nL ret d) {k : Fin 2} {v : Int64} (hd : decode cc pc = .ok (.lconst k, 1)) (hv : Int64.ofNat (k : Nat) = v) (hn : pc + 1 = n) (kk : nr_G Γ ρ X nL Q n lv (.long v :: st) z g) : nr_G Γ ρ X nL Q pc lv st z g := by
  subst hn; intro H locs ls hP hS hl; exact lv_lconst hX.1 hX.2.1 hd hv (kk H locs ls hP hS hl)
theorem G_ldc (hX : nr_Cx Γ ρ X y cc nL ret d) {i : Nat} {v : Int32} (hd : decode cc pc = .ok (.ldc i, 2)) (hc : Cond.constant y.cls i v ∈ nr_tb) (hn : pc + 2 = n) (kk : nr_G Γ ρ X nL Q n lv (.int v :: st) z g) : nr_G Γ ρ X nL Q pc lv st z g := by
  subst hn; intro H locs ls hP hS hl; exact lv_ldc hX.1 hX.2.1 hX.2.2.2.1 (hX.2.2.2.2.1 _ hc) hd (kk H locs ls hP hS hl)
theorem G_ldc2 (hX : nr_Cx Γ ρ X y cc nL ret d) {i : Nat} {v : Int64} (hd : decode cc pc = .ok (.ldc2_w i, 3)) (hc : Cond.constantLong y.cls i v ∈ nr_tb) (hn : pc + 3 = n) (kk : nr_G Γ ρ X nL Q n lv (.long v :: st) z g) : nr_G Γ ρ X nL Q pc lv st z g := by
  subst hn; intro H locs ls hP hS hl; exact lv_ldc2 hX.1 hX.2.1 hX.2.2.2.1 (hX.2.2.2.2.1 _ hc) hd (kk H locs ls hP hS hl)
theorem G_iload_n (hX : nr_Cx Γ ρ X y cc nL ret d) {k : Fin 4} {x : Int32} (hd : decode cc pc = .ok (.iload_n k, 1)) (hl0 : nr_lg lv (k : Nat) = some (.int x)) (hn : pc + 1 = n) (kk : nr_G Γ ρ X nL Q n lv (.int x :: st) z g) : nr_G Γ ρ X nL Q pc lv st z g := by
  subst hn; intro H locs ls hP hS hl; exact lv_iload_n hX.1 hX.2.1 hd rfl (nr_at hl hl0) (kk H locs ls hP hS hl)
theorem G_iload (hX : nr_Cx Γ ρ X y cc nL ret d) {k : Nat} {x : Int32} (hd : decode cc pc = .ok (.iload k, 2)) (hl0 : nr_lg lv k = some (.int x)) (hn : pc + 2 = n) (kk : nr_G Γ ρ X nL Q n lv (.int x :: st) z g) : nr_G Γ ρ X nL Q pc lv st z g := by
  subst hn; intro H locs ls hP hS hl; exact lv_iload hX.1 hX.2.1 hd (nr_at hl hl0) (kk H locs ls hP hS hl)
theorem G_lload_n (hX : nr_Cx Γ ρ X y cc nL ret d) {k : Fin 4} {x : Int64} (hd : decode cc pc = .ok (.lload_n k, 1)) (hl0 : nr_lg lv (k : Nat) = some (.long x)) (hn : pc + 1 = n) (kk : nr_G Γ ρ X nL Q n lv (.long x :: st) z g) : nr_G Γ ρ X nL Q pc lv st z g := by
  subst hn; intro H locs ls hP hS hl; exact lv_lload_n hX.1 hX.2.1 hd rfl (nr_at hl hl0) (kk H locs ls hP hS hl)
theorem G_lload (hX : nr_Cx Γ ρ X y cc nL ret d) {k : Nat} {x : Int64} (hd : decode cc pc = .ok (.lload k, 2)) (hl0 : nr_lg lv k = some (.long x)) (hn : pc + 2 = n) (kk : nr_G Γ ρ X nL Q n lv (.long x :: st) z g) : nr_G Γ ρ X nL Q pc lv st z g := by
  subst hn; intro H locs ls hP hS hl; exact lv_lload hX.1 hX.2.1 hd (nr_at hl hl0) (kk H locs ls hP hS hl)
theorem G_aload_n (hX : nr_Cx Γ ρ X y cc nL ret d) {k : Fin 4} {x : Nat} (hd : decode cc pc = .ok (.aload_n k, 1)) (hl0 : nr_lg lv (k : Nat) = some (.ref x)) (hn : pc + 1 = n) (kk : nr_G Γ ρ X nL Q n lv (.ref x :: st) z g) : nr_G Γ ρ X nL Q pc lv st z g := by
  subst hn; intro H locs ls hP hS hl; exact lv_aload_n hX.1 hX.2.1 hd rfl (nr_at hl hl0) (kk H locs ls hP hS hl)
def nr_s1 (lv : List (Nat × Value)) (i : Nat) (v : Value) : List (Nat × Value) := (i, v) :: lv.filter (fun q => !(q.1 == i) && !(q.1 + 1 == i && q.2.category == 2))
def nr_s2 (lv : List (Nat × Value)) (i : Nat) (v : Value) : List (Nat × Value) := (i, v) :: lv.filter (fun q => !(q.1 == i) && (!(q.1 == i + 1) && !(q.1 + 1 == i && q.2.category == 2)))
theorem G_istore_n (hX : nr_Cx Γ ρ X y cc nL ret d) {k : Fin 4} {x : Int32} {lv' : List (Nat × Value)} (hd : decode cc pc = .ok (.istore_n k, 1)) (hk : (k : Nat) < nL) (hl0 : nr_s1 lv (k : Nat) (.int x) = lv') (hn : pc + 1 = n) (kk : nr_G Γ ρ X nL Q n lv' st z g) : nr_G Γ ρ X nL Q pc lv (.int x :: st) z g := by
  subst hn; intro H locs ls hP hS hl; exact lv_istore_n hX.1 hX.2.1 hd rfl hl hk hl0 (fun ls hl => kk H locs ls hP hS hl)
theorem G_istore (hX : nr_Cx Γ ρ X y cc nL ret d) {k : Nat} {x : Int32} {lv' : List (Nat × Value)} (hd : decode cc pc = .ok (.istore k, 2)) (hk : k < nL) (hl0 : nr_s1 lv k (.int x) = lv') (hn : pc + 2 = n) (kk : nr_G Γ ρ X nL Q n lv' st z g) : nr_G Γ ρ X nL Q pc lv (.int x :: st) z g := by
  subst hn; intro H locs ls hP hS hl; exact lv_istore hX.1 hX.2.1 hd hl hk hl0 (fun ls hl => kk H locs ls hP hS hl)
theorem G_lstore_n (hX : nr_Cx Γ ρ X y cc nL ret d) {k : Fin 4} {x : Int64} {lv' : List (Nat × Value)} (hd : decode cc pc = .ok (.lstore_n k, 1)) (hk : (k : Nat) + 1 < nL) (hl0 : nr_s2 lv (k : Nat) (.long x) = lv') (hn : pc + 1 = n) (kk : nr_G Γ ρ X nL Q n lv' st z g) : nr_G Γ ρ X nL Q pc lv (.long x :: st) z g := by
  subst hn; intro H locs ls hP hS hl; exact lv_lstore_n hX.1 hX.2.1 hd rfl hl hk hl0 (fun ls hl => kk H locs ls hP hS hl)
theorem G_iinc (hX : nr_Cx Γ ρ X y cc nL ret d) {i : Nat} {k : Int} {x v : Int32} {lv' : List (Nat × Value)} (hd : decode cc pc = .ok (.iinc i k, 3)) (hl0 : nr_lg lv i = some (.int x)) (hv : x + Int32.ofInt k = v) (hi : i < nL) (hl1 : nr_s1 lv i (.int v) = lv') (hn : pc + 3 = n) (kk : nr_G Γ ρ X nL Q n lv' st z g) : nr_G Γ ρ X nL Q pc lv st z g := by
  subst hn; intro H locs ls hP hS hl
  obtain ⟨j, hj⟩ := List.getElem?_of_mem (nr_lg_in hl0)
  exact lv_iinc hX.1 hX.2.1 hd hl hj hv hi hl1 (fun ls hl => kk H locs ls hP hS hl)
theorem G_iadd (hX : nr_Cx Γ ρ X y cc nL ret d) {a b : Int32} (hd : decode cc pc = .ok (.iadd, 1)) (hn : pc + 1 = n) (kk : nr_G Γ ρ X nL Q n lv (.int (a + b) :: st) z g) : nr_G Γ ρ X nL Q pc lv (.int b :: .int a :: st) z g := by
  subst hn; intro H locs ls hP hS hl; exact lv_iadd hX.1 hX.2.1 hd (kk H locs ls hP hS hl)
theorem G_isub (hX : nr_Cx Γ ρ X y cc nL ret d) {a b : Int32} (hd : decode cc pc = .ok (.isub, 1)) (hn : pc + 1 = n) (kk : nr_G Γ ρ X nL Q n lv (.int (a - b) :: st) z g) : nr_G Γ ρ X nL Q pc lv (.int b :: .int a :: st) z g := by
  subst hn; intro H locs ls hP hS hl; exact lv_isub hX.1 hX.2.1 hd (kk H locs ls hP hS hl)
theorem G_imul (hX : nr_Cx Γ ρ X y cc nL ret d) {a b : Int32} (hd : decode cc pc = .ok (.imul, 1)) (hn : pc + 1 = n) (kk : nr_G Γ ρ X nL Q n lv (.int (a * b) :: st) z g) : nr_G Γ ρ X nL Q pc lv (.int b :: .int a :: st) z g := by
  subst hn; intro H locs ls hP hS hl; exact lv_imul hX.1 hX.2.1 hd (kk H locs ls hP hS hl)
theorem G_iand (hX : nr_Cx Γ ρ X y cc nL ret d) {a b : Int32} (hd : decode cc pc = .ok (.iand, 1)) (hn : pc + 1 = n) (kk : nr_G Γ ρ X nL Q n lv (.int (a &&& b) :: st) z g) : nr_G Γ ρ X nL Q pc lv (.int b :: .int a :: st) z g := by
  subst hn; intro H locs ls hP hS hl; exact lv_iand hX.1 hX.2.1 hd (kk H locs ls hP hS hl)
theorem G_ior (hX : nr_Cx Γ ρ X y cc nL ret d) {a b : Int32} (hd : decode cc pc = .ok (.ior, 1)) (hn : pc + 1 = n) (kk : nr_G Γ ρ X nL Q n lv (.int (a ||| b) :: st) z g) : nr_G Γ ρ X nL Q pc lv (.int b :: .int a :: st) z g := by
  subst hn; intro H locs ls hP hS hl; exact lv_ior hX.1 hX.2.1 hd (kk H locs ls hP hS hl)
end

section
variable {Γ : nr_M} {ρ : Nat → Nat} {X : nr_CX} {y : MethodName} {cc : ByteArray} {nL : Nat} {ret : Option FieldType} {d : Nat} {Q : State → Prop} {pc n : Nat} {lv : List (Nat × Value)} {st : List Value} {z : Nat → Int32} {g : Nat → Nat → Int32}

theorem G_irem (hX : nr_Cx Γ ρ X y cc nL ret d) {a b : Int32} (hd : decode cc pc = .ok (.irem, 1)) (hne : ¬ b = 0) (hn : pc + 1 = n) (kk : nr_G Γ ρ X nL Q n lv (.int (a - a / b * b) :: st) z g) : nr_G Γ ρ X nL Q pc lv (.int b :: .int a :: st) z g := by
  subst hn; intro H locs ls hP hS hl; exact lv_irem hX.1 hX.2.1 hd hne (kk H locs ls hP hS hl)

theorem G_ishl (hX : nr_Cx Γ ρ X y cc nL ret d) {a b : Int32} (hd : decode cc pc = .ok (.ishl, 1))  (hn : pc + 1 = n) (kk : nr_G Γ ρ X nL Q n lv (.int (a <<< (b &&& 31)) :: st) z g) : nr_G Γ ρ X nL Q pc lv (.int b :: .int a :: st) z g := by
  subst hn; intro H locs ls hP hS hl; exact lv_ishl hX.1 hX.2.1 hd (kk H locs ls hP hS hl)

theorem G_ishr (hX : nr_Cx Γ ρ X y cc nL ret d) {a b : Int32} (hd : decode cc pc = .ok (.ishr, 1))  (hn : pc + 1 = n) (kk : nr_G Γ ρ X nL Q n lv (.int (a >>> (b &&& 31)) :: st) z g) : nr_G Γ ρ X nL Q pc lv (.int b :: .int a :: st) z g := by
  subst hn; intro H locs ls hP hS hl; exact lv_ishr hX.1 hX.2.1 hd (kk H locs ls hP hS hl)

theorem G_ladd (hX : nr_Cx Γ ρ X y cc nL ret d) {a b : Int64} (hd : decode cc pc = .ok (.ladd, 1))  (hn : pc + 1 = n) (kk : nr_G Γ ρ X nL Q n lv (.long (a + b) :: st) z g) : nr_G Γ ρ X nL Q pc lv (.long b :: .long a :: st) z g := by
  subst hn; intro H locs ls hP hS hl; exact lv_ladd hX.1 hX.2.1 hd (kk H locs ls hP hS hl)

theorem G_lmul (hX : nr_Cx Γ ρ X y cc nL ret d) {a b : Int64} (hd : decode cc pc = .ok (.lmul, 1))  (hn : pc + 1 = n) (kk : nr_G Γ ρ X nL Q n lv (.long (a * b) :: st) z g) : nr_G Γ ρ X nL Q pc lv (.long b :: .long a :: st) z g := by
  subst hn; intro H locs ls hP hS hl; exact lv_lmul hX.1 hX.2.1 hd (kk H locs ls hP hS hl)

theorem G_ldiv (hX : nr_Cx Γ ρ X y cc nL ret d) {a b : Int64} (hd : decode cc pc = .ok (.ldiv, 1)) (hne : ¬ b = 0) (hn : pc + 1 = n) (kk : nr_G Γ ρ X nL Q n lv (.long (a / b) :: st) z g) : nr_G Γ ρ X nL Q pc lv (.long b :: .long a :: st) z g := by
  subst hn; intro H locs ls hP hS hl; exact lv_ldiv hX.1 hX.2.1 hd hne (kk H locs ls hP hS hl)

theorem G_lrem (hX : nr_Cx Γ ρ X y cc nL ret d) {a b : Int64} (hd : decode cc pc = .ok (.lrem, 1)) (hne : ¬ b = 0) (hn : pc + 1 = n) (kk : nr_G Γ ρ X nL Q n lv (.long (a - a / b * b) :: st) z g) : nr_G Γ ρ X nL Q pc lv (.long b :: .long a :: st) z g := by
  subst hn; intro H locs ls hP hS hl; exact lv_lrem hX.1 hX.2.1 hd hne (kk H locs ls hP hS hl)

theorem G_i2l (hX : nr_Cx Γ ρ X y cc nL ret d) {a : Int32} (hd : decode cc pc = .ok (.i2l, 1))  (hn : pc + 1 = n) (kk : nr_G Γ ρ X nL Q n lv (.long a.toInt64 :: st) z g) : nr_G Γ ρ X nL Q pc lv (.int a :: st) z g := by
  subst hn; intro H locs ls hP hS hl; exact lv_i2l hX.1 hX.2.1 hd rfl (kk H locs ls hP hS hl)

theorem G_l2i (hX : nr_Cx Γ ρ X y cc nL ret d) {a : Int64} (hd : decode cc pc = .ok (.l2i, 1))  (hn : pc + 1 = n) (kk : nr_G Γ ρ X nL Q n lv (.int a.toInt32 :: st) z g) : nr_G Γ ρ X nL Q pc lv (.long a :: st) z g := by
  subst hn; intro H locs ls hP hS hl; exact lv_l2i hX.1 hX.2.1 hd rfl (kk H locs ls hP hS hl)

theorem G_lcmp (hX : nr_Cx Γ ρ X y cc nL ret d) {a b : Int64} (hd : decode cc pc = .ok (.lcmp, 1))  (hn : pc + 1 = n) (kk : nr_G Γ ρ X nL Q n lv (.int (lg_cmp a b) :: st) z g) : nr_G Γ ρ X nL Q pc lv (.long b :: .long a :: st) z g := by
  subst hn; intro H locs ls hP hS hl; exact W.lcmp hX.1 hX.2.1 hd (kk H locs ls hP hS hl)

theorem G_dup (hX : nr_Cx Γ ρ X y cc nL ret d) {v : Value} (hd : decode cc pc = .ok (.dup, 1)) (hv : v.category = 1) (hn : pc + 1 = n) (kk : nr_G Γ ρ X nL Q n lv (v :: v :: st) z g) : nr_G Γ ρ X nL Q pc lv (v :: st) z g := by
  subst hn; intro H locs ls hP hS hl; exact lv_dup hX.1 hX.2.1 hd hv (kk H locs ls hP hS hl)

theorem G_dup2 (hX : nr_Cx Γ ρ X y cc nL ret d) {v w : Value} (hd : decode cc pc = .ok (.dup2, 1)) (hv : v.category = 1) (hw : w.category = 1) (hn : pc + 1 = n) (kk : nr_G Γ ρ X nL Q n lv (v :: w :: v :: w :: st) z g) : nr_G Γ ρ X nL Q pc lv (v :: w :: st) z g := by
  subst hn; intro H locs ls hP hS hl; exact lv_dup2_11 hX.1 hX.2.1 hd hv hw (kk H locs ls hP hS hl)

theorem G_pop (hX : nr_Cx Γ ρ X y cc nL ret d) {v : Value} (hd : decode cc pc = .ok (.pop, 1)) (hv : v.category = 1) (hn : pc + 1 = n) (kk : nr_G Γ ρ X nL Q n lv (st) z g) : nr_G Γ ρ X nL Q pc lv (v :: st) z g := by
  subst hn; intro H locs ls hP hS hl; exact lv_pop hX.1 hX.2.1 hd hv (kk H locs ls hP hS hl)

theorem G_if_eq (hX : nr_Cx Γ ρ X y cc nL ret d) {a : Int32} {off : Int} {tg : Nat} (hd : decode cc pc = .ok (.ifCond .eq off, 3)) (ht : (pc : Int) + off = (tg : Int)) (hn : pc + 3 = n) (kt : a = 0 → nr_G Γ ρ X nL Q tg lv st z g) (kf : ¬ (a = 0) → nr_G Γ ρ X nL Q n lv st z g) : nr_G Γ ρ X nL Q pc lv (.int a :: st) z g := by
  subst hn; intro H locs ls hP hS hl; exact lv_if_eq hX.1 hX.2.1 hd ht (fun q => kt q H locs ls hP hS hl) (fun q => kf q H locs ls hP hS hl)

theorem G_icmp_eq (hX : nr_Cx Γ ρ X y cc nL ret d) {a b : Int32} {off : Int} {tg : Nat} (hd : decode cc pc = .ok (.if_icmp .eq off, 3)) (ht : (pc : Int) + off = (tg : Int)) (hn : pc + 3 = n) (kt : a = b → nr_G Γ ρ X nL Q tg lv st z g) (kf : ¬ (a = b) → nr_G Γ ρ X nL Q n lv st z g) : nr_G Γ ρ X nL Q pc lv (.int b :: .int a :: st) z g := by
  subst hn; intro H locs ls hP hS hl; exact lv_icmp_eq hX.1 hX.2.1 hd ht (fun q => kt q H locs ls hP hS hl) (fun q => kf q H locs ls hP hS hl)

theorem G_if_ne (hX : nr_Cx Γ ρ X y cc nL ret d) {a : Int32} {off : Int} {tg : Nat} (hd : decode cc pc = .ok (.ifCond .ne off, 3)) (ht : (pc : Int) + off = (tg : Int)) (hn : pc + 3 = n) (kt : ¬ (a = 0) → nr_G Γ ρ X nL Q tg lv st z g) (kf : a = 0 → nr_G Γ ρ X nL Q n lv st z g) : nr_G Γ ρ X nL Q pc lv (.int a :: st) z g := by
  subst hn; intro H locs ls hP hS hl; exact lv_if_ne hX.1 hX.2.1 hd ht (fun q => kt q H locs ls hP hS hl) (fun q => kf q H locs ls hP hS hl)

theorem G_icmp_ne (hX : nr_Cx Γ ρ X y cc nL ret d) {a b : Int32} {off : Int} {tg : Nat} (hd : decode cc pc = .ok (.if_icmp .ne off, 3)) (ht : (pc : Int) + off = (tg : Int)) (hn : pc + 3 = n) (kt : ¬ (a = b) → nr_G Γ ρ X nL Q tg lv st z g) (kf : a = b → nr_G Γ ρ X nL Q n lv st z g) : nr_G Γ ρ X nL Q pc lv (.int b :: .int a :: st) z g := by
  subst hn; intro H locs ls hP hS hl; exact lv_icmp_ne hX.1 hX.2.1 hd ht (fun q => kt q H locs ls hP hS hl) (fun q => kf q H locs ls hP hS hl)

theorem G_if_lt (hX : nr_Cx Γ ρ X y cc nL ret d) {a : Int32} {off : Int} {tg : Nat} (hd : decode cc pc = .ok (.ifCond .lt off, 3)) (ht : (pc : Int) + off = (tg : Int)) (hn : pc + 3 = n) (kt : a < 0 → nr_G Γ ρ X nL Q tg lv st z g) (kf : ¬ (a < 0) → nr_G Γ ρ X nL Q n lv st z g) : nr_G Γ ρ X nL Q pc lv (.int a :: st) z g := by
  subst hn; intro H locs ls hP hS hl; exact lv_if_lt hX.1 hX.2.1 hd ht (fun q => kt q H locs ls hP hS hl) (fun q => kf q H locs ls hP hS hl)

theorem G_icmp_lt (hX : nr_Cx Γ ρ X y cc nL ret d) {a b : Int32} {off : Int} {tg : Nat} (hd : decode cc pc = .ok (.if_icmp .lt off, 3)) (ht : (pc : Int) + off = (tg : Int)) (hn : pc + 3 = n) (kt : a < b → nr_G Γ ρ X nL Q tg lv st z g) (kf : ¬ (a < b) → nr_G Γ ρ X nL Q n lv st z g) : nr_G Γ ρ X nL Q pc lv (.int b :: .int a :: st) z g := by
  subst hn; intro H locs ls hP hS hl; exact lv_icmp_lt hX.1 hX.2.1 hd ht (fun q => kt q H locs ls hP hS hl) (fun q => kf q H locs ls hP hS hl)

theorem G_if_ge (hX : nr_Cx Γ ρ X y cc nL ret d) {a : Int32} {off : Int} {tg : Nat} (hd : decode cc pc = .ok (.ifCond .ge off, 3)) (ht : (pc : Int) + off = (tg : Int)) (hn : pc + 3 = n) (kt : 0 ≤ a → nr_G Γ ρ X nL Q tg lv st z g) (kf : ¬ (0 ≤ a) → nr_G Γ ρ X nL Q n lv st z g) : nr_G Γ ρ X nL Q pc lv (.int a :: st) z g := by
  subst hn; intro H locs ls hP hS hl; exact lv_if_ge hX.1 hX.2.1 hd ht (fun q => kt q H locs ls hP hS hl) (fun q => kf q H locs ls hP hS hl)

theorem G_icmp_ge (hX : nr_Cx Γ ρ X y cc nL ret d) {a b : Int32} {off : Int} {tg : Nat} (hd : decode cc pc = .ok (.if_icmp .ge off, 3)) (ht : (pc : Int) + off = (tg : Int)) (hn : pc + 3 = n) (kt : b ≤ a → nr_G Γ ρ X nL Q tg lv st z g) (kf : ¬ (b ≤ a) → nr_G Γ ρ X nL Q n lv st z g) : nr_G Γ ρ X nL Q pc lv (.int b :: .int a :: st) z g := by
  subst hn; intro H locs ls hP hS hl; exact lv_icmp_ge hX.1 hX.2.1 hd ht (fun q => kt q H locs ls hP hS hl) (fun q => kf q H locs ls hP hS hl)

theorem G_if_gt (hX : nr_Cx Γ ρ X y cc nL ret d) {a : Int32} {off : Int} {tg : Nat} (hd : decode cc pc = .ok (.ifCond .gt off, 3)) (ht : (pc : Int) + off = (tg : Int)) (hn : pc + 3 = n) (kt : 0 < a → nr_G Γ ρ X nL Q tg lv st z g) (kf : ¬ (0 < a) → nr_G Γ ρ X nL Q n lv st z g) : nr_G Γ ρ X nL Q pc lv (.int a :: st) z g := by
  subst hn; intro H locs ls hP hS hl; exact lv_if_gt hX.1 hX.2.1 hd ht (fun q => kt q H locs ls hP hS hl) (fun q => kf q H locs ls hP hS hl)

theorem G_icmp_gt (hX : nr_Cx Γ ρ X y cc nL ret d) {a b : Int32} {off : Int} {tg : Nat} (hd : decode cc pc = .ok (.if_icmp .gt off, 3)) (ht : (pc : Int) + off = (tg : Int)) (hn : pc + 3 = n) (kt : b < a → nr_G Γ ρ X nL Q tg lv st z g) (kf : ¬ (b < a) → nr_G Γ ρ X nL Q n lv st z g) : nr_G Γ ρ X nL Q pc lv (.int b :: .int a :: st) z g := by
  subst hn; intro H locs ls hP hS hl; exact lv_icmp_gt hX.1 hX.2.1 hd ht (fun q => kt q H locs ls hP hS hl) (fun q => kf q H locs ls hP hS hl)

theorem G_if_le (hX : nr_Cx Γ ρ X y cc nL ret d) {a : Int32} {off : Int} {tg : Nat} (hd : decode cc pc = .ok (.ifCond .le off, 3)) (ht : (pc : Int) + off = (tg : Int)) (hn : pc + 3 = n) (kt : a ≤ 0 → nr_G Γ ρ X nL Q tg lv st z g) (kf : ¬ (a ≤ 0) → nr_G Γ ρ X nL Q n lv st z g) : nr_G Γ ρ X nL Q pc lv (.int a :: st) z g := by
  subst hn; intro H locs ls hP hS hl; exact lv_if_le hX.1 hX.2.1 hd ht (fun q => kt q H locs ls hP hS hl) (fun q => kf q H locs ls hP hS hl)

theorem G_icmp_le (hX : nr_Cx Γ ρ X y cc nL ret d) {a b : Int32} {off : Int} {tg : Nat} (hd : decode cc pc = .ok (.if_icmp .le off, 3)) (ht : (pc : Int) + off = (tg : Int)) (hn : pc + 3 = n) (kt : a ≤ b → nr_G Γ ρ X nL Q tg lv st z g) (kf : ¬ (a ≤ b) → nr_G Γ ρ X nL Q n lv st z g) : nr_G Γ ρ X nL Q pc lv (.int b :: .int a :: st) z g := by
  subst hn; intro H locs ls hP hS hl; exact lv_icmp_le hX.1 hX.2.1 hd ht (fun q => kt q H locs ls hP hS hl) (fun q => kf q H locs ls hP hS hl)

theorem G_goto (hX : nr_Cx Γ ρ X y cc nL ret d) {off : Int} {tg : Nat} (hd : decode cc pc = .ok (.goto off, 3)) (ht : (pc : Int) + off = (tg : Int)) (kk : nr_G Γ ρ X nL Q tg lv st z g) : nr_G Γ ρ X nL Q pc lv st z g := by
  intro H locs ls hP hS hl; exact lv_goto hX.1 hX.2.1 hd ht (kk H locs ls hP hS hl)

theorem G_lookup (hX : nr_Cx Γ ρ X y cc nL ret d) {dflt : Int} {ps : Array (Int × Int)} {len : Nat} {a : Int32} {off : Int} {tg : Nat} (hd : decode cc pc = .ok (.lookupswitch dflt ps, len)) (hp : (ps.toList.zip (ps.toList.drop 1)).all (fun (a, next) => a.1 < next.1) = true) (ho : Op.lookupswitch.offset ps.toList dflt a.toInt = off) (ht : (pc : Int) + off = (tg : Int)) (kk : nr_G Γ ρ X nL Q tg lv st z g) : nr_G Γ ρ X nL Q pc lv (.int a :: st) z g := by
  intro H locs ls hP hS hl; exact lv_lookup hX.1 hX.2.1 hd hp ho ht (kk H locs ls hP hS hl)
theorem G_tabOut (hX : nr_Cx Γ ρ X y cc nL ret d) {dflt lo hi : Int} {offs : Array Int} {len : Nat} {a : Int32} {tg : Nat} (hd : decode cc pc = .ok (.tableswitch dflt lo hi offs, len)) (ha : a.toInt < lo ∨ hi < a.toInt) (ht : (pc : Int) + dflt = (tg : Int)) (kk : nr_G Γ ρ X nL Q tg lv st z g) : nr_G Γ ρ X nL Q pc lv (.int a :: st) z g := by
  intro H locs ls hP hS hl; exact lv_tableOut hX.1 hX.2.1 hd ha ht (kk H locs ls hP hS hl)
theorem G_tabIn (hX : nr_Cx Γ ρ X y cc nL ret d) {dflt lo hi : Int} {offs : Array Int} {len : Nat} {a : Int32} {off : Int} {tg : Nat} (hd : decode cc pc = .ok (.tableswitch dflt lo hi offs, len)) (h1 : ¬ a.toInt < lo) (h2 : ¬ hi < a.toInt) (ho : offs[(a.toInt - lo).toNat]? = some off) (ht : (pc : Int) + off = (tg : Int)) (kk : nr_G Γ ρ X nL Q tg lv st z g) : nr_G Γ ρ X nL Q pc lv (.int a :: st) z g := by
  intro H locs ls hP hS hl; exact lv_tableIn hX.1 hX.2.1 hd h1 h2 ho ht (kk H locs ls hP hS hl)

/-- a field's link: own class's pool place idx names field j of class ci -/
def nr_FL (own : String) (idx ci j : Nat) : Prop := ∃ (C : String) (T : u_T) (N : Nat), vwCl[ci]? = some (C, T, N) ∧ (∀ w ∈ u_ws C T N, w ∈ nr_tb) ∧ j < N ∧ (Cond.fieldLink own idx (T j).1 (T j).2.1 (T j).2.2.1 ∈ nr_tb ∨ ∃ host, Cond.fieldLinkNest own idx (T j).1 (T j).2.1 (T j).2.2.1 host ∈ nr_tb)
def nr_GT (own : String) (idx k : Nat) (F : (Nat → Nat) → (Nat → Int32) → Value) : Prop := k < 36 ∧ ∃ (ci j : Nat), nr_FL own idx ci j ∧ ∀ (Γ : nr_M) (ρ : Nat → Nat) (z : Nat → Int32) (g : Nat → Nat → Int32), ∃ fs : List Value, nr_hp Γ ρ z g k = .inr (ci, fs) ∧ fs[j]? = some (F ρ z)
theorem G_getF (hX : nr_Cx Γ ρ X y cc nL ret d) {idx k : Nat} {F : (Nat → Nat) → (Nat → Int32) → Value} (hd : decode cc pc = .ok (.getfield idx, 3)) (hT : nr_GT y.cls idx k F) (hn : pc + 3 = n) (kk : nr_G Γ ρ X nL Q n lv (F ρ z :: st) z g) : nr_G Γ ρ X nL Q pc lv (.ref (ρ k) :: st) z g := by
  subst hn; intro H locs ls hP hS hl
  obtain ⟨hk, ci, j, ⟨C, T, N, hc, hin, hj, hlk⟩, hF⟩ := hT
  obtain ⟨fs, he, hv⟩ := hF Γ ρ z g
  have hws := nr_ws_get (Γ := Γ) (ρ := ρ) (z := z) (g := g) hk
  rw [he] at hws
  rcases hlk with hlk | ⟨host, hlk⟩
  · exact va_get hX.1 hX.2.1 hX.2.2.2.2.1 hin hX.2.2.2.1 hX.2.2.2.2.2.1 hP k hws hc j hj (hX.2.2.2.2.1 _ hlk) (fun _ q => q) hv hd (kk H locs ls hP hS hl)
  · exact va_getN hX.1 hX.2.1 hX.2.2.2.2.1 hin hX.2.2.2.1 hX.2.2.2.2.2.1 hP k hws hc j hj (hX.2.2.2.2.1 _ hlk) (fun _ q => q) hv hd (kk H locs ls hP hS hl)

theorem G_geti (hX : nr_Cx Γ ρ X y cc nL ret d) {idx k i : Nat} (hd : decode cc pc = .ok (.getfield idx, 3)) (hT : nr_GT y.cls idx k (fun _ z => .int (z i))) (hn : pc + 3 = n) (kk : nr_G Γ ρ X nL Q n lv (.int (z i) :: st) z g) : nr_G Γ ρ X nL Q pc lv (.ref (ρ k) :: st) z g := G_getF hX hd hT hn kk

theorem G_getr (hX : nr_Cx Γ ρ X y cc nL ret d) {idx k i : Nat} (hd : decode cc pc = .ok (.getfield idx, 3)) (hT : nr_GT y.cls idx k (fun ρ _ => .ref (ρ i))) (hn : pc + 3 = n) (kk : nr_G Γ ρ X nL Q n lv (.ref (ρ i) :: st) z g) : nr_G Γ ρ X nL Q pc lv (.ref (ρ k) :: st) z g := G_getF hX hd hT hn kk

theorem G_geth (hX : nr_Cx Γ ρ X y cc nL ret d) {idx k : Nat} (hd : decode cc pc = .ok (.getfield idx, 3)) (hT : nr_GT y.cls idx k (fun ρ z => .ref (ρ (nr_ix (z 16))))) (hn : pc + 3 = n) (kk : nr_G Γ ρ X nL Q n lv (.ref (ρ (nr_ix (z 16))) :: st) z g) : nr_G Γ ρ X nL Q pc lv (.ref (ρ k) :: st) z g := G_getF hX hd hT hn kk

theorem G_gett (hX : nr_Cx Γ ρ X y cc nL ret d) {idx k : Nat} (hd : decode cc pc = .ok (.getfield idx, 3)) (hT : nr_GT y.cls idx k (fun ρ z => .ref (ρ (nr_ix (z 17))))) (hn : pc + 3 = n) (kk : nr_G Γ ρ X nL Q n lv (.ref (ρ (nr_ix (z 17))) :: st) z g) : nr_G Γ ρ X nL Q pc lv (.ref (ρ k) :: st) z g := G_getF hX hd hT hn kk

def nr_FP (own : String) (idx ci j : Nat) (ty : FieldType) : Prop := ∃ (C : String) (T : u_T) (N : Nat) (ty0 : Nat → FieldType), vwCl[ci]? = some (C, T, N) ∧ (∀ w ∈ u_ws C T N, w ∈ nr_tb) ∧ (∀ k, k < N → parseFieldDescriptor (T k).2.2.1 = some (ty0 k)) ∧ (∀ a, a < N → ∀ b, b < N → a ≠ b → (T a).2.1 ≠ (T b).2.1) ∧ j < N ∧ Cond.fieldLink own idx (T j).1 (T j).2.1 (T j).2.2.1 ∈ nr_tb ∧ (T j).2.2.2 = false ∧ parseFieldDescriptor (T j).2.2.1 = some ty
/-- scalar i is field j of object k -/
def nr_PT (own : String) (idx k i : Nat) (ty : FieldType) : Prop := k < 36 ∧ ∃ (ci j : Nat), nr_FP own idx ci j ty ∧ ∀ (Γ : nr_M) (ρ : Nat → Nat) (z : Nat → Int32) (g : Nat → Nat → Int32), ∃ fs : List Value, nr_hp Γ ρ z g k = .inr (ci, fs) ∧ j < fs.length ∧ ∀ (v : Int32) (q : Nat), q < 36 → va_up (nr_hp Γ ρ z g) k (.inr (ci, fs.set j (.int v))) q = nr_hp Γ ρ (va_up z i v) g q
theorem G_put (hX : nr_Cx Γ ρ X y cc nL ret d) {idx k i : Nat} {v : Int32} {ty : FieldType} (hd : decode cc pc = .ok (.putfield idx, 3)) (hT : nr_PT y.cls idx k i ty) (hna : narrow ty (.int v) = .int v) (hfi : fits ty (.int v) = true) (hn : pc + 3 = n) (kk : nr_G Γ ρ X nL Q n lv st (va_up z i v) g) : nr_G Γ ρ X nL Q pc lv (.int v :: .ref (ρ k) :: st) z g := by
  subst hn; intro H locs ls hP hS hl
  obtain ⟨hk, ci, j, ⟨C, T, N, ty0, hc, hin, hty, hnm, hj, hlk, hfin, hpd⟩, hF⟩ := hT
  obtain ⟨fs, he, hjl, hset⟩ := hF Γ ρ z g
  have hws := nr_ws_get (Γ := Γ) (ρ := ρ) (z := z) (g := g) hk
  rw [he] at hws
  refine va_put hX.1 hX.2.1 hX.2.2.2.2.1 hin ty0 hty hnm hX.2.2.2.1 hX.2.2.2.2.2.1 hP (nr_D hX.2.2.2.2.2.2.1) hS k hws hc j hj (hX.2.2.2.2.1 _ hlk) (fun _ q => q) hfin hpd hna hfi hjl hd (fun H1 locs1 hP1 _ hS1 => ?_)
  rw [nr_ws_set (hset v)] at hP1
  exact kk H1 locs1 ls hP1 hS1 hl
/-- the porter's house and tale -/
def nr_PR (own : String) (idx : Nat) (ty : FieldType) (j : Nat) : Prop := nr_FP own idx 2 j ty
theorem nr_ix_nI {b : Nat} (hb : b < 2 ^ 31) : nr_ix (nI b) = b := nI_clamp hb
theorem G_puth (hX : nr_Cx Γ ρ X y cc nL ret d) {idx b : Nat} {ty : FieldType} (hb : b < 2 ^ 31) (hd : decode cc pc = .ok (.putfield idx, 3)) (hT : nr_FP y.cls idx 2 1 ty) (hna : narrow ty (.ref (ρ b)) = .ref (ρ b)) (hfi : fits ty (.ref (ρ b)) = true) (hn : pc + 3 = n) (kk : nr_G Γ ρ X nL Q n lv st (va_up z 16 (nI b)) g) : nr_G Γ ρ X nL Q pc lv (.ref (ρ b) :: .ref (ρ 19) :: st) z g := by
  subst hn; intro H locs ls hP hS hl
  obtain ⟨C, T, N, ty0, hc, hin, hty, hnm, hj, hlk, hfin, hpd⟩ := hT
  have hws := nr_ws_get (Γ := Γ) (ρ := ρ) (z := z) (g := g) (k := 19) (by decide)
  refine va_put hX.1 hX.2.1 hX.2.2.2.2.1 hin ty0 hty hnm hX.2.2.2.1 hX.2.2.2.2.2.1 hP (nr_D hX.2.2.2.2.2.2.1) hS 19 hws hc 1 hj (hX.2.2.2.2.1 _ hlk) (fun _ q => q) hfin hpd hna hfi (Nat.le_of_ble_eq_true rfl) hd (fun H1 locs1 hP1 _ hS1 => ?_)
  rw [nr_ws_set (z' := va_up z 16 (nI b)) (g' := g) (fun q hq => by
    by_cases hq9 : q = 19
    · subst hq9; simp [va_up, nr_hp, nr_ix_nI hb]
    · simp only [va_up, if_neg hq9]; unfold nr_hp; split <;> first | rfl | contradiction)] at hP1
  exact kk H1 locs1 ls hP1 hS1 hl
theorem G_putt (hX : nr_Cx Γ ρ X y cc nL ret d) {idx b : Nat} {ty : FieldType} (hb : b < 2 ^ 31) (hd : decode cc pc = .ok (.putfield idx, 3)) (hT : nr_FP y.cls idx 2 2 ty) (hna : narrow ty (.ref (ρ b)) = .ref (ρ b)) (hfi : fits ty (.ref (ρ b)) = true) (hn : pc + 3 = n) (kk : nr_G Γ ρ X nL Q n lv st (va_up z 17 (nI b)) g) : nr_G Γ ρ X nL Q pc lv (.ref (ρ b) :: .ref (ρ 19) :: st) z g := by
  subst hn; intro H locs ls hP hS hl
  obtain ⟨C, T, N, ty0, hc, hin, hty, hnm, hj, hlk, hfin, hpd⟩ := hT
  have hws := nr_ws_get (Γ := Γ) (ρ := ρ) (z := z) (g := g) (k := 19) (by decide)
  refine va_put hX.1 hX.2.1 hX.2.2.2.2.1 hin ty0 hty hnm hX.2.2.2.1 hX.2.2.2.2.2.1 hP (nr_D hX.2.2.2.2.2.2.1) hS 19 hws hc 2 hj (hX.2.2.2.2.1 _ hlk) (fun _ q => q) hfin hpd hna hfi (Nat.le_of_ble_eq_true rfl) hd (fun H1 locs1 hP1 _ hS1 => ?_)
  rw [nr_ws_set (z' := va_up z 17 (nI b)) (g' := g) (fun q hq => by
    by_cases hq9 : q = 19
    · subst hq9; simp [va_up, nr_hp, nr_ix_nI hb]
    · simp only [va_up, if_neg hq9]; unfold nr_hp; split <;> first | rfl | contradiction)] at hP1
  exact kk H1 locs1 ls hP1 hS1 hl

theorem nr_il_hp {k N : Nat} (hk : nr_il k = N) (h0 : 0 < N) : k < 36 ∧ (∀ (Γ : nr_M) (ρ : Nat → Nat) (z : Nat → Int32) (g : Nat → Nat → Int32), nr_hp Γ ρ z g k = .inl (Γ.2.2.2.1, N, .inl (g k))) := by
  unfold nr_il at hk
  split at hk <;> first | (subst hk; exact ⟨by decide, fun _ _ _ _ => rfl⟩) | omega

theorem nr_up_arr {k N : Nat} (hk : nr_il k = N) (h0 : 0 < N) (f : Nat → Int32) (q : Nat) : va_up (nr_hp Γ ρ z g) k (.inl (Γ.2.2.2.1, N, .inl f)) q = nr_hp Γ ρ z (va_up g k f) q := by
  by_cases hq : q = k
  · subst hq
    rw [(nr_il_hp hk h0).2]
    simp [va_up]
  · simp only [va_up, if_neg hq]
    unfold nr_hp
    split <;> first | rfl | (simp [hq]; done) | (simp only [va_up]; rw [if_neg hq])
theorem nr_up_z (f : Nat → Int32) (q : Nat) : va_up (nr_hp Γ ρ z g) 32 (.inl (Γ.2.2.2.2, 9, .inl f)) q = nr_hp Γ ρ z (va_up g 32 f) q := by
  by_cases hq : q = 32
  · subst hq
    simp [va_up, nr_hp]
  · simp only [va_up, if_neg hq]
    unfold nr_hp
    split <;> first | rfl | (exact absurd rfl hq) | (simp [hq]; done)
theorem G_iald (hX : nr_Cx Γ ρ X y cc nL ret d) {k N : Nat} {i : Int32} (hd : decode cc pc = .ok (.iaload, 1)) (hk : nr_il k = N) (h0 : 0 < N) (hin : vp_in i N) (hn : pc + 1 = n) (kk : nr_G Γ ρ X nL Q n lv (.int (g k i.toNatClampNeg) :: st) z g) : nr_G Γ ρ X nL Q pc lv (.int i :: .ref (ρ k) :: st) z g := by
  subst hn; intro H locs ls hP hS hl
  obtain ⟨hk6, he⟩ := nr_il_hp hk h0
  have hws := nr_ws_get (Γ := Γ) (ρ := ρ) (z := z) (g := g) hk6
  rw [he] at hws
  exact va_iald hX.1 hX.2.1 hX.2.2.2.2.2.1 hP k 0 hws rfl hin hd (kk H locs ls hP hS hl)
theorem G_iast (hX : nr_Cx Γ ρ X y cc nL ret d) {k N : Nat} {i x : Int32} (hd : decode cc pc = .ok (.iastore, 1)) (hk : nr_il k = N) (h0 : 0 < N) (hin : vp_in i N) (hn : pc + 1 = n) (kk : nr_G Γ ρ X nL Q n lv st z (va_up g k (upd (g k) i.toNatClampNeg x))) : nr_G Γ ρ X nL Q pc lv (.int x :: .int i :: .ref (ρ k) :: st) z g := by
  subst hn; intro H locs ls hP hS hl
  obtain ⟨hk6, he⟩ := nr_il_hp hk h0
  have hws := nr_ws_get (Γ := Γ) (ρ := ρ) (z := z) (g := g) hk6
  rw [he] at hws
  refine va_iast hX.1 hX.2.1 hX.2.2.2.2.2.1 hP (nr_D hX.2.2.2.2.2.2.1) hS k 0 hws rfl hin hd (fun H1 locs1 hP1 _ hS1 => ?_)
  rw [nr_ws_set (fun q _ => nr_up_arr hk h0 _ q)] at hP1
  exact kk H1 locs1 ls hP1 hS1 hl
theorem G_zald (hX : nr_Cx Γ ρ X y cc nL ret d) {i : Int32} (hd : decode cc pc = .ok (.baload, 1)) (hin : vp_in i 9) (hn : pc + 1 = n) (kk : nr_G Γ ρ X nL Q n lv (.int (g 32 i.toNatClampNeg) :: st) z g) : nr_G Γ ρ X nL Q pc lv (.int i :: .ref (ρ 32) :: st) z g := by
  subst hn; intro H locs ls hP hS hl
  have hws := nr_ws_get (Γ := Γ) (ρ := ρ) (z := z) (g := g) (k := 32) (by decide)
  exact va_zald hX.1 hX.2.1 hX.2.2.2.2.2.1 hP 32 1 hws rfl hin hd (kk H locs ls hP hS hl)
theorem G_zast (hX : nr_Cx Γ ρ X y cc nL ret d) {i x : Int32} (hd : decode cc pc = .ok (.bastore, 1)) (hin : vp_in i 9) (hna : vp_nar .boolean x = x) (hn : pc + 1 = n) (kk : nr_G Γ ρ X nL Q n lv st z (va_up g 32 (upd (g 32) i.toNatClampNeg x))) : nr_G Γ ρ X nL Q pc lv (.int x :: .int i :: .ref (ρ 32) :: st) z g := by
  subst hn; intro H locs ls hP hS hl
  have hws := nr_ws_get (Γ := Γ) (ρ := ρ) (z := z) (g := g) (k := 32) (by decide)
  refine va_zast hX.1 hX.2.1 hX.2.2.2.2.2.1 hP (nr_D hX.2.2.2.2.2.2.1) hS 32 1 hws rfl hin hd (fun H1 locs1 hP1 _ hS1 => ?_)
  rw [hna, nr_ws_set (fun q _ => nr_up_z _ q)] at hP1
  exact kk H1 locs1 ls hP1 hS1 hl
theorem G_alen (hX : nr_Cx Γ ρ X y cc nL ret d) {k N : Nat} {v : Int32} (hd : decode cc pc = .ok (.arraylength, 1)) (hk : nr_il k = N) (h0 : 0 < N) (hv : Int32.ofNat N = v) (hn : pc + 1 = n) (kk : nr_G Γ ρ X nL Q n lv (.int v :: st) z g) : nr_G Γ ρ X nL Q pc lv (.ref (ρ k) :: st) z g := by
  subst hn; intro H locs ls hP hS hl
  obtain ⟨hk6, he⟩ := nr_il_hp hk h0
  have hws := nr_ws_get (Γ := Γ) (ρ := ρ) (z := z) (g := g) hk6
  rw [he] at hws
  exact va_alen hX.1 hX.2.1 hX.2.2.2.2.2.1 hP k 0 hws rfl hv hd (kk H locs ls hP hS hl)
theorem G_gets (hX : nr_Cx Γ ρ X y cc nL ret d) {k idx : Nat} (hd : decode cc pc = .ok (.getstatic idx, 3)) (h1 : 40 ≤ k) (h2 : k < 43) (hlk : Cond.fieldLink y.cls idx "NightRounds" (nr_sN k) "[I" ∈ nr_tb) (hn : pc + 3 = n) (kk : nr_G Γ ρ X nL Q n lv (.ref (ρ k) :: st) z g) : nr_G Γ ρ X nL Q pc lv st z g := by
  subst hn; intro H locs ls hP hS hl
  exact va_gets hX.1 hX.2.1 (hX.2.2.2.2.2.2.2.1 k h1 h2).1 hS hX.2.2.2.1 (hX.2.2.2.2.1 _ hlk) (fun _ q => q) hd (kk H locs ls hP hS hl)
theorem G_sald (hX : nr_Cx Γ ρ X y cc nL ret d) {k : Nat} {i : Int32} (hd : decode cc pc = .ok (.iaload, 1)) (h1 : 40 ≤ k) (h2 : k < 43) (hin : vp_in i (nr_sn k)) (hn : pc + 1 = n) (kk : nr_G Γ ρ X nL Q n lv (.int (nr_sf k i.toNatClampNeg) :: st) z g) : nr_G Γ ρ X nL Q pc lv (.int i :: .ref (ρ k) :: st) z g := by
  subst hn; intro H locs ls hP hS hl
  exact va_ti hX.1 hX.2.1 (hX.2.2.2.2.2.2.2.1 k h1 h2).2 hS hin rfl hd (kk H locs ls hP hS hl)
theorem G_slen (hX : nr_Cx Γ ρ X y cc nL ret d) {k : Nat} (hd : decode cc pc = .ok (.arraylength, 1)) (h1 : 40 ≤ k) (h2 : k < 43) (hn : pc + 1 = n) (kk : nr_G Γ ρ X nL Q n lv (.int (Int32.ofNat (nr_sn k)) :: st) z g) : nr_G Γ ρ X nL Q pc lv (.ref (ρ k) :: st) z g := by
  subst hn; intro H locs ls hP hS hl
  exact va_tlen hX.1 hX.2.1 (hX.2.2.2.2.2.2.2.1 k h1 h2).2 hS rfl hd (kk H locs ls hP hS hl)

def nr_isC (k ci : Nat) : Prop := k < 36 ∧ ∀ (Γ : nr_M) (ρ : Nat → Nat) (z : Nat → Int32) (g : Nat → Nat → Int32), ∃ fs : List Value, nr_hp Γ ρ z g k = .inr (ci, fs)
def nr_ML (y' : MethodName) (cc' : ByteArray) (nL' : Nat) (ret' : Option FieldType) (na : Nat) : Prop := Cond.code y' cc' nL' ret' ∈ nr_tb ∧ Cond.initialized y'.cls ∈ nr_tb ∧ (y'.cls ≠ "java/lang/invoke/MethodHandle" ∧ y'.cls ≠ "java/lang/invoke/VarHandle") ∧ (parseMethodDescriptor y'.desc).map (fun d => d.parameters.length) = some na ∧ nL' ≤ 60
def nr_LV (own : String) (idx ci : Nat) (y' : MethodName) (cc' : ByteArray) (nL' : Nat) (ret' : Option FieldType) (na : Nat) : Prop := Cond.methodLink own idx y' ∈ nr_tb ∧ Cond.instanceMethod y' ∈ nr_tb ∧ Cond.selects y'.cls y' y' ∈ nr_tb ∧ nr_ML y' cc' nL' ret' na ∧ ∃ (T : u_T) (N : Nat), vwCl[ci]? = some (y'.cls, T, N)
def nr_LS (own : String) (idx : Nat) (y' : MethodName) (cc' : ByteArray) (nL' : Nat) (ret' : Option FieldType) (na : Nat) : Prop := (Cond.methodLink own idx y' ∈ nr_tb ∨ ∃ host, Cond.methodLinkNest own idx y' host ∈ nr_tb) ∧ Cond.static y' ∈ nr_tb ∧ nr_ML y' cc' nL' ret' na
theorem nr_tb_warm {args a' : Array Value} {s U : State} (hts : ∀ w ∈ nr_tb, w.before args s = true) (hW : s.WarmedH U.vm) : ∀ w ∈ nr_tb, w.before a' U = true := fun w hw => nr_warm hW (List.mem_filter.mp hw).2 (hts w hw)
theorem nr_desc {y' : MethodName} {na : Nat} (hq : (parseMethodDescriptor y'.desc).map (fun d => d.parameters.length) = some na) : ∀ sig, parseMethodDescriptor y'.desc = some sig → na = sig.parameters.length := by
  intro sig hs
  rw [hs] at hq
  exact (Option.some.inj hq).symm
theorem nr_CallB (hX : nr_Cx Γ ρ X y cc nL ret d) {idx : Nat} {y' : MethodName} {cc' : ByteArray} {nL' na d' : Nat} {ret' : Option FieldType} (hl : Cond.methodLink y.cls idx y' ∈ nr_tb) (hM : nr_ML y' cc' nL' ret' na) (hdd : d' + 1 ≤ d) : CallB X.2.2.1 X.2.2.2.1 X.2.2.2.2.2.1 y.cls idx y' cc' nL' ret' (nr_wm y' cc' nL' ret') (nr_rm d') 0 0 na := by
  obtain ⟨hx, hb, hml, hown, hts, hK, hI, hst, hR, hC, hret, hlk⟩ := hX
  obtain ⟨m1, m2, m3, m4, m5⟩ := hM
  refine ⟨rfl, rfl, ?_, ?_, ?_, List.mem_cons_self, hts _ m1, hts _ m2, m3, nr_desc m4, hts _ hl⟩
  · exact Nat.le_trans hdd hR.1
  · have := hR.2
    simp only [nr_rm]
    omega
  · intro w hw a' U hW
    rcases List.mem_cons.mp hw with rfl | hw
    · exact nr_tb_warm hts hW _ m1
    · exact nr_tb_warm hts hW _ hw
theorem nr_CN (hX : nr_Cx Γ ρ X y cc nL ret d) {idx : Nat} {host : String} {y' : MethodName} {cc' : ByteArray} {nL' na d' : Nat} {ret' : Option FieldType} (hl : Cond.methodLinkNest y.cls idx y' host ∈ nr_tb) (hM : nr_ML y' cc' nL' ret' na) (hdd : d' + 1 ≤ d) : va_CN X.2.2.1 X.2.2.2.1 X.2.2.2.2.2.1 y.cls idx y' host cc' nL' ret' (nr_wm y' cc' nL' ret') (nr_rm d') 0 0 na := by
  obtain ⟨hx, hb, hml, hown, hts, hK, hI, hst, hR, hC, hret, hlk⟩ := hX
  obtain ⟨m1, m2, m3, m4, m5⟩ := hM
  refine ⟨⟨rfl, rfl, ?_, ?_, ?_, List.mem_cons_self⟩, hts _ m1, hts _ m2, m3, nr_desc m4, hts _ hl⟩
  · exact Nat.le_trans hdd hR.1
  · have := hR.2
    simp only [nr_rm]
    omega
  · intro w hw a' U hW
    rcases List.mem_cons.mp hw with rfl | hw
    · exact nr_tb_warm hts hW _ m1
    · exact nr_tb_warm hts hW _ hw
theorem nr_runV (hX : nr_Cx Γ ρ X y cc nL ret d) {idx ci k : Nat} {y' : MethodName} {cc' : ByteArray} {nL' na d' : Nat} {ret' : Option FieldType} {As st0 : List Value} {Qc : Array Value → State → Outcome → State → Prop} (hd : decode cc pc = .ok (.invokevirtual idx, 3)) (hL : nr_LV y.cls idx ci y' cc' nL' ret' na) (hM : Met Γ.1 y' (nr_wm y' cc' nL' ret') (nr_rm d') (va_Pc (.ref (ρ k) :: As) (nr_PW Γ ρ z g)) Qc 0 0 (nr_A ρ)) (hdd : d' + 1 ≤ d) (hk : nr_isC k ci) (hlen : As.length = na) (hst0 : st0 = As.reverse ++ .ref (ρ k) :: st) (hw : (st.map fun v => v.category).sum ≤ 8)
    {H : Heap} {locs : List Loc} {ls : Array Slot} (hP : va_P (Γ.2.1, Γ.2.2.1) vwCl (nr_ws Γ ρ z g) H) (hS : va_S (nr_A ρ) X.2.2.2.1.heap H locs) (hl : lv_has ls nL lv) :
    va_Run X.1 Γ.1 X.2.1 X.2.2.1 X.2.2.2.1 X.2.2.2.2.1 X.2.2.2.2.2.1 X.2.2.2.2.2.2.1 X.2.2.2.2.2.2.2.1 X.2.2.2.2.2.2.2.2.1 H locs X.2.2.2.2.2.2.2.2.2.1 X.2.2.2.2.2.2.2.2.2.2 0 0 (F0 X.2.2.2.2.1 pc ls st0) st (Qc (Value.ref (ρ k) :: As).toArray) (nr_A ρ) := by
  obtain ⟨l1, l2, l3, l4, T, N, l5⟩ := hL
  obtain ⟨hk6, hkf⟩ := hk
  obtain ⟨fs, he⟩ := hkf Γ ρ z g
  have hws := nr_ws_get (Γ := Γ) (ρ := ρ) (z := z) (g := g) hk6
  rw [he] at hws
  have hts := hX.2.2.2.2.1
  exact va_runV (C := y'.cls) (As := As) (rest := st) ⟨hX.1, hX.2.1, hX.2.2.1, hX.2.2.2.1, hts⟩ hM ⟨nr_CallB hX l1 l4 hdd, hts _ l2, hts _ l3⟩ ⟨nr_blind, va_recv (q := (y'.cls, T, N)) hX.2.2.2.2.2.1 hP l5 hws, fun U hU hW => ⟨rfl, nr_PW_of hX hP hS hU hW.alike⟩⟩ rfl hlen hl.1 hst0 (lv_room hw) hd hX.2.2.2.2.2.2.2.2.2.1
theorem nr_runS (hX : nr_Cx Γ ρ X y cc nL ret d) {idx : Nat} {y' : MethodName} {cc' : ByteArray} {nL' na d' : Nat} {ret' : Option FieldType} {As st0 : List Value} {Qc : Array Value → State → Outcome → State → Prop} (hd : decode cc pc = .ok (.invokestatic idx, 3)) (hL : nr_LS y.cls idx y' cc' nL' ret' na) (hM : Met Γ.1 y' (nr_wm y' cc' nL' ret') (nr_rm d') (va_Pc As (nr_PW Γ ρ z g)) Qc 0 0 (nr_A ρ)) (hdd : d' + 1 ≤ d) (hlen : As.length = na) (hst0 : st0 = As.reverse ++ st) (hw : (st.map fun v => v.category).sum ≤ 8)
    {H : Heap} {locs : List Loc} {ls : Array Slot} (hP : va_P (Γ.2.1, Γ.2.2.1) vwCl (nr_ws Γ ρ z g) H) (hS : va_S (nr_A ρ) X.2.2.2.1.heap H locs) (hl : lv_has ls nL lv) :
    va_Run X.1 Γ.1 X.2.1 X.2.2.1 X.2.2.2.1 X.2.2.2.2.1 X.2.2.2.2.2.1 X.2.2.2.2.2.2.1 X.2.2.2.2.2.2.2.1 X.2.2.2.2.2.2.2.2.1 H locs X.2.2.2.2.2.2.2.2.2.1 X.2.2.2.2.2.2.2.2.2.2 0 0 (F0 X.2.2.2.2.1 pc ls st0) st (Qc As.toArray) (nr_A ρ) := by
  obtain ⟨l1, l2, l4⟩ := hL
  have hts := hX.2.2.2.2.1
  rcases l1 with l1 | ⟨host, l1⟩
  · exact va_runS (As := As) (rest := st) ⟨hX.1, hX.2.1, hX.2.2.1, hX.2.2.2.1, hts⟩ hM ⟨nr_CallB hX l1 l4 hdd, hts _ l2⟩ ⟨nr_blind, fun U hU hW => ⟨rfl, nr_PW_of hX hP hS hU hW.alike⟩⟩ rfl hlen hl.1 hst0 (lv_room hw) hd hX.2.2.2.2.2.2.2.2.2.1
  · exact va_runSN (As := As) (rest := st) ⟨hX.1, hX.2.1, hX.2.2.1, hX.2.2.2.1, hts⟩ hM ⟨nr_CN hX l1 l4 hdd, hts _ l2, trivial⟩ ⟨nr_blind, fun U hU hW => ⟨rfl, nr_PW_of hX hP hS hU hW.alike⟩⟩ rfl hlen hl.1 hst0 (lv_room hw) hd hX.2.2.2.2.2.2.2.2.2.1

theorem G_cVi (hX : nr_Cx Γ ρ X y cc nL ret d) {idx ci k : Nat} {y' : MethodName} {cc' : ByteArray} {nL' na d' : Nat} {ret' : Option FieldType} {As st0 : List Value} {post : Int32 → nr_S → Prop} (hd : decode cc pc = .ok (.invokevirtual idx, 3)) (hL : nr_LV y.cls idx ci y' cc' nL' ret' na) (hM : nr_Si Γ ρ d' y' cc' nL' ret' (.ref (ρ k) :: As) z g post) (hdd : d' + 1 ≤ d) (hk : nr_isC k ci) (hlen : As.length = na) (hst0 : st0 = As.reverse ++ .ref (ρ k) :: st) (hw : (st.map fun v => v.category).sum ≤ 8) (hn : pc + 3 = n) (kk : ∀ (r : Int32) (u : nr_S), post r u → nr_G Γ ρ X nL Q n lv (.int r :: st) u.1 u.2) : nr_G Γ ρ X nL Q pc lv st0 z g := by
  subst hn; intro H locs ls hP hS hl
  refine va_calli (nr_runV hX hd hL hM hdd hk hlen hst0 hw hP hS hl) hS (fun _ _ q => q) (fun _ q => q) (fun r u t1 H1 locs1 ht1 hvm hpo hB hz1 hk1 hS1 => ?_)
  have hP1 := hB.1
  rw [ht1] at hP1
  exact kk r u hpo H1 locs1 ls hP1 hS1 hl

theorem G_fVi (hX : nr_Cx Γ ρ X y cc nL ret d) {idx ci k : Nat} {y' : MethodName} {cc' : ByteArray} {nL' na d' : Nat} {ret' : Option FieldType} {As st0 : List Value} {z' : Nat → Int32} {g' : Nat → Nat → Int32} {r0 : Int32} (hd : decode cc pc = .ok (.invokevirtual idx, 3)) (hL : nr_LV y.cls idx ci y' cc' nL' ret' na) (hM : nr_Si Γ ρ d' y' cc' nL' ret' (.ref (ρ k) :: As) z g (fun r u => r = r0 ∧ u = (z', g'))) (hdd : d' + 1 ≤ d) (hk : nr_isC k ci) (hlen : As.length = na) (hst0 : st0 = As.reverse ++ .ref (ρ k) :: st) (hw : (st.map fun v => v.category).sum ≤ 8) (hn : pc + 3 = n) (kk : nr_G Γ ρ X nL Q n lv (.int r0 :: st) z' g') : nr_G Γ ρ X nL Q pc lv st0 z g := by
  refine G_cVi hX hd hL hM hdd hk hlen hst0 hw hn ?_
  rintro r u ⟨rfl, rfl⟩; exact kk

theorem G_cVv (hX : nr_Cx Γ ρ X y cc nL ret d) {idx ci k : Nat} {y' : MethodName} {cc' : ByteArray} {nL' na d' : Nat} {ret' : Option FieldType} {As st0 : List Value} {post : nr_S → Prop} (hd : decode cc pc = .ok (.invokevirtual idx, 3)) (hL : nr_LV y.cls idx ci y' cc' nL' ret' na) (hM : nr_Sv Γ ρ d' y' cc' nL' ret' (.ref (ρ k) :: As) z g post) (hdd : d' + 1 ≤ d) (hk : nr_isC k ci) (hlen : As.length = na) (hst0 : st0 = As.reverse ++ .ref (ρ k) :: st) (hw : (st.map fun v => v.category).sum ≤ 8) (hn : pc + 3 = n) (kk : ∀ (u : nr_S), post u → nr_G Γ ρ X nL Q n lv (st) u.1 u.2) : nr_G Γ ρ X nL Q pc lv st0 z g := by
  subst hn; intro H locs ls hP hS hl
  refine va_callv (nr_runV hX hd hL hM hdd hk hlen hst0 hw hP hS hl) hS (fun _ _ q => q) (fun _ q => q) (fun u t1 H1 locs1 ht1 hvm hpo hB hz1 hk1 hS1 => ?_)
  have hP1 := hB.1
  rw [ht1] at hP1
  exact kk u hpo H1 locs1 ls hP1 hS1 hl

theorem G_fVv (hX : nr_Cx Γ ρ X y cc nL ret d) {idx ci k : Nat} {y' : MethodName} {cc' : ByteArray} {nL' na d' : Nat} {ret' : Option FieldType} {As st0 : List Value} {z' : Nat → Int32} {g' : Nat → Nat → Int32} (hd : decode cc pc = .ok (.invokevirtual idx, 3)) (hL : nr_LV y.cls idx ci y' cc' nL' ret' na) (hM : nr_Sv Γ ρ d' y' cc' nL' ret' (.ref (ρ k) :: As) z g (fun u => u = (z', g'))) (hdd : d' + 1 ≤ d) (hk : nr_isC k ci) (hlen : As.length = na) (hst0 : st0 = As.reverse ++ .ref (ρ k) :: st) (hw : (st.map fun v => v.category).sum ≤ 8) (hn : pc + 3 = n) (kk : nr_G Γ ρ X nL Q n lv (st) z' g') : nr_G Γ ρ X nL Q pc lv st0 z g := by
  refine G_cVv hX hd hL hM hdd hk hlen hst0 hw hn ?_
  rintro u rfl; exact kk

theorem G_cVl (hX : nr_Cx Γ ρ X y cc nL ret d) {idx ci k : Nat} {y' : MethodName} {cc' : ByteArray} {nL' na d' : Nat} {ret' : Option FieldType} {As st0 : List Value} {post : Int64 → nr_S → Prop} (hd : decode cc pc = .ok (.invokevirtual idx, 3)) (hL : nr_LV y.cls idx ci y' cc' nL' ret' na) (hM : nr_Sl Γ ρ d' y' cc' nL' ret' (.ref (ρ k) :: As) z g post) (hdd : d' + 1 ≤ d) (hk : nr_isC k ci) (hlen : As.length = na) (hst0 : st0 = As.reverse ++ .ref (ρ k) :: st) (hw : (st.map fun v => v.category).sum ≤ 8) (hn : pc + 3 = n) (kk : ∀ (r : Int64) (u : nr_S), post r u → nr_G Γ ρ X nL Q n lv (.long r :: st) u.1 u.2) : nr_G Γ ρ X nL Q pc lv st0 z g := by
  subst hn; intro H locs ls hP hS hl
  refine va_calll (nr_runV hX hd hL hM hdd hk hlen hst0 hw hP hS hl) hS (fun _ _ q => q) (fun _ q => q) (fun r u t1 H1 locs1 ht1 hvm hpo hB hz1 hk1 hS1 => ?_)
  have hP1 := hB.1
  rw [ht1] at hP1
  exact kk r u hpo H1 locs1 ls hP1 hS1 hl

theorem G_fVl (hX : nr_Cx Γ ρ X y cc nL ret d) {idx ci k : Nat} {y' : MethodName} {cc' : ByteArray} {nL' na d' : Nat} {ret' : Option FieldType} {As st0 : List Value} {z' : Nat → Int32} {g' : Nat → Nat → Int32} {r0 : Int64} (hd : decode cc pc = .ok (.invokevirtual idx, 3)) (hL : nr_LV y.cls idx ci y' cc' nL' ret' na) (hM : nr_Sl Γ ρ d' y' cc' nL' ret' (.ref (ρ k) :: As) z g (fun r u => r = r0 ∧ u = (z', g'))) (hdd : d' + 1 ≤ d) (hk : nr_isC k ci) (hlen : As.length = na) (hst0 : st0 = As.reverse ++ .ref (ρ k) :: st) (hw : (st.map fun v => v.category).sum ≤ 8) (hn : pc + 3 = n) (kk : nr_G Γ ρ X nL Q n lv (.long r0 :: st) z' g') : nr_G Γ ρ X nL Q pc lv st0 z g := by
  refine G_cVl hX hd hL hM hdd hk hlen hst0 hw hn ?_
  rintro r u ⟨rfl, rfl⟩; exact kk

theorem G_cSi (hX : nr_Cx Γ ρ X y cc nL ret d) {idx : Nat} {y' : MethodName} {cc' : ByteArray} {nL' na d' : Nat} {ret' : Option FieldType} {As st0 : List Value} {post : Int32 → nr_S → Prop} (hd : decode cc pc = .ok (.invokestatic idx, 3)) (hL : nr_LS y.cls idx y' cc' nL' ret' na) (hM : nr_Si Γ ρ d' y' cc' nL' ret' As z g post) (hdd : d' + 1 ≤ d) (hlen : As.length = na) (hst0 : st0 = As.reverse ++ st) (hw : (st.map fun v => v.category).sum ≤ 8) (hn : pc + 3 = n) (kk : ∀ (r : Int32) (u : nr_S), post r u → nr_G Γ ρ X nL Q n lv (.int r :: st) u.1 u.2) : nr_G Γ ρ X nL Q pc lv st0 z g := by
  subst hn; intro H locs ls hP hS hl
  refine va_calli (nr_runS hX hd hL hM hdd hlen hst0 hw hP hS hl) hS (fun _ _ q => q) (fun _ q => q) (fun r u t1 H1 locs1 ht1 hvm hpo hB hz1 hk1 hS1 => ?_)
  have hP1 := hB.1
  rw [ht1] at hP1
  exact kk r u hpo H1 locs1 ls hP1 hS1 hl

theorem G_fSi (hX : nr_Cx Γ ρ X y cc nL ret d) {idx : Nat} {y' : MethodName} {cc' : ByteArray} {nL' na d' : Nat} {ret' : Option FieldType} {As st0 : List Value} {z' : Nat → Int32} {g' : Nat → Nat → Int32} {r0 : Int32} (hd : decode cc pc = .ok (.invokestatic idx, 3)) (hL : nr_LS y.cls idx y' cc' nL' ret' na) (hM : nr_Si Γ ρ d' y' cc' nL' ret' As z g (fun r u => r = r0 ∧ u = (z', g'))) (hdd : d' + 1 ≤ d) (hlen : As.length = na) (hst0 : st0 = As.reverse ++ st) (hw : (st.map fun v => v.category).sum ≤ 8) (hn : pc + 3 = n) (kk : nr_G Γ ρ X nL Q n lv (.int r0 :: st) z' g') : nr_G Γ ρ X nL Q pc lv st0 z g := by
  refine G_cSi hX hd hL hM hdd hlen hst0 hw hn ?_
  rintro r u ⟨rfl, rfl⟩; exact kk

theorem G_cSv (hX : nr_Cx Γ ρ X y cc nL ret d) {idx : Nat} {y' : MethodName} {cc' : ByteArray} {nL' na d' : Nat} {ret' : Option FieldType} {As st0 : List Value} {post : nr_S → Prop} (hd : decode cc pc = .ok (.invokestatic idx, 3)) (hL : nr_LS y.cls idx y' cc' nL' ret' na) (hM : nr_Sv Γ ρ d' y' cc' nL' ret' As z g post) (hdd : d' + 1 ≤ d) (hlen : As.length = na) (hst0 : st0 = As.reverse ++ st) (hw : (st.map fun v => v.category).sum ≤ 8) (hn : pc + 3 = n) (kk : ∀ (u : nr_S), post u → nr_G Γ ρ X nL Q n lv (st) u.1 u.2) : nr_G Γ ρ X nL Q pc lv st0 z g := by
  subst hn; intro H locs ls hP hS hl
  refine va_callv (nr_runS hX hd hL hM hdd hlen hst0 hw hP hS hl) hS (fun _ _ q => q) (fun _ q => q) (fun u t1 H1 locs1 ht1 hvm hpo hB hz1 hk1 hS1 => ?_)
  have hP1 := hB.1
  rw [ht1] at hP1
  exact kk u hpo H1 locs1 ls hP1 hS1 hl

theorem G_fSv (hX : nr_Cx Γ ρ X y cc nL ret d) {idx : Nat} {y' : MethodName} {cc' : ByteArray} {nL' na d' : Nat} {ret' : Option FieldType} {As st0 : List Value} {z' : Nat → Int32} {g' : Nat → Nat → Int32} (hd : decode cc pc = .ok (.invokestatic idx, 3)) (hL : nr_LS y.cls idx y' cc' nL' ret' na) (hM : nr_Sv Γ ρ d' y' cc' nL' ret' As z g (fun u => u = (z', g'))) (hdd : d' + 1 ≤ d) (hlen : As.length = na) (hst0 : st0 = As.reverse ++ st) (hw : (st.map fun v => v.category).sum ≤ 8) (hn : pc + 3 = n) (kk : nr_G Γ ρ X nL Q n lv (st) z' g') : nr_G Γ ρ X nL Q pc lv st0 z g := by
  refine G_cSv hX hd hL hM hdd hlen hst0 hw hn ?_
  rintro u rfl; exact kk

theorem G_cSl (hX : nr_Cx Γ ρ X y cc nL ret d) {idx : Nat} {y' : MethodName} {cc' : ByteArray} {nL' na d' : Nat} {ret' : Option FieldType} {As st0 : List Value} {post : Int64 → nr_S → Prop} (hd : decode cc pc = .ok (.invokestatic idx, 3)) (hL : nr_LS y.cls idx y' cc' nL' ret' na) (hM : nr_Sl Γ ρ d' y' cc' nL' ret' As z g post) (hdd : d' + 1 ≤ d) (hlen : As.length = na) (hst0 : st0 = As.reverse ++ st) (hw : (st.map fun v => v.category).sum ≤ 8) (hn : pc + 3 = n) (kk : ∀ (r : Int64) (u : nr_S), post r u → nr_G Γ ρ X nL Q n lv (.long r :: st) u.1 u.2) : nr_G Γ ρ X nL Q pc lv st0 z g := by
  subst hn; intro H locs ls hP hS hl
  refine va_calll (nr_runS hX hd hL hM hdd hlen hst0 hw hP hS hl) hS (fun _ _ q => q) (fun _ q => q) (fun r u t1 H1 locs1 ht1 hvm hpo hB hz1 hk1 hS1 => ?_)
  have hP1 := hB.1
  rw [ht1] at hP1
  exact kk r u hpo H1 locs1 ls hP1 hS1 hl

theorem G_fSl (hX : nr_Cx Γ ρ X y cc nL ret d) {idx : Nat} {y' : MethodName} {cc' : ByteArray} {nL' na d' : Nat} {ret' : Option FieldType} {As st0 : List Value} {z' : Nat → Int32} {g' : Nat → Nat → Int32} {r0 : Int64} (hd : decode cc pc = .ok (.invokestatic idx, 3)) (hL : nr_LS y.cls idx y' cc' nL' ret' na) (hM : nr_Sl Γ ρ d' y' cc' nL' ret' As z g (fun r u => r = r0 ∧ u = (z', g'))) (hdd : d' + 1 ≤ d) (hlen : As.length = na) (hst0 : st0 = As.reverse ++ st) (hw : (st.map fun v => v.category).sum ≤ 8) (hn : pc + 3 = n) (kk : nr_G Γ ρ X nL Q n lv (.long r0 :: st) z' g') : nr_G Γ ρ X nL Q pc lv st0 z g := by
  refine G_cSl hX hd hL hM hdd hlen hst0 hw hn ?_
  rintro r u ⟨rfl, rfl⟩; exact kk

theorem G_max (hX : nr_Cx Γ ρ X y cc nL ret d) {idx : Nat} {a b : Int32} (hd : decode cc pc = .ok (.invokestatic idx, 3)) (h1 : Cond.methodLink y.cls idx Lib.Math.max.name ∈ nr_tb) (hdd : 1 ≤ d) (hw : (st.map fun v => v.category).sum ≤ 8) (hn : pc + 3 = n) (kk : nr_G Γ ρ X nL Q n lv (.int (if a < b then b else a) :: st) z g) : nr_G Γ ρ X nL Q pc lv (.int b :: .int a :: st) z g := by
  subst hn; intro H locs ls hP hS hl
  obtain ⟨hx, hb, hml, hown, hts, hK, hI, hst, hR, hC, hret, hlk⟩ := hX
  exact va_mmax hx hb (hml.trans hl.1.symm) hown (hts _ h1) (hts _ nr_max_s) (hts _ nr_max_i) (hts _ nr_max_c) (Nat.le_trans hdd hR.1) (by have := hR.2; omega) hC.1 hC.2 hd (kk H locs ls hP hS hl)
theorem G_min (hX : nr_Cx Γ ρ X y cc nL ret d) {idx : Nat} {a b : Int32} (hd : decode cc pc = .ok (.invokestatic idx, 3)) (h1 : Cond.methodLink y.cls idx Lib.Math.min.name ∈ nr_tb) (hdd : 1 ≤ d) (hw : (st.map fun v => v.category).sum ≤ 8) (hn : pc + 3 = n) (kk : nr_G Γ ρ X nL Q n lv (.int (if b < a then b else a) :: st) z g) : nr_G Γ ρ X nL Q pc lv (.int b :: .int a :: st) z g := by
  subst hn; intro H locs ls hP hS hl
  obtain ⟨hx, hb, hml, hown, hts, hK, hI, hst, hR, hC, hret, hlk⟩ := hX
  exact va_mmin hx hb (hml.trans hl.1.symm) hown (hts _ h1) (hts _ nr_min_s) (hts _ nr_max_i) (hts _ nr_min_c) (Nat.le_trans hdd hR.1) (by have := hR.2; omega) hC.1 hC.2 hd (kk H locs ls hP hS hl)
theorem G_copy (hX : nr_Cx Γ ρ X y cc nL ret d) {idx k0 k1 N0 N1 : Nat} {sp dp m : Int32} (hd : decode cc pc = .ok (.invokestatic idx, 3)) (h1 : Cond.methodLink y.cls idx arraycopyName ∈ nr_tb) (hdd : 1 ≤ d) (hw : (st.map fun v => v.category).sum ≤ 8) (hk0 : nr_il k0 = N0) (h00 : 0 < N0) (hk1 : nr_il k1 = N1) (h01 : 0 < N1) (c1 : ¬ sp < 0) (c2 : ¬ dp < 0) (c3 : ¬ m < 0) (c4 : sp.toNatClampNeg + m.toNatClampNeg ≤ N0) (c5 : dp.toNatClampNeg + m.toNatClampNeg ≤ N1) (hn : pc + 3 = n) (kk : nr_G Γ ρ X nL Q n lv st z (va_up g k1 (va_cpy (g k0) (g k1) sp.toNatClampNeg dp.toNatClampNeg m.toNatClampNeg))) : nr_G Γ ρ X nL Q pc lv (.int m :: .int dp :: .ref (ρ k1) :: .int sp :: .ref (ρ k0) :: st) z g := by
  subst hn; intro H locs ls hP hS hl
  have hX0 := hX
  obtain ⟨hx, hb, hml, hown, hts, hK, hI, hst, hR, hC, hret, hlk⟩ := hX
  obtain ⟨hk06, he0⟩ := nr_il_hp hk0 h00
  have hws0 := nr_ws_get (Γ := Γ) (ρ := ρ) (z := z) (g := g) hk06
  rw [he0] at hws0
  obtain ⟨hk16, he1⟩ := nr_il_hp hk1 h01
  have hws1 := nr_ws_get (Γ := Γ) (ρ := ρ) (z := z) (g := g) hk16
  rw [he1] at hws1
  refine va_copyi hx hb (hml.trans hl.1.symm) hown (hts _ h1) (hts _ nr_cp_n) (hts _ nr_cp_s) (hts _ nr_cp_i) hK hP (nr_D hI) hS k0 k1 0 0 hws0 hws1 rfl rfl rfl c1 c2 c3 c4 c5 (fun _ _ => rfl) (Nat.le_trans hdd hR.1) ?_ hd (fun H1 locs1 hP1 _ hS1 => ?_)
  · have e : nativeFrameWords "java/lang/System" "arraycopy" 5 ≤ 60 := by decide +kernel
    have := hR.2
    omega
  · rw [nr_ws_set (fun q _ => nr_up_arr hk1 h01 _ q)] at hP1
    exact kk H1 locs1 ls hP1 hS1 hl

/-- a row of ints: one of the world's, or a static table -/
def nr_rl (k : Nat) : Nat := if k < 36 then nr_il k else nr_sn k
def nr_rd (g : Nat → Nat → Int32) (k : Nat) : Nat → Int32 := if k < 36 then g k else nr_sf k
theorem nr_sn_k {k : Nat} (hk : 0 < nr_sn k) : 40 ≤ k ∧ k < 43 := by
  unfold nr_sn at hk
  split at hk <;> omega
theorem G_rald (hX : nr_Cx Γ ρ X y cc nL ret d) {k : Nat} {i : Int32} (hd : decode cc pc = .ok (.iaload, 1)) (h0 : 0 < nr_rl k) (hin : vp_in i (nr_rl k)) (hn : pc + 1 = n) (kk : nr_G Γ ρ X nL Q n lv (.int (nr_rd g k i.toNatClampNeg) :: st) z g) : nr_G Γ ρ X nL Q pc lv (.int i :: .ref (ρ k) :: st) z g := by
  unfold nr_rd at kk
  unfold nr_rl at h0 hin
  by_cases hk : k < 36
  · rw [if_pos hk] at h0 hin kk
    exact G_iald hX hd rfl h0 hin hn kk
  · rw [if_neg hk] at h0 hin kk
    exact G_sald hX hd (nr_sn_k h0).1 (nr_sn_k h0).2 hin hn kk
theorem G_rlen (hX : nr_Cx Γ ρ X y cc nL ret d) {k : Nat} (hd : decode cc pc = .ok (.arraylength, 1)) (h0 : 0 < nr_rl k) (hn : pc + 1 = n) (kk : nr_G Γ ρ X nL Q n lv (.int (Int32.ofNat (nr_rl k)) :: st) z g) : nr_G Γ ρ X nL Q pc lv (.ref (ρ k) :: st) z g := by
  unfold nr_rl at h0 kk
  by_cases hk : k < 36
  · rw [if_pos hk] at h0 kk
    exact G_alen hX hd rfl h0 rfl hn kk
  · rw [if_neg hk] at h0 kk
    exact G_slen hX hd (nr_sn_k h0).1 (nr_sn_k h0).2 hn kk
theorem nr_sub_has {ls : Array Slot} {lv' : List (Nat × Value)} (hl : lv_has ls nL lv) (hs : ∀ q ∈ lv', nr_lg lv q.1 = some q.2) : lv_has ls nL lv' := ⟨hl.1, hl.2.1, fun q hq => nr_at hl (hs q hq)⟩
def nr_sl (lv : List (Nat × Value)) : List (Nat × Value) → Prop
  | [] => True
  | q :: r => nr_lg lv q.1 = some q.2 ∧ nr_sl lv r
theorem nr_sl_all : ∀ {lv' : List (Nat × Value)}, nr_sl lv lv' → ∀ q ∈ lv', nr_lg lv q.1 = some q.2
  | [], _, q, hq => by cases hq
  | a :: r, hs, q, hq => by
    rcases List.mem_cons.mp hq with rfl | hq
    · exact hs.1
    · exact nr_sl_all hs.2 q hq
theorem nr_sub {lv' : List (Nat × Value)} (hs : nr_sl lv lv') (kk : nr_G Γ ρ X nL Q pc lv' st z g) : nr_G Γ ρ X nL Q pc lv st z g := fun H locs ls hP hS hl => kk H locs ls hP hS (nr_sub_has hl (nr_sl_all hs))
def nr_K {α : Type} (u : Int32 × nr_S) (k : Int32 → (Nat → Int32) → (Nat → Nat → Int32) → α) : α := k u.1 u.2.1 u.2.2
theorem nr_K_mk {α : Type} (r : Int32) (z : Nat → Int32) (g : Nat → Nat → Int32) (k : Int32 → (Nat → Int32) → (Nat → Nat → Int32) → α) : nr_K (r, z, g) k = k r z g := rfl
def nr_KP (u : Int32 × nr_S) (k : Int32 → (Nat → Int32) → (Nat → Nat → Int32) → Prop) : Prop := k u.1 u.2.1 u.2.2
theorem nr_KP_mk (r : Int32) (z : Nat → Int32) (g : Nat → Nat → Int32) (k : Int32 → (Nat → Int32) → (Nat → Nat → Int32) → Prop) : nr_KP (r, z, g) k = k r z g := rfl

end
