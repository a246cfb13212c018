/-! making objects: a judgement over a list of cells that grows -/
def nb_rm (d mc ms : Nat) : Room := { frames := d, cells := mc, slots := ms, locals := 100 * d }
def nb_T (Γ : nr_M) : List (ClassId × FieldType) := [(Γ.2.2.2.1, .int), (Γ.2.2.2.2, .boolean)]
def nb_C (Γ : nr_M) (d mc ms : Nat) (y : MethodName) (cc : ByteArray) (nL : Nat) (av : List Value) (w0 : va_W) (post : va_W → Prop) : Prop :=
  ∀ sz : Nat, Met Γ.1 y (nr_wm y cc nL none) (nb_rm d mc ms) (va_Pc av (fun U => U.heap.size = sz ∧ va_P (Γ.2.1, Γ.2.2.1) vwCl w0 U.heap ∧ va_K (Γ.2.1, Γ.2.2.1) vwCl (nb_T Γ) U ∧ va_D (fun _ => True) w0)) (va_Qv post (fun w t => va_P (Γ.2.1, Γ.2.2.1) vwCl w t.heap ∧ va_D (va_A w0 sz) w) (va_A w0 sz)) mc ms (va_A w0 sz)
def nb_Cx (Γ : nr_M) (A : Nat → Prop) (X : nr_CX) (y : MethodName) (cc : ByteArray) (nL : Nat) (ret : Option FieldType) (d mc ms : Nat) : Prop :=
  X.1.tables.exec = Jvm.exec ∧ X.2.2.2.2.2.2.2.2.1.code = cc ∧ X.2.2.2.2.2.2.2.2.1.maxLocals = nL ∧ X.2.2.2.1.vm.findClass y.cls = some X.2.2.2.2.1.cls ∧ (∀ w ∈ nr_tb, w.before X.2.2.2.2.2.1 X.2.2.2.1 = true) ∧ va_K (Γ.2.1, Γ.2.2.1) vwCl (nb_T Γ) X.2.2.2.1 ∧ (∀ q, X.2.2.2.1.heap.size ≤ q → A q) ∧ (d ≤ X.2.2.1.frames ∧ 100 * d ≤ X.2.2.1.locals) ∧ (mc ≤ X.2.2.1.cells ∧ ms ≤ X.2.2.1.slots) ∧ X.2.2.2.2.2.2.2.1.sig.returnType = ret ∧ X.2.2.2.2.2.2.2.1.locks = false ∧ (y.name = "<init>" → X.2.2.2.2.2.2.2.1.name = "<init>")
def nb_G (Γ : nr_M) (A : Nat → Prop) (X : nr_CX) (nL : Nat) (Q : State → Prop) (pc : Nat) (lv : List (Nat × Value)) (st : List Value) (ws : va_W) (cells slots : Nat) : Prop :=
  ∀ (H : Heap) (locs : List Loc) (ls : Array Slot), va_P (Γ.2.1, Γ.2.2.1) vwCl ws H → va_D A ws → va_S A X.2.2.2.1.heap H locs → lv_has ls nL lv → W X.1 Γ.1 X.2.1 X.2.2.1 X.2.2.2.1 X.2.2.2.2.1 X.2.2.2.2.2.1 X.2.2.2.2.2.2.1 X.2.2.2.2.2.2.2.1 X.2.2.2.2.2.2.2.2.1 H locs cells slots Q (F0 X.2.2.2.2.1 pc ls st)
def nb_Q (Γ : nr_M) (A : Nat → Prop) (X : nr_CX) (mc ms : Nat) (post : va_W → Prop) : State → Prop := MQ X.2.2.2.2.2.2.1 (va_Qv post (fun w t => va_P (Γ.2.1, Γ.2.2.1) vwCl w t.heap ∧ va_D A w) A) X.2.2.2.2.2.1 X.2.2.2.1 mc ms A
theorem nb_sub {D : va_G} {cl : List vw_C} {ws wc : va_W} {H : Heap} (hP : va_P D cl ws H) (is : List Nat) (h : is.map (fun i => ws[i]?) = wc.map some) : va_P D cl wc H := by
  intro k q hk
  have h1 : (is.map (fun i => ws[i]?))[k]? = some (some q) := by rw [h, List.getElem?_map, hk]; rfl
  rw [List.getElem?_map] at h1
  cases hi : is[k]? with
  | none => rw [hi] at h1; cases h1
  | some i =>
    rw [hi] at h1
    exact hP i q (Option.some.inj h1)
section
variable {Γ : nr_M} {A : Nat → Prop} {X : nr_CX} {y : MethodName} {cc : ByteArray} {nL : Nat} {ret : Option FieldType} {d mc ms : Nat} {Q : State → Prop} {pc n : Nat} {lv : List (Nat × Value)} {st : List Value} {ws : va_W} {cells slots : Nat}
theorem nb_body (hy : plainName y.cls = true) {av : List Value} {w0 : va_W} {post : va_W → Prop} (hlen : (lg_sl av).length ≤ nL) (hlv : lv_args 0 av = lv)
    (body : ∀ A X, nb_Cx Γ A X y cc nL none d mc ms → nb_G Γ A X nL (nb_Q Γ A X mc ms post) 0 lv [] w0 0 0) : nb_C Γ d mc ms y cc nL av w0 post := by
  intro sz
  refine Met.ofW (cc := cc) (maxL := nL) (ret := none) hy rfl ?_
  intro p e s m args below meth c s₁ B hml hv
  obtain ⟨rfl, hsz, hP, hK, hD0⟩ := hv
  have hts := atoms_spec (ws := nr_wm y cc nL none) B.pre
  have hown : s.vm.findClass y.cls = some m.cls := findClass_of_methodNamed B.named
  have hin : meth.name = y.name := (name_of_methodNamed B.named B.method).1
  subst hsz
  have hD := hD0.self (sz := s.heap.size)
  have hX : nb_Cx Γ (va_A w0 s.heap.size) (p, e, nb_rm d mc ms, s, m, av.toArray, below, meth, c, mc, ms) y cc nL none d mc ms := ⟨B.exec, B.bytes, hml, hown, fun w hw => hts w (List.mem_cons_of_mem _ hw), hK, fun q h => Or.inr h, ⟨Nat.le_refl _, Nat.le_refl _⟩, ⟨Nat.le_refl _, Nat.le_refl _⟩, B.returns, B.notSynchronized, fun q => hin.trans q⟩
  rw [lg_entry_eq]
  exact body _ _ hX s.heap [] _ hP hD va_S.rf (hlv ▸ lv_entry av hlen)
theorem N_vret (hX : nb_Cx Γ A X y cc nL none d mc ms) {mc' ms' : Nat} {post : va_W → Prop} (hd : decode cc pc = .ok (.return_, 1)) (hc : cells ≤ mc') (hs : slots ≤ ms') (hp : post ws) : nb_G Γ A X nL (nb_Q Γ A X mc' ms' post) pc lv [] ws cells slots := by
  intro H locs ls hP hD hS hl
  obtain ⟨hx, hb, hml, hown, hts, hK, hA, hR, hC, hret, hlk, hin⟩ := hX
  refine W.widen hc hs ?_
  exact W.vret hx hb hret (fun u hu hW => ⟨⟨ws, rfl, hp, by rw [hu]; exact hP, hD⟩, hS.F hu⟩) hS.2.2 hd hlk
theorem N_aload_n (hX : nb_Cx Γ A X y cc nL ret d mc ms) {k : Fin 4} {x : Nat} (hd : decode cc pc = .ok (.aload_n k, 1)) (hl0 : nr_lg lv (k : Nat) = some (.ref x)) (hn : pc + 1 = n) (kk : nb_G Γ A X nL Q n lv (.ref x :: st) ws cells slots) : nb_G Γ A X nL Q pc lv st ws cells slots := by
  subst hn; intro H locs ls hP hD hS hl; exact lv_aload_n hX.1 hX.2.1 hd rfl (nr_at hl hl0) (kk H locs ls hP hD hS hl)
theorem N_iload_n (hX : nb_Cx Γ A X y cc nL ret d mc ms) {k : Fin 4} {x : Int32} (hd : decode cc pc = .ok (.iload_n k, 1)) (hl0 : nr_lg lv (k : Nat) = some (.int x)) (hn : pc + 1 = n) (kk : nb_G Γ A X nL Q n lv (.int x :: st) ws cells slots) : nb_G Γ A X nL Q pc lv st ws cells slots := by
  subst hn; intro H locs ls hP hD hS hl; exact lv_iload_n hX.1 hX.2.1 hd rfl (nr_at hl hl0) (kk H locs ls hP hD hS hl)
theorem N_iconst (hX : nb_Cx Γ A X y cc nL ret d mc ms) {k : Int} {v : Int32} (hd : decode cc pc = .ok (.iconst k, 1)) (hv : Int32.ofInt k = v) (hn : pc + 1 = n) (kk : nb_G Γ A X nL Q n lv (.int v :: st) ws cells slots) : nb_G Γ A X nL Q pc lv st ws cells slots := by
  subst hn; intro H locs ls hP hD hS hl; exact lv_iconst hX.1 hX.2.1 hd hv (kk H locs ls hP hD hS hl)
theorem N_bipush (hX : nb_Cx Γ A X y cc nL ret d mc ms) {k : Int} {v : Int32} (hd : decode cc pc = .ok (.bipush k, 2)) (hv : (Int8.ofInt k).toInt32 = v) (hn : pc + 2 = n) (kk : nb_G Γ A X nL Q n lv (.int v :: st) ws cells slots) : nb_G Γ A X nL Q pc lv st ws cells slots := by
  subst hn; intro H locs ls hP hD hS hl; exact lv_bipush hX.1 hX.2.1 hd hv (kk H locs ls hP hD hS hl)
theorem N_sipush (hX : nb_Cx Γ A X y cc nL ret d mc ms) {k : Int} {v : Int32} (hd : decode cc pc = .ok (.sipush k, 3)) (hv : (Int16.ofInt k).toInt32 = v) (hn : pc + 3 = n) (kk : nb_G Γ A X nL Q n lv (.int v :: st) ws cells slots) : nb_G Γ A X nL Q pc lv st ws cells slots := by
  subst hn; intro H locs ls hP hD hS hl; exact lv_sipush hX.1 hX.2.1 hd hv (kk H locs ls hP hD hS hl)
theorem N_dup (hX : nb_Cx Γ A X y cc nL ret d mc ms) {v : Value} (hd : decode cc pc = .ok (.dup, 1)) (hv : v.category = 1) (hn : pc + 1 = n) (kk : nb_G Γ A X nL Q n lv (v :: v :: st) ws cells slots) : nb_G Γ A X nL Q pc lv (v :: st) ws cells slots := by
  subst hn; intro H locs ls hP hD hS hl; exact lv_dup hX.1 hX.2.1 hd hv (kk H locs ls hP hD hS hl)
theorem N_istore_n (hX : nb_Cx Γ A X y cc nL ret d mc ms) {k : Fin 4} {x : Int32} {lv' : List (Nat × Value)} (hd : decode cc pc = .ok (.istore_n k, 1)) (hk : (k : Nat) < nL) (hl0 : nr_s1 lv (k : Nat) (.int x) = lv') (hn : pc + 1 = n) (kk : nb_G Γ A X nL Q n lv' st ws cells slots) : nb_G Γ A X nL Q pc lv (.int x :: st) ws cells slots := by
  subst hn; intro H locs ls hP hD hS hl; exact lv_istore_n hX.1 hX.2.1 hd rfl hl hk hl0 (fun ls hl => kk H locs ls hP hD hS hl)
theorem N_astore_n (hX : nb_Cx Γ A X y cc nL ret d mc ms) {k : Fin 4} {x : Nat} {lv' : List (Nat × Value)} (hd : decode cc pc = .ok (.astore_n k, 1)) (hk : (k : Nat) < nL) (hl0 : nr_s1 lv (k : Nat) (.ref x) = lv') (hn : pc + 1 = n) (kk : nb_G Γ A X nL Q n lv' st ws cells slots) : nb_G Γ A X nL Q pc lv (.ref x :: st) ws cells slots := by
  subst hn; intro H locs ls hP hD hS hl; exact lv_astore_n hX.1 hX.2.1 hd rfl hl hk hl0 (fun ls hl => kk H locs ls hP hD hS hl)
theorem N_iinc (hX : nb_Cx Γ A X y cc nL ret d mc ms) {i : Nat} {k : Int} {x v : Int32} {lv' : List (Nat × Value)} (hd : decode cc pc = .ok (.iinc i k, 3)) (hl0 : nr_lg lv i = some (.int x)) (hv : x + Int32.ofInt k = v) (hi : i < nL) (hl1 : nr_s1 lv i (.int v) = lv') (hn : pc + 3 = n) (kk : nb_G Γ A X nL Q n lv' st ws cells slots) : nb_G Γ A X nL Q pc lv st ws cells slots := by
  subst hn; intro H locs ls hP hD hS hl
  obtain ⟨j, hj⟩ := List.getElem?_of_mem (nr_lg_in hl0)
  exact lv_iinc hX.1 hX.2.1 hd hl hj hv hi hl1 (fun ls hl => kk H locs ls hP hD hS hl)
theorem N_icmp_ge (hX : nb_Cx Γ A X y cc nL ret d mc ms) {a b : Int32} {off : Int} {tg : Nat} (hd : decode cc pc = .ok (.if_icmp .ge off, 3)) (ht : (pc : Int) + off = (tg : Int)) (hn : pc + 3 = n) (kt : b ≤ a → nb_G Γ A X nL Q tg lv st ws cells slots) (kf : ¬ (b ≤ a) → nb_G Γ A X nL Q n lv st ws cells slots) : nb_G Γ A X nL Q pc lv (.int b :: .int a :: st) ws cells slots := by
  subst hn; intro H locs ls hP hD hS hl; exact lv_icmp_ge hX.1 hX.2.1 hd ht (fun q => kt q H locs ls hP hD hS hl) (fun q => kf q H locs ls hP hD hS hl)
theorem N_goto (hX : nb_Cx Γ A X y cc nL ret d mc ms) {off : Int} {tg : Nat} (hd : decode cc pc = .ok (.goto off, 3)) (ht : (pc : Int) + off = (tg : Int)) (kk : nb_G Γ A X nL Q tg lv st ws cells slots) : nb_G Γ A X nL Q pc lv st ws cells slots := by
  intro H locs ls hP hD hS hl; exact lv_goto hX.1 hX.2.1 hd ht (kk H locs ls hP hD hS hl)
theorem N_alen (hX : nb_Cx Γ A X y cc nL ret d mc ms) {a q0 N : Nat} {f : Nat → Int32} (hd : decode cc pc = .ok (.arraylength, 1)) (ha : ws[q0]? = some (a, .inl (Γ.2.2.2.1, N, .inl f))) (hn : pc + 1 = n) (kk : nb_G Γ A X nL Q n lv (.int (nI N) :: st) ws cells slots) : nb_G Γ A X nL Q pc lv (.ref a :: st) ws cells slots := by
  subst hn; intro H locs ls hP hD hS hl
  exact va_alen hX.1 hX.2.1 hX.2.2.2.2.2.1 hP q0 0 ha rfl rfl hd (kk H locs ls hP hD hS hl)
theorem N_iast (hX : nb_Cx Γ A X y cc nL ret d mc ms) {a q0 N : Nat} {f : Nat → Int32} {i : Nat} {ix x : Int32} (hd : decode cc pc = .ok (.iastore, 1)) (ha : ws[q0]? = some (a, .inl (Γ.2.2.2.1, N, .inl f))) (hix : ix = nI i) (hi : i < N) (hN : N < 2 ^ 31) (hn : pc + 1 = n) (kk : nb_G Γ A X nL Q n lv st (ws.set q0 (a, .inl (Γ.2.2.2.1, N, .inl (upd f i x)))) cells slots) : nb_G Γ A X nL Q pc lv (.int x :: .int ix :: .ref a :: st) ws cells slots := by
  subst hn; intro H locs ls hP hD hS hl
  subst hix
  refine va_iast hX.1 hX.2.1 hX.2.2.2.2.2.1 hP hD hS q0 0 ha rfl (vp_in_nI hi hN) hd (fun H1 locs1 hP1 hD1 hS1 => ?_)
  rw [nI_clamp (by omega)] at hP1 hD1
  exact kk H1 locs1 ls hP1 hD1 hS1 hl
theorem N_newi (hX : nb_Cx Γ A X y cc nL ret d mc ms) {v : Int32} {N : Nat} (hd : decode cc pc = .ok (.newarray .int, 2)) (hv : v = nI N) (hN : N < 1000) (hc : cells + 1 ≤ mc) (hs : slots + N ≤ ms) (hn : pc + 2 = n) (kk : ∀ q, nb_G Γ A X nL Q n lv (.ref q :: st) (ws ++ [(q, .inl (Γ.2.2.2.1, N, .inl (fun _ => 0)))]) (cells + 1) (slots + N)) : nb_G Γ A X nL Q pc lv (.int v :: st) ws cells slots := by
  subst hn; intro H locs ls hP hD hS hl
  subst hv
  obtain ⟨hx, hb, hml, hown, hts, hK, hA, hR, hC, hret, hlk, hin⟩ := hX
  refine va_newa (atype := .int) (ty := .int) (N' := N) (a0 := (N, .inl (fun _ => 0))) hx hb (hts _ wa_int) rfl hK hP hD hS hA (fun cA => rfl) (nI_pos (by omega)) (nI_clamp (by omega)) ?_ (Nat.le_trans hc hC.1) (Nat.le_trans hs hC.2) hd (fun q cA H1 hK1 hP1 hD1 hS1 => ?_)
  · show N * 4 ≤ 536870912
    omega
  · have e1 := (hK1.2 2 (cA, .int) rfl).2
    have e2 := (hK.2 0 (Γ.2.2.2.1, .int) rfl).2
    have e : cA = Γ.2.2.2.1 := Option.some.inj (Eq.trans (Eq.symm e1) e2)
    subst e
    exact kk q H1 locs ls hP1 hD1 hS1 hl
theorem N_newz (hX : nb_Cx Γ A X y cc nL ret d mc ms) {v : Int32} {N : Nat} (hd : decode cc pc = .ok (.newarray .boolean, 2)) (hv : v = nI N) (hN : N < 1000) (hc : cells + 1 ≤ mc) (hs : slots + N ≤ ms) (hn : pc + 2 = n) (kk : ∀ q, nb_G Γ A X nL Q n lv (.ref q :: st) (ws ++ [(q, .inl (Γ.2.2.2.2, N, .inl (fun _ => 0)))]) (cells + 1) (slots + N)) : nb_G Γ A X nL Q pc lv (.int v :: st) ws cells slots := by
  subst hn; intro H locs ls hP hD hS hl
  subst hv
  obtain ⟨hx, hb, hml, hown, hts, hK, hA, hR, hC, hret, hlk, hin⟩ := hX
  refine va_newa (atype := .boolean) (ty := .boolean) (N' := N) (a0 := (N, .inl (fun _ => 0))) hx hb (hts _ wa_boolean) rfl hK hP hD hS hA (fun cA => rfl) (nI_pos (by omega)) (nI_clamp (by omega)) ?_ (Nat.le_trans hc hC.1) (Nat.le_trans hs hC.2) hd (fun q cA H1 hK1 hP1 hD1 hS1 => ?_)
  · show N * 1 ≤ 536870912
    omega
  · have e1 := (hK1.2 2 (cA, .boolean) rfl).2
    have e2 := (hK.2 1 (Γ.2.2.2.2, .boolean) rfl).2
    have e : cA = Γ.2.2.2.2 := Option.some.inj (Eq.trans (Eq.symm e1) e2)
    subst e
    exact kk q H1 locs ls hP1 hD1 hS1 hl
/-- a class that may be made, its fields at first -/
def nb_NW (own : String) (idx ci N : Nat) (fs : List Value) : Prop := ∃ (C : String) (T : u_T) (ty : Nat → FieldType), vwCl[ci]? = some (C, T, N) ∧ (∀ w ∈ u_ws C T N, w ∈ nr_tb) ∧ (∀ k, k < N → parseFieldDescriptor (T k).2.2.1 = some (ty k)) ∧ Cond.classLink own idx C ∈ nr_tb ∧ Cond.instantiable C N ∈ nr_tb ∧ Cond.initialized C ∈ nr_tb ∧ ∀ j, j < N → defaultValue (ty j) = vp_V fs j
theorem N_new (hX : nb_Cx Γ A X y cc nL ret d mc ms) {idx ci N : Nat} {fs : List Value} (hd : decode cc pc = .ok (.new idx, 3)) (hO : nb_NW y.cls idx ci N fs) (hc : cells + 1 ≤ mc) (hs : slots + N ≤ ms) (hn : pc + 3 = n) (kk : ∀ q, nb_G Γ A X nL Q n lv (.ref q :: st) (ws ++ [(q, .inr (ci, fs))]) (cells + 1) (slots + N)) : nb_G Γ A X nL Q pc lv st ws cells slots := by
  subst hn; intro H locs ls hP hD hS hl
  obtain ⟨hx, hb, hml, hown, hts, hK, hA, hR, hC, hret, hlk, hin⟩ := hX
  obtain ⟨C, T, ty, o1, o2, o3, o4, o5, o6, o7⟩ := hO
  exact va_new hx hb hts o2 ty o3 hown (hts _ o4) (hts _ o5) (hts _ o6) hK hP hD hS hA o1 o7 (Nat.le_trans hc hC.1) (Nat.le_trans hs hC.2) hd (fun q H1 hP1 hD1 hS1 => kk q H1 locs ls hP1 hD1 hS1 hl)
/-- a final field, put by the constructor -/
def nb_FF (own : String) (idx ci j : Nat) (ty : FieldType) : Prop := ∃ (C : String) (T : u_T) (N : Nat) (ty0 : Nat → FieldType), vwCl[ci]? = some (C, T, N) ∧ (∀ w ∈ u_ws C T N, w ∈ nr_tb) ∧ (∀ k, k < N → parseFieldDescriptor (T k).2.2.1 = some (ty0 k)) ∧ (∀ a, a < N → ∀ b, b < N → a ≠ b → (T a).2.1 ≠ (T b).2.1) ∧ j < N ∧ Cond.fieldLink own idx (T j).1 (T j).2.1 (T j).2.2.1 ∈ nr_tb ∧ (T j).2.2.2 = true ∧ (T j).1 = own ∧ parseFieldDescriptor (T j).2.2.1 = some ty
theorem N_putF (hX : nb_Cx Γ A X y cc nL ret d mc ms) {idx ci j a q0 : Nat} {fs : List Value} {v : Value} {ty : FieldType} (hd : decode cc pc = .ok (.putfield idx, 3)) (hF : nb_FF y.cls idx ci j ty) (ha : ws[q0]? = some (a, .inr (ci, fs))) (hj : j < fs.length) (hi : y.name = "<init>") (hna : narrow ty v = v) (hfi : fits ty v = true) (hn : pc + 3 = n) (kk : nb_G Γ A X nL Q n lv st (ws.set q0 (a, .inr (ci, fs.set j v))) cells slots) : nb_G Γ A X nL Q pc lv (v :: .ref a :: st) ws cells slots := by
  subst hn; intro H locs ls hP hD hS hl
  obtain ⟨hx, hb, hml, hown, hts, hK, hA, hR, hC, hret, hlk, hin⟩ := hX
  obtain ⟨C, T, N, ty0, o1, o2, o3, o4, o5, o6, o7, o8, o9⟩ := hF
  exact va_putF hx hb hts o2 ty0 o3 o4 hown hK hP hD hS q0 ha o1 j o5 (hts _ o6) (fun _ q => q) o7 (hin hi) o8 o9 hna hfi hj hd (fun H1 locs1 hP1 hD1 hS1 => kk H1 locs1 ls hP1 hD1 hS1 hl)
theorem N_put (hX : nb_Cx Γ A X y cc nL ret d mc ms) {idx ci j a q0 : Nat} {fs : List Value} {v : Value} {ty : FieldType} (hd : decode cc pc = .ok (.putfield idx, 3)) (hF : nr_FP y.cls idx ci j ty) (ha : ws[q0]? = some (a, .inr (ci, fs))) (hj : j < fs.length) (hna : narrow ty v = v) (hfi : fits ty v = true) (hn : pc + 3 = n) (kk : nb_G Γ A X nL Q n lv st (ws.set q0 (a, .inr (ci, fs.set j v))) cells slots) : nb_G Γ A X nL Q pc lv (v :: .ref a :: st) ws cells slots := by
  subst hn; intro H locs ls hP hD hS hl
  obtain ⟨hx, hb, hml, hown, hts, hK, hA, hR, hC, hret, hlk, hin⟩ := hX
  obtain ⟨C, T, N, ty0, o1, o2, o3, o4, o5, o6, o7, o9⟩ := hF
  exact va_put hx hb hts o2 ty0 o3 o4 hown hK hP hD hS q0 ha o1 j o5 (hts _ o6) (fun _ q => q) o7 o9 hna hfi hj hd (fun H1 locs1 hP1 hD1 hS1 => kk H1 locs1 ls hP1 hD1 hS1 hl)
theorem N_get (hX : nb_Cx Γ A X y cc nL ret d mc ms) {idx ci j a q0 : Nat} {fs : List Value} {v : Value} (hd : decode cc pc = .ok (.getfield idx, 3)) (hF : nr_FL y.cls idx ci j) (ha : ws[q0]? = some (a, .inr (ci, fs))) (hv : fs[j]? = some v) (hn : pc + 3 = n) (kk : nb_G Γ A X nL Q n lv (v :: st) ws cells slots) : nb_G Γ A X nL Q pc lv (.ref a :: st) ws cells slots := by
  subst hn; intro H locs ls hP hD hS hl
  obtain ⟨hx, hb, hml, hown, hts, hK, hA, hR, hC, hret, hlk, hin⟩ := hX
  obtain ⟨C, T, N, hc, o2, hj, hlk⟩ := hF
  rcases hlk with hlk | ⟨host, hlk⟩
  · exact va_get hx hb hts o2 hown hK hP q0 ha hc j hj (hts _ hlk) (fun _ q => q) hv hd (kk H locs ls hP hD hS hl)
  · exact va_getN hx hb hts o2 hown hK hP q0 ha hc j hj (hts _ hlk) (fun _ q => q) hv hd (kk H locs ls hP hD hS hl)
theorem N_obj (hX : nb_Cx Γ A X y cc nL ret d mc ms) {idx a : Nat} (hd : decode cc pc = .ok (.invokespecial idx, 3)) (hl0 : Cond.methodLink y.cls idx objectInit ∈ nr_tb) (hdd : 1 ≤ d) (hw : (st.map fun v => v.category).sum ≤ 8) (hn : pc + 3 = n) (kk : nb_G Γ A X nL Q n lv st ws cells slots) : nb_G Γ A X nL Q pc lv (.ref a :: st) ws cells slots := by
  subst hn; intro H locs ls hP hD hS hl
  obtain ⟨hx, hb, hml, hown, hts, hK, hA, hR, hC, hret, hlk, hin⟩ := hX
  refine W.objInit hx hb hown (hts _ hl0) (hts _ wi_objectInit) (hts _ wc_objectInit) rfl (by rw [hml]; exact hl.1) rfl hd (Nat.le_trans hdd hR.1) ?_ ?_
  · have := hR.2
    have e : 2 * (F0 X.2.2.2.2.1 pc ls (Value.ref a :: st)).monitorRoom = 0 := rfl
    omega
  · exact W.eq (g2 := F0 X.2.2.2.2.1 (pc + 3) ls st) rfl (kk H locs ls hP hD hS hl)
theorem nb_blind {av : List Value} {w0 : va_W} {sz : Nat} : FrameBlind (va_Pc av (fun U => U.heap.size = sz ∧ va_P (Γ.2.1, Γ.2.2.1) vwCl w0 U.heap ∧ va_K (Γ.2.1, Γ.2.2.1) vwCl (nb_T Γ) U ∧ va_D (fun _ => True) w0)) := by
  intro a U f mk q
  obtain ⟨q0, q1, qP, qK, qD⟩ := q
  exact ⟨q0, q1, qP, va_K.moved (u := U) (U := U.calling f mk a) (Vm.Alike.refl U.vm) qK, qD⟩
theorem nb_words (hX : nb_Cx Γ A X y cc nL ret d mc ms) {y' : MethodName} {cc' : ByteArray} {nL' na : Nat} (hM : nr_ML y' cc' nL' none na) : ∀ w ∈ nr_wm y' cc' nL' none, ∀ (a' : Array Value) (U : State), X.2.2.2.1.WarmedH U.vm → w.before a' U = true := by
  obtain ⟨hx, hb, hml, hown, hts, hK, hA, hR, hC, hret, hlk, hin⟩ := hX
  intro w hw a' U hW
  rcases List.mem_cons.mp hw with rfl | hw
  · exact nr_tb_warm hts hW _ hM.1
  · exact nr_tb_warm hts hW _ hw
/-- what a call of a method that makes things leaves -/
theorem nb_after (hX : nb_Cx Γ A X y cc nL ret d mc ms) {wc wr : va_W} {isC isR : List Nat} {mc' ms' : Nat} {post : va_W → Prop} {st0 : List Value} (hC : isC.map (fun i => ws[i]?) = wc.map some) (hR : isR.map (fun i => ws[i]?) = wr.map some) (hnd : va_nd isR = true) (hdis : ∀ i ∈ isR, i ∉ isC) (kk : ∀ w1, post w1 → nb_G Γ A X nL Q (pc + 3) lv st (wr ++ w1) (cells + mc') (slots + ms'))
    {H : Heap} {locs : List Loc} {ls : Array Slot} {a : Array Value} (hP : va_P (Γ.2.1, Γ.2.2.1) vwCl ws H) (hD : va_D A ws) (hS : va_S A X.2.2.2.1.heap H locs) (hl : lv_has ls nL lv)
    (hr : va_Run X.1 Γ.1 X.2.1 X.2.2.1 X.2.2.2.1 X.2.2.2.2.1 X.2.2.2.2.2.1 X.2.2.2.2.2.2.1 X.2.2.2.2.2.2.2.1 X.2.2.2.2.2.2.2.2.1 H locs cells slots mc' ms' (F0 X.2.2.2.2.1 pc ls st0) st (va_Qv post (fun w t => va_P (Γ.2.1, Γ.2.2.1) vwCl w t.heap ∧ va_D (va_A wc H.size) w) (va_A wc H.size) a) (va_A wc H.size)) :
    W X.1 Γ.1 X.2.1 X.2.2.1 X.2.2.2.1 X.2.2.2.2.1 X.2.2.2.2.2.1 X.2.2.2.2.2.2.1 X.2.2.2.2.2.2.2.1 X.2.2.2.2.2.2.2.2.1 H locs cells slots Q (F0 X.2.2.2.2.1 pc ls st0) := by
  have hFc := va_free (wc := wc) hD hS hX.2.2.2.2.2.2.1 isC hC
  refine va_callv hr hS (fun q _ h => hFc q h) hFc (fun u t H1 locs1 ht hvm hw hB hz1 hk1 hS1 => ?_)
  obtain ⟨hP1, hD1⟩ := hB
  rw [ht] at hP1
  obtain ⟨hP2, hD2⟩ := va_join (wr := wr) (w1 := u) hP hD isC isR hC hR hnd hdis hk1 hFc hP1 hD1
  exact kk u hw H1 locs1 ls hP2 hD2 hS1 hl
theorem nb_room (hX : nb_Cx Γ A X y cc nL ret d mc ms) {y' : MethodName} {cc' : ByteArray} {nL' na d' mc' ms' : Nat} (hM : nr_ML y' cc' nL' none na) (hdd : d' + 1 ≤ d) : (nb_rm d' mc' ms').frames + 1 ≤ X.2.2.1.frames ∧ 8 + (nL' + 11) + (nb_rm d' mc' ms').locals ≤ X.2.2.1.locals := by
  obtain ⟨hx, hb, hml, hown, hts, hK, hA, hR, hC, hret, hlk, hin⟩ := hX
  have h5 := hM.2.2.2.2
  have h6 := hR.2
  refine ⟨Nat.le_trans hdd hR.1, ?_⟩
  simp only [nb_rm]
  omega
theorem nb_pre (hX : nb_Cx Γ A X y cc nL ret d mc ms) {wc : va_W} {isC : List Nat} (hC : isC.map (fun i => ws[i]?) = wc.map some) (hndC : va_nd isC = true) {H : Heap} (hP : va_P (Γ.2.1, Γ.2.2.1) vwCl ws H) (hD : va_D A ws) (av : List Value) : ∀ U : State, U.heap = H → X.2.2.2.1.WarmedH U.vm → va_Pc av (fun U => U.heap.size = H.size ∧ va_P (Γ.2.1, Γ.2.2.1) vwCl wc U.heap ∧ va_K (Γ.2.1, Γ.2.2.1) vwCl (nb_T Γ) U ∧ va_D (fun _ => True) wc) av.toArray U := by
  obtain ⟨hx, hb, hml, hown, hts, hK, hA, hR, hCs, hret, hlk, hin⟩ := hX
  intro U hU hW
  exact ⟨rfl, by rw [hU], by rw [hU]; exact nb_sub hP isC hC, va_K.moved hW.alike hK, (hD.sub isC hndC hC).weaken (fun _ _ _ _ => trivial)⟩
theorem N_callI (hX : nb_Cx Γ A X y cc nL ret d mc ms) {idx b : Nat} {y' : MethodName} {cc' : ByteArray} {nL' na d' mc' ms' : Nat} {As st0 : List Value} {wc wr : va_W} {isC isR : List Nat} {post : va_W → Prop} (hd : decode cc pc = .ok (.invokespecial idx, 3)) (hl0 : Cond.methodLink y.cls idx y' ∈ nr_tb ∨ ∃ host, Cond.methodLinkNest y.cls idx y' host ∈ nr_tb) (hi : Cond.instanceMethod y' ∈ nr_tb) (hy : y'.name = "<init>") (hM : nr_ML y' cc' nL' none na) (hC : nb_C Γ d' mc' ms' y' cc' nL' (.ref b :: As) wc post) (hdd : d' + 1 ≤ d) (hlen : As.length = na) (hst0 : st0 = As.reverse ++ .ref b :: st) (hw : (st.map fun v => v.category).sum ≤ 8) (isCe : isC.map (fun i => ws[i]?) = wc.map some) (hndC : va_nd isC = true) (isRe : isR.map (fun i => ws[i]?) = wr.map some) (hnd : va_nd isR = true) (hdis : ∀ i ∈ isR, i ∉ isC) (hcc : cells + mc' ≤ mc) (hss : slots + ms' ≤ ms) (hn : pc + 3 = n) (kk : ∀ w1, post w1 → nb_G Γ A X nL Q n lv st (wr ++ w1) (cells + mc') (slots + ms')) : nb_G Γ A X nL Q pc lv st0 ws cells slots := by
  subst hn; intro H locs ls hP hD hS hl
  have hrm := nb_room (d' := d') (mc' := mc') (ms' := ms') hX hM hdd
  have hwd := nb_words hX hM
  have hpre := nb_pre hX isCe hndC hP hD (.ref b :: As)
  have hX0 := hX
  obtain ⟨hx, hb, hml, hown, hts, hK, hA, hR, hCs, hret, hlk, hin⟩ := hX
  obtain ⟨m1, m2, m3, m4, m5⟩ := hM
  refine nb_after hX0 isCe isRe hnd hdis kk hP hD hS hl (a := (Value.ref b :: As).toArray) ?_
  rcases hl0 with hl0 | ⟨host, hl0⟩
  · exact va_runI (As := As) (rest := st) ⟨hx, hb, hml, hown, hts⟩ (hC H.size) ⟨⟨rfl, rfl, hrm.1, hrm.2, hwd, List.mem_cons_self, hts _ m1, hts _ m2, m3, nr_desc m4, hts _ hl0⟩, hy, hts _ hi⟩ ⟨nb_blind, hpre⟩ rfl hlen hl.1 hst0 (lv_room hw) hd ⟨Nat.le_trans hcc hCs.1, Nat.le_trans hss hCs.2⟩
  · exact va_runIN (As := As) (rest := st) ⟨hx, hb, hml, hown, hts⟩ (hC H.size) ⟨⟨⟨rfl, rfl, hrm.1, hrm.2, hwd, List.mem_cons_self⟩, hts _ m1, hts _ m2, m3, nr_desc m4, hts _ hl0⟩, hy, hts _ hi⟩ ⟨nb_blind, hpre⟩ rfl hlen hl.1 hst0 (lv_room hw) hd ⟨Nat.le_trans hcc hCs.1, Nat.le_trans hss hCs.2⟩
theorem N_callV (hX : nb_Cx Γ A X y cc nL ret d mc ms) {idx b ci q0 : Nat} {y' : MethodName} {cc' : ByteArray} {nL' na d' mc' ms' : Nat} {As st0 fs : List Value} {wc wr : va_W} {isC isR : List Nat} {post : va_W → Prop} (hd : decode cc pc = .ok (.invokevirtual idx, 3)) (hL : nr_LV y.cls idx ci y' cc' nL' none na) (hC : nb_C Γ d' mc' ms' y' cc' nL' (.ref b :: As) wc post) (hdd : d' + 1 ≤ d) (hb0 : ws[q0]? = some (b, .inr (ci, fs))) (hlen : As.length = na) (hst0 : st0 = As.reverse ++ .ref b :: st) (hw : (st.map fun v => v.category).sum ≤ 8) (isCe : isC.map (fun i => ws[i]?) = wc.map some) (hndC : va_nd isC = true) (isRe : isR.map (fun i => ws[i]?) = wr.map some) (hnd : va_nd isR = true) (hdis : ∀ i ∈ isR, i ∉ isC) (hcc : cells + mc' ≤ mc) (hss : slots + ms' ≤ ms) (hn : pc + 3 = n) (kk : ∀ w1, post w1 → nb_G Γ A X nL Q n lv st (wr ++ w1) (cells + mc') (slots + ms')) : nb_G Γ A X nL Q pc lv st0 ws cells slots := by
  subst hn; intro H locs ls hP hD hS hl
  obtain ⟨l1, l2, l3, hM, T, N, l5⟩ := hL
  have hrm := nb_room (d' := d') (mc' := mc') (ms' := ms') hX hM hdd
  have hwd := nb_words hX hM
  have hpre := nb_pre hX isCe hndC hP hD (.ref b :: As)
  have hX0 := hX
  obtain ⟨hx, hb, hml, hown, hts, hK, hA, hR, hCs, hret, hlk, hin⟩ := hX
  obtain ⟨m1, m2, m3, m4, m5⟩ := hM
  refine nb_after hX0 isCe isRe hnd hdis kk hP hD hS hl (a := (Value.ref b :: As).toArray) ?_
  exact va_runV (C := y'.cls) (As := As) (rest := st) ⟨hx, hb, hml, hown, hts⟩ (hC H.size) ⟨⟨rfl, rfl, hrm.1, hrm.2, hwd, List.mem_cons_self, hts _ m1, hts _ m2, m3, nr_desc m4, hts _ l1⟩, hts _ l2, hts _ l3⟩ ⟨nb_blind, va_recv (q := (y'.cls, T, N)) hK hP l5 hb0, hpre⟩ rfl hlen hl.1 hst0 (lv_room hw) hd ⟨Nat.le_trans hcc hCs.1, Nat.le_trans hss hCs.2⟩
theorem N_callS (hX : nb_Cx Γ A X y cc nL ret d mc ms) {idx : Nat} {y' : MethodName} {cc' : ByteArray} {nL' na d' mc' ms' : Nat} {As st0 : List Value} {wc wr : va_W} {isC isR : List Nat} {post : va_W → Prop} (hd : decode cc pc = .ok (.invokestatic idx, 3)) (hL : nr_LS y.cls idx y' cc' nL' none na) (hC : nb_C Γ d' mc' ms' y' cc' nL' As wc post) (hdd : d' + 1 ≤ d) (hlen : As.length = na) (hst0 : st0 = As.reverse ++ st) (hw : (st.map fun v => v.category).sum ≤ 8) (isCe : isC.map (fun i => ws[i]?) = wc.map some) (hndC : va_nd isC = true) (isRe : isR.map (fun i => ws[i]?) = wr.map some) (hnd : va_nd isR = true) (hdis : ∀ i ∈ isR, i ∉ isC) (hcc : cells + mc' ≤ mc) (hss : slots + ms' ≤ ms) (hn : pc + 3 = n) (kk : ∀ w1, post w1 → nb_G Γ A X nL Q n lv st (wr ++ w1) (cells + mc') (slots + ms')) : nb_G Γ A X nL Q pc lv st0 ws cells slots := by
  subst hn; intro H locs ls hP hD hS hl
  obtain ⟨l1, l2, hM⟩ := hL
  have hrm := nb_room (d' := d') (mc' := mc') (ms' := ms') hX hM hdd
  have hwd := nb_words hX hM
  have hpre := nb_pre hX isCe hndC hP hD As
  have hX0 := hX
  obtain ⟨hx, hb, hml, hown, hts, hK, hA, hR, hCs, hret, hlk, hin⟩ := hX
  obtain ⟨m1, m2, m3, m4, m5⟩ := hM
  refine nb_after hX0 isCe isRe hnd hdis kk hP hD hS hl (a := As.toArray) ?_
  rcases l1 with l1 | ⟨host, l1⟩
  · exact va_runS (As := As) (rest := st) ⟨hx, hb, hml, hown, hts⟩ (hC H.size) ⟨⟨rfl, rfl, hrm.1, hrm.2, hwd, List.mem_cons_self, hts _ m1, hts _ m2, m3, nr_desc m4, hts _ l1⟩, hts _ l2⟩ ⟨nb_blind, hpre⟩ rfl hlen hl.1 hst0 (lv_room hw) hd ⟨Nat.le_trans hcc hCs.1, Nat.le_trans hss hCs.2⟩
  · exact va_runSN (As := As) (rest := st) ⟨hx, hb, hml, hown, hts⟩ (hC H.size) ⟨⟨⟨rfl, rfl, hrm.1, hrm.2, hwd, List.mem_cons_self⟩, hts _ m1, hts _ m2, m3, nr_desc m4, hts _ l1⟩, hts _ l2, trivial⟩ ⟨nb_blind, hpre⟩ rfl hlen hl.1 hst0 (lv_room hw) hd ⟨Nat.le_trans hcc hCs.1, Nat.le_trans hss hCs.2⟩
end
