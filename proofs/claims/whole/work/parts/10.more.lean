/-! rows that the decompiled walks use -/
def nr_st (g : Nat → Nat → Int32) (k : Nat) (i x : Int32) : Nat → Nat → Int32 := va_up g k (upd (g k) i.toNatClampNeg x)
def nr_cp (g : Nat → Nat → Int32) (k0 k1 : Nat) (sp dp m : Int32) : Nat → Nat → Int32 := va_up g k1 (va_cpy (g k0) (g k1) sp.toNatClampNeg dp.toNatClampNeg m.toNatClampNeg)
def nr_rem (a b : Int32) : Int32 := a - a / b * b
def nr_lrem (a b : Int64) : Int64 := a - a / b * b
theorem nr_ho_lt {b : Nat} (hb : nr_ho b) : b < 2 ^ 31 := by rcases hb with rfl | rfl <;> decide
theorem nr_ta_lt {t : Nat} (ht : nr_ta t) : t < 2 ^ 31 := by rcases ht with rfl | rfl <;> decide
section
variable {Γ : nr_M} {ρ : Nat → Nat} {X : nr_CX} {y : MethodName} {cc : ByteArray} {nL : Nat} {ret : Option FieldType} {d : Nat} {Q : State → Prop} {pc n : Nat} {lv : List (Nat × Value)} {st : List Value} {z : Nat → Int32} {g : Nat → Nat → Int32}
theorem G_ist (hX : nr_Cx Γ ρ X y cc nL ret d) {k N : Nat} {i x : Int32} (hd : decode cc pc = .ok (.iastore, 1)) (hk : nr_il k = N) (h0 : 0 < N) (hin : vp_in i N) (hn : pc + 1 = n) (kk : nr_G Γ ρ X nL Q n lv st z (nr_st g k i x)) : nr_G Γ ρ X nL Q pc lv (.int x :: .int i :: .ref (ρ k) :: st) z g := G_iast hX hd hk h0 hin hn kk
theorem G_zst (hX : nr_Cx Γ ρ X y cc nL ret d) {i x : Int32} (hd : decode cc pc = .ok (.bastore, 1)) (hin : vp_in i 9) (hna : vp_nar .boolean x = x) (hn : pc + 1 = n) (kk : nr_G Γ ρ X nL Q n lv st z (nr_st g 32 i x)) : nr_G Γ ρ X nL Q pc lv (.int x :: .int i :: .ref (ρ 32) :: st) z g := G_zast hX hd hin hna hn kk
theorem G_cpy (hX : nr_Cx Γ ρ X y cc nL ret d) {idx k0 k1 N0 N1 : Nat} {sp dp m : Int32} (hd : decode cc pc = .ok (.invokestatic idx, 3)) (h1 : Cond.methodLink y.cls idx arraycopyName ∈ nr_tb) (hdd : 1 ≤ d) (hw : (st.map fun v => v.category).sum ≤ 8) (hk0 : nr_il k0 = N0) (h00 : 0 < N0) (hk1 : nr_il k1 = N1) (h01 : 0 < N1) (c1 : ¬ sp < 0) (c2 : ¬ dp < 0) (c3 : ¬ m < 0) (c4 : sp.toNatClampNeg + m.toNatClampNeg ≤ N0) (c5 : dp.toNatClampNeg + m.toNatClampNeg ≤ N1) (hn : pc + 3 = n) (kk : nr_G Γ ρ X nL Q n lv st z (nr_cp g k0 k1 sp dp m)) : nr_G Γ ρ X nL Q pc lv (.int m :: .int dp :: .ref (ρ k1) :: .int sp :: .ref (ρ k0) :: st) z g := G_copy hX hd h1 hdd hw hk0 h00 hk1 h01 c1 c2 c3 c4 c5 hn kk
end
/-! an answer that is a cell of the world: withKeys, withRoom -/
def nr_Sr (k : Nat) (Γ : nr_M) (ρ : Nat → Nat) (d : Nat) (y : MethodName) (cc : ByteArray) (nL : Nat) (ret : Option FieldType) (av : List Value) (z : Nat → Int32) (g : Nat → Nat → Int32) (post : nr_S → Prop) : Prop :=
  Met Γ.1 y (nr_wm y cc nL ret) (nr_rm d) (va_Pc av (nr_PW Γ ρ z g)) (va_Qr post (fun u a U => a = ρ k ∧ nr_Bi Γ ρ u U) (nr_A ρ)) 0 0 (nr_A ρ)
def nr_Qr (k : Nat) (Γ : nr_M) (ρ : Nat → Nat) (X : nr_CX) (post : nr_S → Prop) : State → Prop := MQ X.2.2.2.2.2.2.1 (va_Qr post (fun u a U => a = ρ k ∧ nr_Bi Γ ρ u U) (nr_A ρ)) X.2.2.2.2.2.1 X.2.2.2.1 X.2.2.2.2.2.2.2.2.2.1 X.2.2.2.2.2.2.2.2.2.2 (nr_A ρ)
section
variable {Γ : nr_M} {ρ : Nat → Nat} {X : nr_CX} {y : MethodName} {cc : ByteArray} {nL : Nat} {ret : Option FieldType} {d : Nat} {Q : State → Prop} {pc n : Nat} {lv : List (Nat × Value)} {st : List Value} {z : Nat → Int32} {g : Nat → Nat → Int32}
theorem nr_body_r {k : Nat} (hy : plainName y.cls = true) {av : List Value} {post : nr_S → Prop} (hlen : (lg_sl av).length ≤ nL) (hlv : lv_args 0 av = lv)
    (body : ∀ X, nr_Cx Γ ρ X y cc nL ret d → nr_G Γ ρ X nL (nr_Qr k Γ ρ X post) 0 lv [] z g) : nr_Sr k Γ ρ d y cc nL ret av z g post := by
  refine Met.ofW (cc := cc) (maxL := nL) (ret := ret) hy rfl ?_
  intro p e s m args below meth c s₁ B hml hv
  obtain ⟨rfl, hP, hK, hI, hst⟩ := hv
  have hts := atoms_spec (ws := nr_wm y cc nL ret) B.pre
  have hown : s.vm.findClass y.cls = some m.cls := findClass_of_methodNamed B.named
  have hX : nr_Cx Γ ρ (p, e, nr_rm d, s, m, av.toArray, below, meth, c, 0, 0) y cc nL ret d := ⟨B.exec, B.bytes, hml, hown, fun w hw => hts w (List.mem_cons_of_mem _ hw), hK, hI, hst, ⟨Nat.le_refl _, Nat.le_refl _⟩, ⟨Nat.le_refl _, Nat.le_refl _⟩, B.returns, B.notSynchronized⟩
  rw [lg_entry_eq]
  exact body _ hX s.heap [] _ hP va_S.rf (hlv ▸ lv_entry av hlen)
theorem G_aret {k : Nat} {nm : String} (hX : nr_Cx Γ ρ X y cc nL (some (.object nm)) d) {post : nr_S → Prop} (hd : decode cc pc = .ok (.areturn, 1)) (hp : post (z, g)) : nr_G Γ ρ X nL (nr_Qr k Γ ρ X post) pc lv [.ref (ρ k)] z g := by
  intro H locs ls hP hS hl
  have hX0 := hX
  obtain ⟨hx, hb, hml, hown, hts, hK, hI, hst, hR, hC, hret, hlk⟩ := hX
  exact W.aret hx hb hret (Or.inl ⟨_, rfl⟩) (Or.inr ⟨_, rfl⟩) (fun u hu hW => ⟨⟨(z, g), ρ k, rfl, hp, rfl, nr_PW_of hX0 hP hS hu hW.alike⟩, by rw [hu]; exact hS.1, fun q h1 h2 => by rw [hu]; exact hS.2.1 q h1 h2⟩) hS.2.2 hd hlk
theorem G_cVr (hX : nr_Cx Γ ρ X y cc nL ret d) {idx ci k ka : Nat} {y' : MethodName} {cc' : ByteArray} {nL' na d' : Nat} {ret' : Option FieldType} {As st0 : List Value} {post : nr_S → Prop} (hd : decode cc pc = .ok (.invokevirtual idx, 3)) (hL : nr_LV y.cls idx ci y' cc' nL' ret' na) (hM : nr_Sr ka Γ ρ d' y' cc' nL' ret' (.ref (ρ k) :: As) z g post) (hdd : d' + 1 ≤ d) (hk : nr_isC k ci) (hlen : As.length = na) (hst0 : st0 = As.reverse ++ .ref (ρ k) :: st) (hw : (st.map fun v => v.category).sum ≤ 8) (hn : pc + 3 = n) (kk : ∀ (u : nr_S), post u → nr_G Γ ρ X nL Q n lv (.ref (ρ ka) :: st) u.1 u.2) : nr_G Γ ρ X nL Q pc lv st0 z g := by
  subst hn; intro H locs ls hP hS hl
  refine va_callr (nr_runV hX hd hL hM hdd hk hlen hst0 hw hP hS hl) hS (fun _ _ q => q) (fun _ q => q) (fun u ra t1 H1 locs1 ht1 hvm hpo hB hz1 hk1 hS1 => ?_)
  obtain ⟨rfl, hB⟩ := hB
  have hP1 := hB.1
  rw [ht1] at hP1
  exact kk u hpo H1 locs1 ls hP1 hS1 hl
end
