/-! rows that the decompiled walks use -/
def nr_st (g : Nat → Nat → Int32) (k : Nat) (i x : Int32) : Nat → Nat → Int32 := va_up g k (upd (g k) i.toNatClampNeg x)
def nr_cp (g : Nat → Nat → Int32) (k0 k1 : Nat) (sp dp m : Int32) : Nat → Nat → Int32 := va_up g k1 (va_cpy (g k0) (g k1) sp.toNatClampNeg dp.toNatClampNeg m.toNatClampNeg)
def nr_rem (a b : Int32) : Int32 := a - a / b * b
def nr_lrem (a b : Int64) : Int64 := a - a / b * b
theorem nr_ho_lt {b : Nat} (hb : nr_ho b) : b < 2 ^ 31 := by rcases hb with rfl | rfl <;> decide
theorem nr_ta_lt {t : Nat} (ht : nr_ta t) : t < 2 ^ 31 := by rcases ht with rfl | rfl <;> decide
section
variable {Γ : nr_M} {ρ : Nat → Nat} {X : nr_CX} {y : MethodName} {cc : ByteArray} {nL : Nat} {ret : Option FieldType} {d : Nat} {Q : State → Prop} {pc n : Nat} {lv : List (Nat × Value)} {st : List Value} {z : Nat → Int32} {g : Nat → Nat → Int32}
theorem G_ist (hX : nr_Cx Γ ρ X y cc nL ret d) {k N : Nat} {i x : Int32} (hd : decode cc pc = .ok (.iastore, 1)) (hk : nr_il k = N) (h0 : 0 < N) (hin : vp_in i N) (hn : pc + 1 = n) (kk : nr_G Γ ρ X nL Q n lv st z (nr_st g k i x)) : nr_G Γ ρ X nL Q pc lv (.int x :: .int i :: .ref (ρ k) :: st) z g := G_iast hX hd hk h0 hin hn kk
theorem G_zst (hX : nr_Cx Γ ρ X y cc nL ret d) {i x : Int32} (hd : decode cc pc = .ok (.bastore, 1)) (hin : vp_in i 9) (hna : vp_nar .boolean x = x) (hn : pc + 1 = n) (kk : nr_G Γ ρ X nL Q n lv st z (nr_st g 32 i x)) : nr_G Γ ρ X nL Q pc lv (.int x :: .int i :: .ref (ρ 32) :: st) z g := G_zast hX hd hin hna hn kk
theorem G_cpy (hX : nr_Cx Γ ρ X y cc nL ret d) {idx k0 k1 N0 N1 : Nat} {sp dp m : Int32} (hd : decode cc pc = .ok (.invokestatic idx, 3)) (h1 : Cond.methodLink y.cls idx arraycopyName ∈ nr_tb) (hdd : 1 ≤ d) (hw : (st.map fun v => v.category).sum ≤ 8) (hk0 : nr_il k0 = N0) (h00 : 0 < N0) (hk1 : nr_il k1 = N1) (h01 : 0 < N1) (c1 : ¬ sp < 0) (c2 : ¬ dp < 0) (c3 : ¬ m < 0) (c4 : sp.toNatClampNeg + m.toNatClampNeg ≤ N0) (c5 : dp.toNatClampNeg + m.toNatClampNeg ≤ N1) (hn : pc + 3 = n) (kk : nr_G Γ ρ X nL Q n lv st z (nr_cp g k0 k1 sp dp m)) : nr_G Γ ρ X nL Q pc lv (.int m :: .int dp :: .ref (ρ k1) :: .int sp :: .ref (ρ k0) :: st) z g := G_copy hX hd h1 hdd hw hk0 h00 hk1 h01 c1 c2 c3 c4 c5 hn kk
end
