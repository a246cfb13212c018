/-! what the model keeps of a round; runs -/
theorem kw_132 {w : Nat} (hw : w ≤ 150) (ζ : Nat → Int32) (h26 : ζ 26 = nI w) : ∀ (n p : Nat) (γ : Nat → Nat → Int32), w < n + p → p ≤ w → nr_V (O_X6_keepsWas_132 n (nI p) ζ γ) (T_X6_keepsWas_132 n (nI p) ζ γ) (0, va_up ζ 39 (nI w), va_up γ 34 (fun i => if p ≤ i ∧ i < w then γ 28 i else γ 34 i))
  | 0, p, γ, hn, hp => absurd hn (by omega)
  | n + 1, p, γ, hn, hp => by
    rw [O_X6_keepsWas_132, T_X6_keepsWas_132, h26]
    by_cases e : p = w
    · subst e
      refine V_pos (nI_le (Nat.le_refl _) (by omega)) (V_T ?_)
      rw [up_self γ]
      funext i
      rw [if_neg (by omega)]
    · refine V_neg (nI_ge (by omega) (by omega)) (V_and (vp_in_nI (by omega) (by decide)) (V_and (vp_in_nI (by omega) (by decide)) ?_))
      rw [nI_1, pp_st_lit (by omega), nI_clamp (by omega)]
      refine V_w (kw_132 hw ζ h26 n (p + 1) _ (by omega) (by omega)) ?_
      rw [up_up, pp_up_eq, pp_up_ne _ _ (by decide), cy_row (v := γ 28) (by omega)]
      congr 2
      refine congrArg (va_up γ 34) ?_
      funext i
      by_cases q : p ≤ i ∧ i < w
      · rw [if_pos q, if_pos q]
        by_cases e2 : i = p
        · rw [if_pos e2, e2]
        · rw [if_neg e2]
      · rw [if_neg q, if_neg q]
def kw_row (x : Nat → Int32) (v0 v1 v2 v3 v4 v5 v6 v7 : Int32) : Nat → Int32 := upd (upd (upd (upd (upd (upd (upd (upd x 0 v0) 1 v1) 2 v2) 3 v3) 4 v4) 5 v5) 6 v6) 7 v7
theorem kw_all {w : Nat} (hw : w ≤ 150) (a : Int32) (ζ : Nat → Int32) (γ : Nat → Nat → Int32) (h26 : ζ 26 = nI w) : nr_V (O_X6_keepsWas a ζ γ) (T_X6_keepsWas a ζ γ) (0, va_up (va_up (va_up ζ 40 1) 38 (if a = 5 then ζ 34 else -1)) 39 (nI w), va_up (va_up γ 33 (kw_row (γ 33) a (if a = 0 then -1 else ζ 31) (if a = 4 then ζ 32 else -1) (if a = 5 then ζ 33 else 0) (ζ 27) (γ 21 57) (ζ 28) (ζ 29))) 34 (fun i => if 0 ≤ i ∧ i < w then γ 28 i else γ 34 i)) := by
  have st33 : ∀ (x : Nat → Int32) (i : Nat) (v : Int32), i < 8 → nr_st (va_up γ 33 x) 33 (nI i) v = va_up γ 33 (upd x i v) := by
    intro x i v hi
    rw [pp_st_lit (by omega), pp_up_eq, up_up]
  have k67 : ∀ (x : Nat → Int32) (v3 : Int32), nr_V (O_X6_keepsWas_67 a 3 v3 (va_up ζ 40 1) (va_up γ 33 x)) (T_X6_keepsWas_67 a 3 v3 (va_up ζ 40 1) (va_up γ 33 x)) (0, va_up (va_up (va_up ζ 40 1) 38 (if a = 5 then ζ 34 else -1)) 39 (nI w), va_up (va_up γ 33 (upd (upd (upd (upd (upd x 3 v3) 4 (ζ 27)) 5 (γ 21 57)) 6 (ζ 28)) 7 (ζ 29))) 34 (fun i => if 0 ≤ i ∧ i < w then γ 28 i else γ 34 i)) := by
    intro x v3
    have o : ∀ i, i ≠ 40 → va_up ζ 40 1 i = ζ i := fun i hi => pp_up_ne _ _ hi
    have e1 : nr_st (va_up γ 33 x) 33 (3 : Int32) v3 = va_up γ 33 (upd x 3 v3) := st33 x 3 v3 (by decide)
    have e2 : nr_st (va_up γ 33 (upd x 3 v3)) 33 (4 : Int32) (ζ 27) = va_up γ 33 (upd (upd x 3 v3) 4 (ζ 27)) := st33 _ 4 _ (by decide)
    have e3 : nr_st (va_up γ 33 (upd (upd x 3 v3) 4 (ζ 27))) 33 (5 : Int32) (γ 21 57) = va_up γ 33 (upd (upd (upd x 3 v3) 4 (ζ 27)) 5 (γ 21 57)) := st33 _ 5 _ (by decide)
    have e4 : nr_st (va_up γ 33 (upd (upd (upd x 3 v3) 4 (ζ 27)) 5 (γ 21 57))) 33 (6 : Int32) (ζ 28) = va_up γ 33 (upd (upd (upd (upd x 3 v3) 4 (ζ 27)) 5 (γ 21 57)) 6 (ζ 28)) := st33 _ 6 _ (by decide)
    have e5 : nr_st (va_up γ 33 (upd (upd (upd (upd x 3 v3) 4 (ζ 27)) 5 (γ 21 57)) 6 (ζ 28))) 33 (7 : Int32) (ζ 29) = va_up γ 33 (upd (upd (upd (upd (upd x 3 v3) 4 (ζ 27)) 5 (γ 21 57)) 6 (ζ 28)) 7 (ζ 29)) := st33 _ 7 _ (by decide)
    have e57 : ((57 : Int32)).toNatClampNeg = 57 := nI_clamp (n := 57) (by decide)
    have k127 : ∀ s1 : Int32, nr_V (O_X6_keepsWas_127 s1 (va_up ζ 40 1) (va_up γ 33 (upd (upd (upd (upd (upd x 3 v3) 4 (ζ 27)) 5 (γ 21 57)) 6 (ζ 28)) 7 (ζ 29)))) (T_X6_keepsWas_127 s1 (va_up ζ 40 1) (va_up γ 33 (upd (upd (upd (upd (upd x 3 v3) 4 (ζ 27)) 5 (γ 21 57)) 6 (ζ 28)) 7 (ζ 29)))) (0, va_up (va_up (va_up ζ 40 1) 38 s1) 39 (nI w), va_up (va_up γ 33 (upd (upd (upd (upd (upd x 3 v3) 4 (ζ 27)) 5 (γ 21 57)) 6 (ζ 28)) 7 (ζ 29))) 34 (fun i => if 0 ≤ i ∧ i < w then γ 28 i else γ 34 i)) := by
      intro s1
      unfold O_X6_keepsWas_127 T_X6_keepsWas_127
      have k := kw_132 hw (va_up (va_up ζ 40 1) 38 s1) (by rw [pp_up_ne _ _ (by decide), pp_up_ne _ _ (by decide)]; exact h26) 500 0 (va_up γ 33 (upd (upd (upd (upd (upd x 3 v3) 4 (ζ 27)) 5 (γ 21 57)) 6 (ζ 28)) 7 (ζ 29))) (by omega) (by omega)
      rw [pp_up_ne (i := 33) (j := 28) _ _ (by decide), pp_up_ne (i := 33) (j := 34) _ _ (by decide)] at k
      exact k
    unfold O_X6_keepsWas_67 T_X6_keepsWas_67
    rw [o 27 (by decide), o 28 (by decide), o 29 (by decide), o 34 (by decide), e57, e1, e2, pp_up_ne (i := 33) (j := 21) _ _ (by decide), e3, e4, e5]
    refine V_and (vp_in_nI (n := 3) (N := 8) (by decide) (by decide)) ?_
    by_cases q : a = 5
    · rw [show (if a = 5 then ζ 34 else (-1 : Int32)) = ζ 34 from if_pos q]; exact V_pos q (k127 _)
    · rw [show (if a = 5 then ζ 34 else (-1 : Int32)) = -1 from if_neg q]; exact V_neg q (k127 _)
  have k48 : ∀ (x : Nat → Int32) (v2 : Int32), nr_V (O_X6_keepsWas_48 a 2 v2 (va_up ζ 40 1) (va_up γ 33 x)) (T_X6_keepsWas_48 a 2 v2 (va_up ζ 40 1) (va_up γ 33 x)) (0, va_up (va_up (va_up ζ 40 1) 38 (if a = 5 then ζ 34 else -1)) 39 (nI w), va_up (va_up γ 33 (upd (upd (upd (upd (upd (upd x 2 v2) 3 (if a = 5 then ζ 33 else 0)) 4 (ζ 27)) 5 (γ 21 57)) 6 (ζ 28)) 7 (ζ 29))) 34 (fun i => if 0 ≤ i ∧ i < w then γ 28 i else γ 34 i)) := by
    intro x v2
    have e1 : nr_st (va_up γ 33 x) 33 (2 : Int32) v2 = va_up γ 33 (upd x 2 v2) := st33 x 2 v2 (by decide)
    unfold O_X6_keepsWas_48 T_X6_keepsWas_48
    rw [e1, pp_up_ne (i := 40) (j := 33) _ _ (by decide)]
    refine V_and (vp_in_nI (n := 2) (N := 8) (by decide) (by decide)) ?_
    have k5 := k67 (upd x 2 v2) (ζ 33)
    have k0 := k67 (upd x 2 v2) 0
    by_cases q : a = 5
    · rw [show (if a = 5 then ζ 33 else (0 : Int32)) = ζ 33 from if_pos q]
      exact V_pos q k5
    · rw [show (if a = 5 then ζ 33 else (0 : Int32)) = 0 from if_neg q]
      exact V_neg q k0
  have k29 : ∀ (x : Nat → Int32) (v1 : Int32), nr_V (O_X6_keepsWas_29 a 1 v1 (va_up ζ 40 1) (va_up γ 33 x)) (T_X6_keepsWas_29 a 1 v1 (va_up ζ 40 1) (va_up γ 33 x)) (0, va_up (va_up (va_up ζ 40 1) 38 (if a = 5 then ζ 34 else -1)) 39 (nI w), va_up (va_up γ 33 (upd (upd (upd (upd (upd (upd (upd x 1 v1) 2 (if a = 4 then ζ 32 else -1)) 3 (if a = 5 then ζ 33 else 0)) 4 (ζ 27)) 5 (γ 21 57)) 6 (ζ 28)) 7 (ζ 29))) 34 (fun i => if 0 ≤ i ∧ i < w then γ 28 i else γ 34 i)) := by
    intro x v1
    have e1 : nr_st (va_up γ 33 x) 33 (1 : Int32) v1 = va_up γ 33 (upd x 1 v1) := st33 x 1 v1 (by decide)
    unfold O_X6_keepsWas_29 T_X6_keepsWas_29
    rw [e1, pp_up_ne (i := 40) (j := 32) _ _ (by decide)]
    refine V_and (vp_in_nI (n := 1) (N := 8) (by decide) (by decide)) ?_
    have k4 := k48 (upd x 1 v1) (ζ 32)
    have k0 := k48 (upd x 1 v1) (-1)
    by_cases q : a = 4
    · rw [show (if a = 4 then ζ 32 else (-1 : Int32)) = ζ 32 from if_pos q]; exact V_pos q k4
    · rw [show (if a = 4 then ζ 32 else (-1 : Int32)) = -1 from if_neg q]; exact V_neg q k0
  have e0 : nr_st γ 33 (0 : Int32) a = va_up γ 33 (upd (γ 33) 0 a) := pp_st_lit (i := 0) (by decide) γ a
  unfold O_X6_keepsWas T_X6_keepsWas kw_row
  rw [e0]
  by_cases q : a = 0
  · have k := k29 (upd (γ 33) 0 a) (-1)
    rw [show (if a = 0 then (-1 : Int32) else ζ 31) = -1 from if_pos q]; exact V_pos q k
  · have k := k29 (upd (γ 33) 0 a) (ζ 31)
    rw [show (if a = 0 then (-1 : Int32) else ζ 31) = ζ 31 from if_neg q]; exact V_neg q k
