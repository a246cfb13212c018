/-! call: fewest -/
def pcL (k : Nat) : Nat := [0, 1, 1, 2, 1, 2, 2, 3].getD k 0
def obN : Option Nat → Int32
  | none => -1
  | some k => nI (2 * k)
def fwL (p : Nat → Bool) : List Nat → Option Nat
  | [] => none
  | k :: ks => if p k = true then some k else fwL p ks
def mbS (p : Nat → Bool) (b : Option Nat) (k : Nat) : Option Nat := match b with
  | none => if p k = true then some k else none
  | some j => if pcL j ≤ pcL k then some j else if p k = true then some k else some j
def mbL (p : Nat → Bool) : Option Nat → List Nat → Option Nat
  | b, [] => b
  | b, k :: ks => mbL p (mbS p b k) ks
def pB (b0 b1 b2 b3 b4 b5 b6 b7 : Bool) : Nat → Bool := fun k => match k with
  | 0 => b0 | 1 => b1 | 2 => b2 | 3 => b3 | 4 => b4 | 5 => b5 | 6 => b6 | _ => b7
theorem fw_all : ∀ b0 b1 b2 b3 b4 b5 b6 b7 : Bool, fwL (pB b0 b1 b2 b3 b4 b5 b6 b7) sgL = mbL (pB b0 b1 b2 b3 b4 b5 b6 b7) none smL := by decide +kernel
theorem fwL_congr {p q : Nat → Bool} : ∀ l : List Nat, (∀ k, k < 8 → p k = q k) → (∀ k ∈ l, k < 8) → fwL p l = fwL q l
  | [], _, _ => rfl
  | k :: ks, h, hl => by
    rw [fwL, fwL, h k (hl k List.mem_cons_self), fwL_congr ks h (fun j hj => hl j (List.mem_cons_of_mem _ hj))]
theorem mbS_congr {p q : Nat → Bool} (b : Option Nat) {k : Nat} (h : p k = q k) : mbS p b k = mbS q b k := by
  unfold mbS
  cases b with
  | none => dsimp only; rw [h]
  | some j => dsimp only; rw [h]
theorem mbL_congr {p q : Nat → Bool} : ∀ (l : List Nat) (b : Option Nat), (∀ k, k < 8 → p k = q k) → (∀ k ∈ l, k < 8) → mbL p b l = mbL q b l
  | [], _, _, _ => rfl
  | k :: ks, b, h, hl => by
    rw [mbL, mbL, mbS_congr b (h k (hl k List.mem_cons_self)), mbL_congr ks _ h (fun j hj => hl j (List.mem_cons_of_mem _ hj))]
theorem fw_eq (p : Nat → Bool) : fwL p sgL = mbL p none smL := by
  have h : ∀ k, k < 8 → p k = pB (p 0) (p 1) (p 2) (p 3) (p 4) (p 5) (p 6) (p 7) k := by
    intro k hk
    rcases (show k = 0 ∨ k = 1 ∨ k = 2 ∨ k = 3 ∨ k = 4 ∨ k = 5 ∨ k = 6 ∨ k = 7 by omega) with rfl | rfl | rfl | rfl | rfl | rfl | rfl | rfl <;> rfl
  rw [fwL_congr sgL h (by decide), mbL_congr smL none h (by decide)]
  exact fw_all _ _ _ _ _ _ _ _
section
variable {ζ : Nat → Int32} {γ : Nat → Nat → Int32}
theorem bt_s {n : Nat} {c x : Int32} {w : Int32} (hx : ¬ x ≤ 0) (k : nr_V (O_X6_bits_4 n (c + (x &&& 1)) (x >>> (1 &&& 31)) ζ γ) (R_X6_bits_4 n (c + (x &&& 1)) (x >>> (1 &&& 31)) ζ γ) w) : nr_V (O_X6_bits_4 (n + 1) c x ζ γ) (R_X6_bits_4 (n + 1) c x ζ γ) w := by
  rw [O_X6_bits_4, R_X6_bits_4]; exact V_neg hx k
theorem bt_e {n : Nat} {c x w : Int32} (hx : x ≤ 0) (hc : c = w) : nr_V (O_X6_bits_4 (n + 1) c x ζ γ) (R_X6_bits_4 (n + 1) c x ζ γ) w := by
  rw [O_X6_bits_4, R_X6_bits_4]; exact V_pos hx (V_T hc)
theorem bt_all (ζ : Nat → Int32) (γ : Nat → Nat → Int32) : ∀ k, k < 8 → nr_V (O_X6_bits (nI (2 * k)) ζ γ) (R_X6_bits (nI (2 * k)) ζ γ) (nI (pcL k)) := by
  intro k hk
  unfold O_X6_bits R_X6_bits
  rcases (show k = 0 ∨ k = 1 ∨ k = 2 ∨ k = 3 ∨ k = 4 ∨ k = 5 ∨ k = 6 ∨ k = 7 by omega) with rfl | rfl | rfl | rfl | rfl | rfl | rfl | rfl
  · exact bt_e (n := 499) (by decide) (by decide)
  · exact bt_s (n := 499) (by decide) (bt_s (n := 498) (by decide) (bt_e (n := 497) (by decide) (by decide)))
  · exact bt_s (n := 499) (by decide) (bt_s (n := 498) (by decide) (bt_s (n := 497) (by decide) (bt_e (n := 496) (by decide) (by decide))))
  · exact bt_s (n := 499) (by decide) (bt_s (n := 498) (by decide) (bt_s (n := 497) (by decide) (bt_e (n := 496) (by decide) (by decide))))
  · exact bt_s (n := 499) (by decide) (bt_s (n := 498) (by decide) (bt_s (n := 497) (by decide) (bt_s (n := 496) (by decide) (bt_e (n := 495) (by decide) (by decide)))))
  · exact bt_s (n := 499) (by decide) (bt_s (n := 498) (by decide) (bt_s (n := 497) (by decide) (bt_s (n := 496) (by decide) (bt_e (n := 495) (by decide) (by decide)))))
  · exact bt_s (n := 499) (by decide) (bt_s (n := 498) (by decide) (bt_s (n := 497) (by decide) (bt_s (n := 496) (by decide) (bt_e (n := 495) (by decide) (by decide)))))
  · exact bt_s (n := 499) (by decide) (bt_s (n := 498) (by decide) (bt_s (n := 497) (by decide) (bt_s (n := 496) (by decide) (bt_e (n := 495) (by decide) (by decide)))))
theorem pc_lt : ∀ k, k < 8 → pcL k < 4 := by decide
theorem fw_45 {N : Nat} {kT : Int32 → Int32 → (Nat → Int32) → (Nat → Nat → Int32) → Int32 × nr_S} {kO : Int32 → Int32 → (Nat → Int32) → (Nat → Nat → Int32) → Prop} {a2 a3 x : Int32} {ζ3 : Nat → Int32} {γ3 : Nat → Nat → Int32} {v : Int32 × nr_S} (w : nr_V (O_X6_endBy N a3 ζ γ) (T_X6_endBy N a3 ζ γ) (x, ζ3, γ3)) (u : nr_V (kO (if x = 0 then a3 else a2) (a3 + 2) ζ3 γ3) (kT (if x = 0 then a3 else a2) (a3 + 2) ζ3 γ3) v) : nr_V (O_X6_fewest_45 N kT kO a2 a3 ζ γ) (T_X6_fewest_45 N kT a2 a3 ζ γ) v := by
  unfold O_X6_fewest_45 T_X6_fewest_45 O_X6_fewest_50 T_X6_fewest_50
  by_cases hx : x = 0
  · rw [if_pos hx] at u
    exact V_neg (by decide) (V_K w (V_pos hx u))
  · rw [if_neg hx] at u
    exact V_neg (by decide) (V_K w (V_neg hx u))
end
section
variable {len A : Nat} {z0 ζ0 : Nat → Int32} {g0 γ0 : Nat → Nat → Int32}
def pK (z0 : Nat → Int32) (g0 : Nat → Nat → Int32) : Nat → Bool := fun k => decide (eK z0 g0 k = 0)
theorem pK_y {k : Nat} (h : eK z0 g0 k = 0) : pK z0 g0 k = true := decide_eq_true h
theorem pK_n {k : Nat} (h : ¬ eK z0 g0 k = 0) : ¬ pK z0 g0 k = true := fun q => h (of_decide_eq_true q)
theorem fw_c (B : tB len A z0 g0 ζ0 γ0) : ∀ (j i : Nat) (z : Nat → Int32) (g : Nat → Nat → Int32), i + j = 8 → cE z0 g0 z g → ∃ z' g', (∀ q, nr_V (O_X5_fewest_20 9 (q + j + 1) (nI i) z g) (T_X5_fewest_20 9 (q + j + 1) (nI i) z g) (obN (fwL (pK z0 g0) (sgL.drop i)), z', g')) ∧ cE z0 g0 z' g'
  | 0, i, z, g, hi, hz => by
    refine ⟨z, g, fun q => ?_, hz⟩
    have i8 : i = 8 := by omega
    subst i8
    rw [O_X5_fewest_20, T_X5_fewest_20]
    exact V_pos (by decide) (V_T rfl)
  | j + 1, i, z, g, hi, hz => by
    have nge : ¬ (8 : Int32) ≤ nI i := nI_ge (b := 8) (by omega) (by decide)
    obtain ⟨z3, g3, w1, hz3⟩ := eK_c B (sg_lt i (by omega)) hz
    rw [← sg_sf i (by omega)] at w1
    rw [sg_drop i (by omega), fwL]
    by_cases hx : eK z0 g0 (sgL.getD i 0) = 0
    · refine ⟨z3, g3, fun q => ?_, hz3⟩
      rw [show q + (j + 1) + 1 = (q + j + 1) + 1 by omega, O_X5_fewest_20, T_X5_fewest_20, nI_clamp (by omega), if_pos (pK_y hx), obN, ← sg_sf i (by omega)]
      exact V_neg nge (V_and (vp_in_nI (N := 8) (by omega) (by decide)) (V_wk w1 (V_pos hx (V_and (vp_in_nI (N := 8) (by omega) (by decide)) (V_T rfl)))))
    · obtain ⟨z', g', u, hz'⟩ := fw_c B j (i + 1) z3 g3 (by omega) hz3
      refine ⟨z', g', fun q => ?_, hz'⟩
      rw [show q + (j + 1) + 1 = (q + j + 1) + 1 by omega, O_X5_fewest_20, T_X5_fewest_20, nI_clamp (by omega), if_neg (pK_n hx)]
      have u := u q
      rw [← nI_1] at u
      exact V_neg nge (V_and (vp_in_nI (N := 8) (by omega) (by decide)) (V_wk w1 (V_neg hx u)))
theorem fw_m (B : tB len A z0 g0 ζ0 γ0) : ∀ (j i : Nat) (b : Option Nat) (ζ : Nat → Int32) (γ : Nat → Nat → Int32), i + j = 8 → (∀ k, b = some k → k < 8) → mE ζ0 γ0 ζ γ → ∃ n ζ' γ', (∀ q m, nr_V (O_X6_fewest_23 (m + n) (q + j + 1) (obN b) (nI (2 * i)) ζ γ) (T_X6_fewest_23 (m + n) (q + j + 1) (obN b) (nI (2 * i)) ζ γ) (obN (mbL (pK z0 g0) b (smL.drop i)), ζ', γ')) ∧ mE ζ0 γ0 ζ' γ'
  | 0, i, b, ζ, γ, hi, hb, hm => by
    refine ⟨0, ζ, γ, fun q m => ?_, hm⟩
    have i8 : i = 8 := by omega
    subst i8
    rw [O_X6_fewest_23, T_X6_fewest_23]
    exact V_pos (by decide) (V_T rfl)
  | j + 1, i, b, ζ, γ, hi, hb, hm => by
    have nge : ¬ (16 : Int32) ≤ nI (2 * i) := nI_ge (b := 16) (by omega) (by decide)
    have e2 : nI (2 * i) + 2 = nI (2 * (i + 1)) := nI_add (2 * i) 2
    have hb' : ∀ k, mbS (pK z0 g0) b i = some k → k < 8 := by
      intro k hk
      unfold mbS at hk
      cases b with
      | none =>
        dsimp only at hk
        split at hk
        · cases hk; omega
        · cases hk
      | some j0 =>
        dsimp only at hk
        split at hk
        · exact hb k hk
        · split at hk
          · cases hk; omega
          · exact hb k hk
    rw [sm_drop i (by omega), mbL]
    by_cases hsk : ∃ k, b = some k ∧ pcL k ≤ pcL i
    · obtain ⟨k, rfl, hk⟩ := hsk
      have es : mbS (pK z0 g0) (some k) i = some k := if_pos hk
      rw [es]
      obtain ⟨n, ζ', γ', u, hm'⟩ := fw_m B j (i + 1) (some k) ζ γ (by omega) hb hm
      refine ⟨n, ζ', γ', fun q m => ?_, hm'⟩
      have u := u q m
      rw [← e2] at u
      have k8 := hb k rfl
      have t1 := bt_all ζ γ i (by omega)
      have t2 := bt_all ζ γ k k8
      have p1 := pc_lt i (by omega)
      rw [show q + (j + 1) + 1 = (q + j + 1) + 1 by omega, O_X6_fewest_23, T_X6_fewest_23]
      rw [show obN (some k) = nI (2 * k) from rfl] at u ⊢
      rw [t1.2, t2.2]
      unfold O_X6_fewest_50 T_X6_fewest_50
      exact V_neg nge (V_neg (pp_nI_m1 (by omega)) (V_and t1.1 (V_and t2.1 (V_pos (nI_le hk (by omega)) (V_pos rfl u)))))
    · obtain ⟨n2, ζ3, γ3, w2, hm3⟩ := eK_m B (q := i) (by omega) hm
      have es : obN (mbS (pK z0 g0) b i) = if eK z0 g0 i = 0 then nI (2 * i) else obN b := by
        unfold mbS
        cases b with
        | none =>
          dsimp only
          by_cases hx : eK z0 g0 i = 0
          · rw [if_pos (pK_y hx), if_pos hx]; rfl
          · rw [if_neg (pK_n hx), if_neg hx]
        | some k =>
          dsimp only
          rw [if_neg (fun q => hsk ⟨k, rfl, q⟩)]
          by_cases hx : eK z0 g0 i = 0
          · rw [if_pos (pK_y hx), if_pos hx]; rfl
          · rw [if_neg (pK_n hx), if_neg hx]
      obtain ⟨n, ζ', γ', u, hm'⟩ := fw_m B j (i + 1) (mbS (pK z0 g0) b i) ζ3 γ3 (by omega) hb' hm3
      refine ⟨n2 + n, ζ', γ', fun q m => ?_, hm'⟩
      have u := u q (m + n2)
      have w := w2 (m + n)
      rw [← e2, es, show m + n2 + n = m + (n2 + n) by omega] at u
      rw [show m + n + n2 = m + (n2 + n) by omega] at w
      rw [show q + (j + 1) + 1 = (q + j + 1) + 1 by omega, O_X6_fewest_23, T_X6_fewest_23]
      cases b with
      | none => exact V_neg nge (V_pos rfl (fw_45 w u))
      | some k =>
        have k8 := hb k rfl
        have t1 := bt_all ζ γ i (by omega)
        have t2 := bt_all ζ γ k k8
        have p1 := pc_lt k k8
        rw [show obN (some k) = nI (2 * k) from rfl] at u ⊢
        rw [t1.2, t2.2]
        have hlt : pcL i < pcL k := by
          rcases Nat.lt_or_ge (pcL i) (pcL k) with q | q
          · exact q
          · exact absurd ⟨k, rfl, q⟩ hsk
        exact V_neg nge (V_neg (pp_nI_m1 (by omega)) (V_and t1.1 (V_and t2.1 (V_neg (nI_ge hlt (by omega)) (fw_45 w u)))))
end
theorem iJ_fewest : iJ (O_X5_fewest 9) (T_X5_fewest 9) O_X6_fewest T_X6_fewest := by
  intro z g ζ γ h
  obtain ⟨n, flt, z1, g1, ζ1, γ1, v1, v2, i1, c1, m1, hr⟩ := iv_read h
  by_cases hf : flt = -1
  · subst hf
    obtain ⟨len, A, hr, -⟩ := hr rfl
    obtain ⟨B, mk⟩ := tB_keep i1 hr
    have kk := m_keep ζ1 γ1
    generalize va_up γ1 35 (mk_row (γ1 21) (γ1 35)) = γ2 at B mk kk
    obtain ⟨z', g', w1, c⟩ := fw_c B 8 0 z1 g1 (by omega) (cE.refl _ _)
    obtain ⟨n2, ζ3, γ3, w2, m⟩ := fw_m B 8 0 none ζ1 γ2 (by omega) (fun k q => by cases q) (mE.refl _ _)
    have ect : fwL (pK z1 g1) (sgL.drop 0) = mbL (pK z1 g1) none (smL.drop 0) := fw_eq (pK z1 g1)
    rw [ect] at w1
    obtain ⟨j1, j2, j3⟩ := tB_back B c m
    refine ⟨n + n2, obN (mbL (pK z1 g1) none (smL.drop 0)), z', g', ζ3, γ3, ?_, fun m => ?_, j1, c1.trans j2, m1.trans (mk.trans j3)⟩
    · unfold O_X5_fewest T_X5_fewest
      exact V_K v1 (V_pos rfl (w1 491))
    · unfold O_X6_fewest T_X6_fewest
      have f1 := v2 (m + n2)
      have f2 := w2 491 (m + n)
      rw [show m + n2 + n = m + (n + n2) by omega] at f1
      rw [show m + n + n2 = m + (n + n2) by omega] at f2
      exact V_K f1 (V_pos rfl (V_K kk f2))
  · refine ⟨n, -10 - flt, z1, g1, ζ1, γ1, ?_, fun m => ?_, i1, c1, m1⟩
    · unfold O_X5_fewest T_X5_fewest
      exact V_K v1 (V_neg hf (V_T rfl))
    · unfold O_X6_fewest T_X6_fewest
      exact V_K (v2 m) (V_neg hf (V_T rfl))
