/-! ===== lay ===== -/
theorem hp_hasPb (N : Nat) {k s : Nat} {a : Int32} {D : hy_M} (hk : k < 4) (hs : s ≤ 12) (h47 : D 47 k = nI s) (hb : a.toInt < 0 ∨ (s : Int) ≤ a.toInt) : F_X3_hasPlace N (nI k) a D = some (nI 0, D) := by
  rw [F_X3_hasPlace_eq]
  rcases hp_arg a with ⟨v0, v1, v2⟩ | ⟨n, hn, rfl⟩
  · simp (disch := omega) only [hp_kN, nI_add, pk_mul, hp_isInN, hp_m1L, hp_l0, hp_l1, hp_l2, hp_l3, hp_l4, hp_l5, hp_l7, hp_l8, hp_l10, hp_l17, hp_l20, hp_l24, hp_l48, hp_l50, hp_l55, hp_l127, hp_lm1, hp_eqN, hp_ltN, hp_inN, hp_cl, if_pos, if_neg, if_true, if_false, Option.bind_some, v1]
  · rw [hp_ti hn] at hb
    simp (disch := omega) only [hp_kN, nI_add, pk_mul, hp_isInN, hp_m1L, hp_l0, hp_l1, hp_l2, hp_l3, hp_l4, hp_l5, hp_l7, hp_l8, hp_l10, hp_l17, hp_l20, hp_l24, hp_l48, hp_l50, hp_l55, hp_l127, hp_lm1, hp_eqN, hp_ltN, hp_inN, hp_cl, if_pos, if_neg, if_true, if_false, Option.bind_some, h47]
def hp_lb0 (many : Nat) : Int32 := if many = 0 then nI 0 else -nI 13
theorem hp_lyXb (N n : Nat) {k s many r3 : Nat} {a : Int32} {D : hy_M} (hk : k < 4) (hs : s ≤ 12) (hm : many ≤ 8) (h47 : D 47 k = nI s) (hb : a.toInt < 0 ∨ (s : Int) ≤ a.toInt) : F_X3_layRow_3 N (n + 1) (nI k) a r3 (nI many) (nI 0) D = some (hp_lb0 many, D) := by
  rw [F_X3_layRow_3_eq]
  unfold hp_lb0
  by_cases c : many = 0
  · subst c
    simp (disch := omega) only [hp_kN, nI_add, pk_mul, hp_isInN, hp_m1L, hp_l0, hp_l1, hp_l2, hp_l3, hp_l4, hp_l5, hp_l7, hp_l8, hp_l10, hp_l17, hp_l20, hp_l24, hp_l48, hp_l50, hp_l55, hp_l127, hp_lm1, hp_eqN, hp_ltN, hp_inN, hp_cl, if_pos, if_neg, if_true, if_false, Option.bind_some, F_X3_layRow_52_eq]
  · simp (disch := omega) only [hp_kN, nI_add, pk_mul, hp_isInN, hp_m1L, hp_l0, hp_l1, hp_l2, hp_l3, hp_l4, hp_l5, hp_l7, hp_l8, hp_l10, hp_l17, hp_l20, hp_l24, hp_l48, hp_l50, hp_l55, hp_l127, hp_lm1, hp_eqN, hp_ltN, hp_inN, hp_cl, if_pos, if_neg, if_true, if_false, Option.bind_some, F_X3_layRow_52_eq, hp_hasPb N hk hs h47 hb]
theorem hp_lyXb3 (N n : Nat) {k s many : Nat} {a : Int32} {D : hy_M} (hk : k < 4) (hs : s ≤ 12) (hm : many ≤ 8) (h47 : D 47 k = nI s) (hb : a.toInt < 0 ∨ (s : Int) ≤ a.toInt) : F_X3_layRow_41_3_3 N (n + 1) (nI k) a (nI many) (nI 0) D = some (hp_lb0 many, D) := by
  rw [F_X3_layRow_41_3_3_eq]
  unfold hp_lb0
  by_cases c : many = 0
  · subst c
    simp (disch := omega) only [hp_kN, nI_add, pk_mul, hp_isInN, hp_m1L, hp_l0, hp_l1, hp_l2, hp_l3, hp_l4, hp_l5, hp_l7, hp_l8, hp_l10, hp_l17, hp_l20, hp_l24, hp_l48, hp_l50, hp_l55, hp_l127, hp_lm1, hp_eqN, hp_ltN, hp_inN, hp_cl, if_pos, if_neg, if_true, if_false, Option.bind_some, F_X3_layRow_41_3_52_eq]
  · simp (disch := omega) only [hp_kN, nI_add, pk_mul, hp_isInN, hp_m1L, hp_l0, hp_l1, hp_l2, hp_l3, hp_l4, hp_l5, hp_l7, hp_l8, hp_l10, hp_l17, hp_l20, hp_l24, hp_l48, hp_l50, hp_l55, hp_l127, hp_lm1, hp_eqN, hp_ltN, hp_inN, hp_cl, if_pos, if_neg, if_true, if_false, Option.bind_some, F_X3_layRow_41_3_52_eq, hp_hasPb N hk hs h47 hb]
theorem hp_lyMb (N : Nat) (hN : 10 ≤ N) {k s many : Nat} {a v : Int32} {D : hy_M} (hk : k < 4) (hs : s ≤ 12) (hm : many ≤ 8) (h80 : D 80 k = nI s) (hb : a.toInt < 0 ∨ (s : Int) ≤ a.toInt) : F_X9_lay_82 N (nI k) a (nI many) v D = some (hp_lb0 many, D) := by
  obtain ⟨N, rfl⟩ : ∃ n, N = n + 10 := ⟨N - 10, by omega⟩
  rw [F_X9_lay_82_eq]
  unfold hp_lb0
  rcases hp_arg a with ⟨v0, v1, v2⟩ | ⟨n, hn, rfl⟩
  · by_cases c : many = 0
    · subst c
      simp (disch := omega) only [hp_kN, nI_add, pk_mul, hp_isInN, hp_m1L, hp_l0, hp_l1, hp_l2, hp_l3, hp_l4, hp_l5, hp_l7, hp_l8, hp_l10, hp_l17, hp_l20, hp_l24, hp_l48, hp_l50, hp_l55, hp_l127, hp_lm1, hp_eqN, hp_ltN, hp_inN, hp_cl, if_pos, if_neg, if_true, if_false, Option.bind_some, v1]
    · simp (disch := omega) only [hp_kN, nI_add, pk_mul, hp_isInN, hp_m1L, hp_l0, hp_l1, hp_l2, hp_l3, hp_l4, hp_l5, hp_l7, hp_l8, hp_l10, hp_l17, hp_l20, hp_l24, hp_l48, hp_l50, hp_l55, hp_l127, hp_lm1, hp_eqN, hp_ltN, hp_inN, hp_cl, if_pos, if_neg, if_true, if_false, Option.bind_some, v1]
  · rw [hp_ti hn] at hb
    rw [F_X9_lay_104_eq]
    by_cases c : many = 0
    · subst c
      simp (disch := omega) only [hp_kN, nI_add, pk_mul, hp_isInN, hp_m1L, hp_l0, hp_l1, hp_l2, hp_l3, hp_l4, hp_l5, hp_l7, hp_l8, hp_l10, hp_l17, hp_l20, hp_l24, hp_l48, hp_l50, hp_l55, hp_l127, hp_lm1, hp_eqN, hp_ltN, hp_inN, hp_cl, if_pos, if_neg, if_true, if_false, Option.bind_some, F_X9_lay_156_eq]
    · simp (disch := omega) only [hp_kN, nI_add, pk_mul, hp_isInN, hp_m1L, hp_l0, hp_l1, hp_l2, hp_l3, hp_l4, hp_l5, hp_l7, hp_l8, hp_l10, hp_l17, hp_l20, hp_l24, hp_l48, hp_l50, hp_l55, hp_l127, hp_lm1, hp_eqN, hp_ltN, hp_inN, hp_cl, if_pos, if_neg, if_true, if_false, Option.bind_some, F_X9_lay_156_eq, h80, hp_ltS]
/-- what is laid, on the class's side and on the reference's -/
theorem hp_ly_q {y : Nat → Nat → Nat} {pu : Int32} {yk : Nat → Nat → Nat} {pk : Int32} {fl T P : Nat} {tp pp : Nat → Nat} {ls : Nat → Int32} {lc : Nat → Nat → Int32} {k f s many : Nat} {row : Nat → Nat} (hk : k < 4) (hs12 : s ≤ 12) (hs : ls k = nI s) (hf : f < s) {D D1 : hy_M} (hX : hp_X (y, pu, yk, pk, fl, T, P, tp, pp, ls, lc) D) (q2 : ∀ j, D1 (43 + k) j = if f ≤ j ∧ j < f + hp_le f many s then nI (row (j - f)) else D (43 + k) j) (q3 : ∀ c, c ≠ 43 + k → D1 c = D c) : hp_X (y, pu, yk, pk, fl, T, P, tp, pp, ls, fun l j => if l = k ∧ f ≤ j ∧ j < f + hp_le f many s then nI (row (j - f)) else lc l j) D1 := by
  refine ⟨hp_CY_fr hX.1 (fun c a b => q3 c (by omega)), hp_C1_list hX.2 (fun c a => q3 c (by omega)) (fun l hl => ⟨by rw [q3 47 (by omega)]; exact (hX.2.2.2.2.2.2.2.1 l hl).1, fun j hj => ?_⟩)⟩
  have h0 := (hX.2.2.2.2.2.2.2.1 l hl).2 j hj
  by_cases q : l = k
  · subst q
    rw [q2 j]
    by_cases q4 : f ≤ j ∧ j < f + hp_le f many s
    · rw [if_pos q4, if_pos ⟨rfl, q4⟩]
    · rw [if_neg q4, if_neg (fun z => q4 z.2)]
      exact h0
  · rw [q3 (43 + l) (by omega), if_neg (fun z => q z.1)]
    exact h0
theorem hp_ly_r {y : Nat → Nat → Nat} {pu : Int32} {yk : Nat → Nat → Nat} {pk : Int32} {fl T P : Nat} {tp pp : Nat → Nat} {ls : Nat → Int32} {lc : Nat → Nat → Int32} {k f s many : Nat} {row : Nat → Nat} (hw7 : ∀ l, l < 4 → -1 ≤ (ls l).toInt ∧ (ls l).toInt ≤ 12) (hk : k < 4) (hs12 : s ≤ 12) (hs : ls k = nI s) (hf : f < s) {D D1 : hy_M} (hR : hp_R (y, pu, yk, pk, fl, T, P, tp, pp, ls, lc) D) (q2 : ∀ j, D1 79 j = if 12 * k + f ≤ j ∧ j < 12 * k + f + hp_le f many s then nI (row (j - (12 * k + f))) else D 79 j) (q3 : ∀ c, c ≠ 79 → D1 c = D c) : hp_R (y, pu, yk, pk, fl, T, P, tp, pp, ls, fun l j => if l = k ∧ f ≤ j ∧ j < f + hp_le f many s then nI (row (j - f)) else lc l j) D1 := by
  refine ⟨hp_MY_fr hR.1 (q3 68 (by omega)), hp_M1_list hR.2 (fun c a => q3 c (by omega)) (fun l hl => ⟨by rw [q3 80 (by omega)]; exact (hR.2.2.2.2.2.2.2.1 l hl).1, fun j hj => ?_⟩)⟩
  have h0 := (hR.2.2.2.2.2.2.2.1 l hl).2 j hj
  have h12 := (hw7 l hl).2
  have hle : f + hp_le f many s ≤ 12 := by
    unfold hp_le
    split <;> omega
  rw [q2]
  by_cases q : l = k
  · subst q
    by_cases q4 : f ≤ j ∧ j < f + hp_le f many s
    · rw [if_pos (by omega), if_pos ⟨rfl, q4⟩, show 12 * l + j - (12 * l + f) = j - f by omega]
    · rw [if_neg (by omega), if_neg (fun z => q4 z.2)]
      exact h0
  · rw [if_neg (by omega), if_neg (fun z => q z.1)]
    exact h0
theorem hp_le_lt {f many s : Nat} (h : many ≤ 8) : hp_le f many s ≤ 8 := by
  unfold hp_le
  split <;> omega
theorem hp_lay0 (N : Nat) (hN : 100 ≤ N) (w t : Nat) (tt b v : Int32) (hwt : (w = 1) ∨ (w = 0 ∧ t < 2 ∧ tt = nI t)) : hp_step (F_X8_lay_20 N (nI w) tt b v) (F_X9_lay_21 N (nI w) tt b v) := by
  rintro ⟨y, pu, yk, pk, fl, T, P, tp, pp, ls, lc⟩ ⟨hw, hw1⟩
  obtain ⟨b0, b1, b2, b8, b17, b9⟩ := hp_Wb hw
  obtain ⟨N, rfl⟩ : ∃ n, N = n + 100 := ⟨N - 100, by omega⟩
  rcases hp_arg b with ⟨a0, a1, a2⟩ | ⟨k, hk, rfl⟩
  · refine ⟨-1, _, ⟨hw, hw1⟩, hp_qx0 fun D hX => ?_, hp_qm0 fun D hR => ?_⟩
    · rw [F_X8_lay_20_eq, hp_X_isListg _ a0]
      rfl
    · rw [F_X9_lay_21_eq, hp_M_isListg _ a2]
      rfl
  by_cases c : k < 4
  case neg =>
    refine ⟨-1, _, ⟨hw, hw1⟩, hp_qx0 fun D hX => ?_, hp_qm0 fun D hR => ?_⟩
    · rw [F_X8_lay_20_eq]
      simp (disch := omega) only [hp_kN, nI_add, pk_mul, hp_isInN, hp_m1L, hp_l0, hp_l1, hp_l2, hp_l3, hp_l4, hp_l5, hp_l7, hp_l8, hp_l10, hp_l17, hp_l20, hp_l24, hp_l48, hp_l50, hp_l55, hp_l127, hp_lm1, hp_eqN, hp_ltN, hp_inN, hp_cl, if_pos, if_neg, if_true, if_false, Option.bind_some, hp_X_isList]
    · rw [F_X9_lay_21_eq]
      simp (disch := omega) only [hp_kN, nI_add, pk_mul, hp_isInN, hp_m1L, hp_l0, hp_l1, hp_l2, hp_l3, hp_l4, hp_l5, hp_l7, hp_l8, hp_l10, hp_l17, hp_l20, hp_l24, hp_l48, hp_l50, hp_l55, hp_l127, hp_lm1, hp_eqN, hp_ltN, hp_inN, hp_cl, if_pos, if_neg, if_true, if_false, Option.bind_some, hp_M_isList]
  rcases hp_lsc (hw1.2.2.2.2.2.2 k c) with hs | ⟨s, hs12, hs⟩
  · refine ⟨-11, _, ⟨hw, hw1⟩, hp_qx0 fun D hX => ?_, hp_qm0 fun D hR => ?_⟩
    · have x47 : D 47 k = -nI 1 := ((hX.2.2.2.2.2.2.2.1 k c).1).trans hs
      rw [F_X8_lay_20_eq]
      simp (disch := omega) only [hp_kN, nI_add, pk_mul, hp_isInN, hp_m1L, hp_l0, hp_l1, hp_l2, hp_l3, hp_l4, hp_l5, hp_l7, hp_l8, hp_l10, hp_l17, hp_l20, hp_l24, hp_l48, hp_l50, hp_l55, hp_l127, hp_lm1, hp_eqN, hp_ltN, hp_inN, hp_cl, if_pos, if_neg, if_true, if_false, Option.bind_some, hp_X_isList, F_X3_holds_eq, x47, hp_n1]
    · have x80 : D 80 k = -nI 1 := ((hR.2.2.2.2.2.2.2.1 k c).1).trans hs
      rw [F_X9_lay_21_eq]
      simp (disch := omega) only [hp_kN, nI_add, pk_mul, hp_isInN, hp_m1L, hp_l0, hp_l1, hp_l2, hp_l3, hp_l4, hp_l5, hp_l7, hp_l8, hp_l10, hp_l17, hp_l20, hp_l24, hp_l48, hp_l50, hp_l55, hp_l127, hp_lm1, hp_eqN, hp_ltN, hp_inN, hp_cl, if_pos, if_neg, if_true, if_false, Option.bind_some, hp_M_isList, x80, hp_n1]
  rcases hwt with rfl | ⟨rfl, ht, rfl⟩
  · by_cases hb : v.toInt < 0 ∨ (s : Int) ≤ v.toInt
    · refine ⟨hp_lb0 (y 0 0), _, ⟨hw, hw1⟩, hp_qx0 fun D hX => ?_, hp_qm0 fun D hR => ?_⟩
      · obtain ⟨x00, x01, x02, x03, x1, x2, x3, x4, x6, x8, x9, x12, x17⟩ := hp_Xf hw hX.1
        have x47 : D 47 k = nI s := ((hX.2.2.2.2.2.2.2.1 k c).1).trans hs
        rw [F_X8_lay_20_eq]
        simp (disch := omega) only [hp_kN, nI_add, pk_mul, hp_isInN, hp_m1L, hp_l0, hp_l1, hp_l2, hp_l3, hp_l4, hp_l5, hp_l7, hp_l8, hp_l10, hp_l17, hp_l20, hp_l24, hp_l48, hp_l50, hp_l55, hp_l127, hp_lm1, hp_eqN, hp_ltN, hp_inN, hp_cl, if_pos, if_neg, if_true, if_false, Option.bind_some, hp_X_isList, F_X3_holds_eq, x47, x00, F_X3_layRow_41_3_eq, hp_lyXb3 (N + 100) (N + 99) c hs12 b0 x47 hb]
      · obtain ⟨m00, m01, m02, m03, m4, m12, m20, m30, m28, m46, m70, m51, m67, m49⟩ := hp_Mf hw hR.1
        have x80 : D 80 k = nI s := ((hR.2.2.2.2.2.2.2.1 k c).1).trans hs
        rw [F_X9_lay_21_eq]
        simp (disch := omega) only [hp_kN, nI_add, pk_mul, hp_isInN, hp_m1L, hp_l0, hp_l1, hp_l2, hp_l3, hp_l4, hp_l5, hp_l7, hp_l8, hp_l10, hp_l17, hp_l20, hp_l24, hp_l48, hp_l50, hp_l55, hp_l127, hp_lm1, hp_eqN, hp_ltN, hp_inN, hp_cl, if_pos, if_neg, if_true, if_false, Option.bind_some, hp_M_isList, x80, m00, F_X9_lay_64_eq, hp_lyMb (N + 100) (by omega) c hs12 b0 x80 hb]
    · obtain ⟨f, hf0, rfl, hf1⟩ := hp_ofI (a := v) (by omega)
      have hf : f < s := by omega
      have hl8 := hp_le_lt (f := f) (s := s) b0
      refine ⟨hp_lr f (y 0 0) s, (y, pu, yk, pk, fl, T, P, tp, pp, ls, fun l j => if l = k ∧ f ≤ j ∧ j < f + hp_le f (y 0 0) s then nI (y 2 (j - f)) else lc l j), ⟨hw, hw1⟩, fun D hX => ?_, fun D hR => ?_⟩
      · obtain ⟨x00, x01, x02, x03, x1, x2, x3, x4, x6, x8, x9, x12, x17⟩ := hp_Xf hw hX.1
        have x47 : D 47 k = nI s := ((hX.2.2.2.2.2.2.2.1 k c).1).trans hs
        obtain ⟨D1, q1, q2, q3⟩ := hp_lyX3 (N + 100) k f s (y 0 0) (y 2) D c hs12 b0 hf (fun j hj => x2 j (by omega)) x47 (hp_le f (y 0 0) s) 0 (N + 100) D (by omega) (by omega) (fun j => by rw [if_neg (by omega)]) (fun c a => rfl)
        refine ⟨D1, ?_, hp_ly_q c hs12 hs hf hX q2 q3, fun c a b => q3 c (by omega)⟩
        rw [F_X8_lay_20_eq]
        simp (disch := omega) only [hp_kN, nI_add, pk_mul, hp_isInN, hp_m1L, hp_l0, hp_l1, hp_l2, hp_l3, hp_l4, hp_l5, hp_l7, hp_l8, hp_l10, hp_l17, hp_l20, hp_l24, hp_l48, hp_l50, hp_l55, hp_l127, hp_lm1, hp_eqN, hp_ltN, hp_inN, hp_cl, if_pos, if_neg, if_true, if_false, Option.bind_some, hp_X_isList, F_X3_holds_eq, x47, x00, F_X3_layRow_41_3_eq, q1]
      · obtain ⟨m00, m01, m02, m03, m4, m12, m20, m30, m28, m46, m70, m51, m67, m49⟩ := hp_Mf hw hR.1
        have x80 : D 80 k = nI s := ((hR.2.2.2.2.2.2.2.1 k c).1).trans hs
        obtain ⟨D1, q1, q2, q3⟩ := hp_lyM (N + 100) k f s (y 0 0) 12 (y 2) D c hs12 b0 hf (by omega) (fun j hj => m12 j (by omega)) x80 (hp_le f (y 0 0) s) 0 (N + 100) D (by omega) (by omega) (fun j => by rw [if_neg (by omega)]) (fun c a => rfl)
        refine ⟨D1, ?_, hp_ly_r hw1.2.2.2.2.2.2 c hs12 hs hf hR q2 q3, fun c a => q3 c (by omega)⟩
        rw [F_X9_lay_21_eq]
        simp (disch := omega) only [hp_kN, nI_add, pk_mul, hp_isInN, hp_m1L, hp_l0, hp_l1, hp_l2, hp_l3, hp_l4, hp_l5, hp_l7, hp_l8, hp_l10, hp_l17, hp_l20, hp_l24, hp_l48, hp_l50, hp_l55, hp_l127, hp_lm1, hp_eqN, hp_ltN, hp_inN, hp_cl, if_pos, if_neg, if_true, if_false, Option.bind_some, hp_M_isList, x80, m00, F_X9_lay_64_eq, F_X9_lay_82_eq, q1]
  · have b3 := b17 (3 + t) (by omega)
    by_cases hb : v.toInt < 0 ∨ (s : Int) ≤ v.toInt
    · refine ⟨hp_lb0 (y 17 (3 + t)), _, ⟨hw, hw1⟩, hp_qx0 fun D hX => ?_, hp_qm0 fun D hR => ?_⟩
      · obtain ⟨x00, x01, x02, x03, x1, x2, x3, x4, x6, x8, x9, x12, x17⟩ := hp_Xf hw hX.1
        have x47 : D 47 k = nI s := ((hX.2.2.2.2.2.2.2.1 k c).1).trans hs
        rw [F_X8_lay_20_eq]
        simp (disch := omega) only [hp_kN, nI_add, pk_mul, hp_isInN, hp_m1L, hp_l0, hp_l1, hp_l2, hp_l3, hp_l4, hp_l5, hp_l7, hp_l8, hp_l10, hp_l17, hp_l20, hp_l24, hp_l48, hp_l50, hp_l55, hp_l127, hp_lm1, hp_eqN, hp_ltN, hp_inN, hp_cl, if_pos, if_neg, if_true, if_false, Option.bind_some, hp_X_isList, F_X3_holds_eq, x47, F_X2_outOf_eq, x17, F_X3_layRow_eq, hp_lyXb (N + 100) (N + 99) c hs12 b3 x47 hb]
      · obtain ⟨m00, m01, m02, m03, m4, m12, m20, m30, m28, m46, m70, m51, m67, m49⟩ := hp_Mf hw hR.1
        have x80 : D 80 k = nI s := ((hR.2.2.2.2.2.2.2.1 k c).1).trans hs
        rw [F_X9_lay_21_eq]
        simp (disch := omega) only [hp_kN, nI_add, pk_mul, hp_isInN, hp_m1L, hp_l0, hp_l1, hp_l2, hp_l3, hp_l4, hp_l5, hp_l7, hp_l8, hp_l10, hp_l17, hp_l20, hp_l24, hp_l48, hp_l50, hp_l55, hp_l127, hp_lm1, hp_eqN, hp_ltN, hp_inN, hp_cl, if_pos, if_neg, if_true, if_false, Option.bind_some, hp_M_isList, x80, m49, F_X9_lay_64_eq, hp_lyMb (N + 100) (by omega) c hs12 b3 x80 hb]
    · obtain ⟨f, hf0, rfl, hf1⟩ := hp_ofI (a := v) (by omega)
      have hf : f < s := by omega
      have hl8 := hp_le_lt (f := f) (s := s) b3
      refine ⟨hp_lr f (y 17 (3 + t)) s, (y, pu, yk, pk, fl, T, P, tp, pp, ls, fun l j => if l = k ∧ f ≤ j ∧ j < f + hp_le f (y 17 (3 + t)) s then nI (y (12 + (3 + t)) (j - f)) else lc l j), ⟨hw, hw1⟩, fun D hX => ?_, fun D hR => ?_⟩
      · obtain ⟨x00, x01, x02, x03, x1, x2, x3, x4, x6, x8, x9, x12, x17⟩ := hp_Xf hw hX.1
        have x47 : D 47 k = nI s := ((hX.2.2.2.2.2.2.2.1 k c).1).trans hs
        obtain ⟨D1, q1, q2, q3⟩ := hp_lyX (N + 100) k f s (y 17 (3 + t)) (13 + (3 + t)) (y (12 + (3 + t))) D c hs12 b3 hf (hp_al13 (by omega)) (by omega) (fun j hj => x12 (3 + t) (by omega) j hj) x47 (hp_le f (y 17 (3 + t)) s) 0 (N + 100) D (by omega) (by omega) (fun j => by rw [if_neg (by omega)]) (fun c a => rfl)
        refine ⟨D1, ?_, hp_ly_q c hs12 hs hf hX q2 q3, fun c a b => q3 c (by omega)⟩
        rw [F_X8_lay_20_eq]
        simp (disch := omega) only [hp_kN, nI_add, pk_mul, hp_isInN, hp_m1L, hp_l0, hp_l1, hp_l2, hp_l3, hp_l4, hp_l5, hp_l7, hp_l8, hp_l10, hp_l17, hp_l20, hp_l24, hp_l48, hp_l50, hp_l55, hp_l127, hp_lm1, hp_eqN, hp_ltN, hp_inN, hp_cl, if_pos, if_neg, if_true, if_false, Option.bind_some, hp_X_isList, F_X3_holds_eq, x47, F_X2_outOf_eq, x17, hp_pr12, F_X3_layRow_eq, q1]
      · obtain ⟨m00, m01, m02, m03, m4, m12, m20, m30, m28, m46, m70, m51, m67, m49⟩ := hp_Mf hw hR.1
        have x80 : D 80 k = nI s := ((hR.2.2.2.2.2.2.2.1 k c).1).trans hs
        obtain ⟨D1, q1, q2, q3⟩ := hp_lyM (N + 100) k f s (y 17 (3 + t)) (51 + 8 * t) (y (12 + (3 + t))) D c hs12 b3 hf (by omega) (fun j hj => m51 t (by omega) j hj) x80 (hp_le f (y 17 (3 + t)) s) 0 (N + 100) D (by omega) (by omega) (fun j => by rw [if_neg (by omega)]) (fun c a => rfl)
        refine ⟨D1, ?_, hp_ly_r hw1.2.2.2.2.2.2 c hs12 hs hf hR q2 q3, fun c a => q3 c (by omega)⟩
        rw [F_X9_lay_21_eq]
        simp (disch := omega) only [hp_kN, nI_add, pk_mul, hp_isInN, hp_m1L, hp_l0, hp_l1, hp_l2, hp_l3, hp_l4, hp_l5, hp_l7, hp_l8, hp_l10, hp_l17, hp_l20, hp_l24, hp_l48, hp_l50, hp_l55, hp_l127, hp_lm1, hp_eqN, hp_ltN, hp_inN, hp_cl, if_pos, if_neg, if_true, if_false, Option.bind_some, hp_M_isList, x80, m49, F_X9_lay_64_eq, F_X9_lay_82_eq, q1]
theorem hp_step_c {α : Type} {fx fm gx gm : hy_M → Option (α × hy_M)} (h : hp_step gx gm) (e1 : ∀ D, fx D = gx D) (e2 : ∀ D, fm D = gm D) : hp_step fx fm := by
  have q1 : fx = gx := funext e1
  have q2 : fm = gm := funext e2
  rw [q1, q2]
  exact h
/-- a step that answers r and leaves all -/
theorem hp_step_r {α : Type} {fx fm : hy_M → Option (α × hy_M)} (r : α) (e1 : ∀ D, fx D = some (r, D)) (e2 : ∀ D, fm D = some (r, D)) : hp_step fx fm := fun q hV => ⟨r, q, hV, hp_qx0 fun D _ => e1 D, hp_qm0 fun D _ => e2 D⟩
theorem st_lay (N : Nat) (hN : 100 ≤ N) (a t b v : Int32) : hp_step (F_X8_lay N a t b v) (F_X9_lay N a t b v) := by
  rcases hp_arg a with ⟨a0, a1, a2⟩ | ⟨w, hw, rfl⟩
  · refine hp_step_r (-1) (fun D => ?_) (fun D => ?_)
    · rw [F_X8_lay_eq]
      simp (disch := omega) only [hp_kN, nI_add, pk_mul, hp_isInN, hp_m1L, hp_l0, hp_l1, hp_l2, hp_l3, hp_l4, hp_l5, hp_l7, hp_l8, hp_l10, hp_l17, hp_l20, hp_l24, hp_l48, hp_l50, hp_l55, hp_l127, hp_lm1, hp_eqN, hp_ltN, hp_inN, hp_cl, if_pos, if_neg, if_true, if_false, Option.bind_some, a1]
    · rw [F_X9_lay_eq]
      simp (disch := omega) only [hp_kN, nI_add, pk_mul, hp_isInN, hp_m1L, hp_l0, hp_l1, hp_l2, hp_l3, hp_l4, hp_l5, hp_l7, hp_l8, hp_l10, hp_l17, hp_l20, hp_l24, hp_l48, hp_l50, hp_l55, hp_l127, hp_lm1, hp_eqN, hp_ltN, hp_inN, hp_cl, if_pos, if_neg, if_true, if_false, Option.bind_some, hp_isIng N a2 0 _ (by decide)]
  by_cases c : w < 2
  case neg =>
    refine hp_step_r (-1) (fun D => ?_) (fun D => ?_)
    · rw [F_X8_lay_eq]
      simp (disch := omega) only [hp_kN, nI_add, pk_mul, hp_isInN, hp_m1L, hp_l0, hp_l1, hp_l2, hp_l3, hp_l4, hp_l5, hp_l7, hp_l8, hp_l10, hp_l17, hp_l20, hp_l24, hp_l48, hp_l50, hp_l55, hp_l127, hp_lm1, hp_eqN, hp_ltN, hp_inN, hp_cl, if_pos, if_neg, if_true, if_false, Option.bind_some]
    · rw [F_X9_lay_eq]
      simp (disch := omega) only [hp_kN, nI_add, pk_mul, hp_isInN, hp_m1L, hp_l0, hp_l1, hp_l2, hp_l3, hp_l4, hp_l5, hp_l7, hp_l8, hp_l10, hp_l17, hp_l20, hp_l24, hp_l48, hp_l50, hp_l55, hp_l127, hp_lm1, hp_eqN, hp_ltN, hp_inN, hp_cl, if_pos, if_neg, if_true, if_false, Option.bind_some]
  rcases (show w = 0 ∨ w = 1 by omega) with rfl | rfl
  · rcases hp_arg t with ⟨a0, a1, a2⟩ | ⟨t, ht, rfl⟩
    · refine hp_step_r (-1) (fun D => ?_) (fun D => ?_)
      · rw [F_X8_lay_eq]
        simp (disch := omega) only [hp_kN, nI_add, pk_mul, hp_isInN, hp_m1L, hp_l0, hp_l1, hp_l2, hp_l3, hp_l4, hp_l5, hp_l7, hp_l8, hp_l10, hp_l17, hp_l20, hp_l24, hp_l48, hp_l50, hp_l55, hp_l127, hp_lm1, hp_eqN, hp_ltN, hp_inN, hp_cl, if_pos, if_neg, if_true, if_false, Option.bind_some, hp_X_isTraing N a0]
      · rw [F_X9_lay_eq]
        simp (disch := omega) only [hp_kN, nI_add, pk_mul, hp_isInN, hp_m1L, hp_l0, hp_l1, hp_l2, hp_l3, hp_l4, hp_l5, hp_l7, hp_l8, hp_l10, hp_l17, hp_l20, hp_l24, hp_l48, hp_l50, hp_l55, hp_l127, hp_lm1, hp_eqN, hp_ltN, hp_inN, hp_cl, if_pos, if_neg, if_true, if_false, Option.bind_some, hp_M_isTraing N a2]
    by_cases c2 : t < 2
    case neg =>
      refine hp_step_r (-1) (fun D => ?_) (fun D => ?_)
      · rw [F_X8_lay_eq]
        simp (disch := omega) only [hp_kN, nI_add, pk_mul, hp_isInN, hp_m1L, hp_l0, hp_l1, hp_l2, hp_l3, hp_l4, hp_l5, hp_l7, hp_l8, hp_l10, hp_l17, hp_l20, hp_l24, hp_l48, hp_l50, hp_l55, hp_l127, hp_lm1, hp_eqN, hp_ltN, hp_inN, hp_cl, if_pos, if_neg, if_true, if_false, Option.bind_some, hp_X_isTrain]
      · rw [F_X9_lay_eq]
        simp (disch := omega) only [hp_kN, nI_add, pk_mul, hp_isInN, hp_m1L, hp_l0, hp_l1, hp_l2, hp_l3, hp_l4, hp_l5, hp_l7, hp_l8, hp_l10, hp_l17, hp_l20, hp_l24, hp_l48, hp_l50, hp_l55, hp_l127, hp_lm1, hp_eqN, hp_ltN, hp_inN, hp_cl, if_pos, if_neg, if_true, if_false, Option.bind_some, hp_M_isTrain]
    refine hp_step_c (hp_lay0 N hN 0 t (nI t) b v (Or.inr ⟨rfl, c2, rfl⟩)) (fun D => ?_) (fun D => ?_)
    · rw [F_X8_lay_eq]
      simp (disch := omega) only [hp_kN, nI_add, pk_mul, hp_isInN, hp_m1L, hp_l0, hp_l1, hp_l2, hp_l3, hp_l4, hp_l5, hp_l7, hp_l8, hp_l10, hp_l17, hp_l20, hp_l24, hp_l48, hp_l50, hp_l55, hp_l127, hp_lm1, hp_eqN, hp_ltN, hp_inN, hp_cl, if_pos, if_neg, if_true, if_false, Option.bind_some, hp_X_isTrain]
    · rw [F_X9_lay_eq]
      simp (disch := omega) only [hp_kN, nI_add, pk_mul, hp_isInN, hp_m1L, hp_l0, hp_l1, hp_l2, hp_l3, hp_l4, hp_l5, hp_l7, hp_l8, hp_l10, hp_l17, hp_l20, hp_l24, hp_l48, hp_l50, hp_l55, hp_l127, hp_lm1, hp_eqN, hp_ltN, hp_inN, hp_cl, if_pos, if_neg, if_true, if_false, Option.bind_some, hp_M_isTrain]
  · refine hp_step_c (hp_lay0 N hN 1 0 t b v (Or.inl rfl)) (fun D => ?_) (fun D => ?_)
    · rw [F_X8_lay_eq]
      simp (disch := omega) only [hp_kN, nI_add, pk_mul, hp_isInN, hp_m1L, hp_l0, hp_l1, hp_l2, hp_l3, hp_l4, hp_l5, hp_l7, hp_l8, hp_l10, hp_l17, hp_l20, hp_l24, hp_l48, hp_l50, hp_l55, hp_l127, hp_lm1, hp_eqN, hp_ltN, hp_inN, hp_cl, if_pos, if_neg, if_true, if_false, Option.bind_some]
    · rw [F_X9_lay_eq]
      simp (disch := omega) only [hp_kN, nI_add, pk_mul, hp_isInN, hp_m1L, hp_l0, hp_l1, hp_l2, hp_l3, hp_l4, hp_l5, hp_l7, hp_l8, hp_l10, hp_l17, hp_l20, hp_l24, hp_l48, hp_l50, hp_l55, hp_l127, hp_lm1, hp_eqN, hp_ltN, hp_inN, hp_cl, if_pos, if_neg, if_true, if_false, Option.bind_some]
