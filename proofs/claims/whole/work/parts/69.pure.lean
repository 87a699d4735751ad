/-! ===== brands ===== -/
def hp_bcI (a0 : Int32) : Int32 := ((((((((a0 - (((a0).toUInt32 >>> (((1 : Int32)).toUInt32 &&& Int32.toUInt32 31)).toInt32 &&& (1431655765 : Int32))) &&& (858993459 : Int32)) + ((((a0 - (((a0).toUInt32 >>> (((1 : Int32)).toUInt32 &&& Int32.toUInt32 31)).toInt32 &&& (1431655765 : Int32)))).toUInt32 >>> (((2 : Int32)).toUInt32 &&& Int32.toUInt32 31)).toInt32 &&& (858993459 : Int32))) + (((((a0 - (((a0).toUInt32 >>> (((1 : Int32)).toUInt32 &&& Int32.toUInt32 31)).toInt32 &&& (1431655765 : Int32))) &&& (858993459 : Int32)) + ((((a0 - (((a0).toUInt32 >>> (((1 : Int32)).toUInt32 &&& Int32.toUInt32 31)).toInt32 &&& (1431655765 : Int32)))).toUInt32 >>> (((2 : Int32)).toUInt32 &&& Int32.toUInt32 31)).toInt32 &&& (858993459 : Int32)))).toUInt32 >>> (((4 : Int32)).toUInt32 &&& Int32.toUInt32 31)).toInt32) &&& (252645135 : Int32)) + (((((((a0 - (((a0).toUInt32 >>> (((1 : Int32)).toUInt32 &&& Int32.toUInt32 31)).toInt32 &&& (1431655765 : Int32))) &&& (858993459 : Int32)) + ((((a0 - (((a0).toUInt32 >>> (((1 : Int32)).toUInt32 &&& Int32.toUInt32 31)).toInt32 &&& (1431655765 : Int32)))).toUInt32 >>> (((2 : Int32)).toUInt32 &&& Int32.toUInt32 31)).toInt32 &&& (858993459 : Int32))) + (((((a0 - (((a0).toUInt32 >>> (((1 : Int32)).toUInt32 &&& Int32.toUInt32 31)).toInt32 &&& (1431655765 : Int32))) &&& (858993459 : Int32)) + ((((a0 - (((a0).toUInt32 >>> (((1 : Int32)).toUInt32 &&& Int32.toUInt32 31)).toInt32 &&& (1431655765 : Int32)))).toUInt32 >>> (((2 : Int32)).toUInt32 &&& Int32.toUInt32 31)).toInt32 &&& (858993459 : Int32)))).toUInt32 >>> (((4 : Int32)).toUInt32 &&& Int32.toUInt32 31)).toInt32) &&& (252645135 : Int32))).toUInt32 >>> (((8 : Int32)).toUInt32 &&& Int32.toUInt32 31)).toInt32) + ((((((((a0 - (((a0).toUInt32 >>> (((1 : Int32)).toUInt32 &&& Int32.toUInt32 31)).toInt32 &&& (1431655765 : Int32))) &&& (858993459 : Int32)) + ((((a0 - (((a0).toUInt32 >>> (((1 : Int32)).toUInt32 &&& Int32.toUInt32 31)).toInt32 &&& (1431655765 : Int32)))).toUInt32 >>> (((2 : Int32)).toUInt32 &&& Int32.toUInt32 31)).toInt32 &&& (858993459 : Int32))) + (((((a0 - (((a0).toUInt32 >>> (((1 : Int32)).toUInt32 &&& Int32.toUInt32 31)).toInt32 &&& (1431655765 : Int32))) &&& (858993459 : Int32)) + ((((a0 - (((a0).toUInt32 >>> (((1 : Int32)).toUInt32 &&& Int32.toUInt32 31)).toInt32 &&& (1431655765 : Int32)))).toUInt32 >>> (((2 : Int32)).toUInt32 &&& Int32.toUInt32 31)).toInt32 &&& (858993459 : Int32)))).toUInt32 >>> (((4 : Int32)).toUInt32 &&& Int32.toUInt32 31)).toInt32) &&& (252645135 : Int32)) + (((((((a0 - (((a0).toUInt32 >>> (((1 : Int32)).toUInt32 &&& Int32.toUInt32 31)).toInt32 &&& (1431655765 : Int32))) &&& (858993459 : Int32)) + ((((a0 - (((a0).toUInt32 >>> (((1 : Int32)).toUInt32 &&& Int32.toUInt32 31)).toInt32 &&& (1431655765 : Int32)))).toUInt32 >>> (((2 : Int32)).toUInt32 &&& Int32.toUInt32 31)).toInt32 &&& (858993459 : Int32))) + (((((a0 - (((a0).toUInt32 >>> (((1 : Int32)).toUInt32 &&& Int32.toUInt32 31)).toInt32 &&& (1431655765 : Int32))) &&& (858993459 : Int32)) + ((((a0 - (((a0).toUInt32 >>> (((1 : Int32)).toUInt32 &&& Int32.toUInt32 31)).toInt32 &&& (1431655765 : Int32)))).toUInt32 >>> (((2 : Int32)).toUInt32 &&& Int32.toUInt32 31)).toInt32 &&& (858993459 : Int32)))).toUInt32 >>> (((4 : Int32)).toUInt32 &&& Int32.toUInt32 31)).toInt32) &&& (252645135 : Int32))).toUInt32 >>> (((8 : Int32)).toUInt32 &&& Int32.toUInt32 31)).toInt32)).toUInt32 >>> (((16 : Int32)).toUInt32 &&& Int32.toUInt32 31)).toInt32) &&& (63 : Int32))
def hp_pc (c : Nat) : Nat := c % 2 + c / 2 % 2 + c / 4 % 2 + c / 8 % 2 + c / 16 % 2 + c / 32 % 2 + c / 64 % 2 + c / 128 % 2
def hp_may (b c : Nat) : Nat := if b = 0 then 1 else if b = 1 then (if hp_pc c ≤ 1 then 1 else 0) else if b = 2 then (if hp_pc c ≤ 2 then 1 else 0) else (if hp_pc c ≤ 1 then 1 else if hp_pc c = 2 ∧ c &&& (c / 2) ≠ 0 then 1 else 0)
def hp_cnt (b : Nat) : Nat → Nat
  | 0 => 0
  | i + 1 => hp_cnt b i + hp_may b i
def hp_cor (b r : Nat) : Nat := ((List.range 65).find? fun c => hp_may b c == 1 && hp_cnt b c == r).getD 0
def hp_wd (c : Nat) : Nat := if c = 0 then 0 else if c < 2 then 1 else if c < 4 then 2 else if c < 8 then 3 else if c < 16 then 4 else if c < 32 then 5 else if c < 64 then 6 else if c < 128 then 7 else 8
def hp_few (b n : Nat) : Nat := if n = 0 then 0 else hp_wd (hp_cor b (n - 1))
theorem hp_all1 {n : Nat} {p : Nat → Bool} (h : (List.range n).all p = true) {i : Nat} (hi : i < n) : p i = true := List.all_eq_true.mp h i (List.mem_range.mpr hi)
theorem hp_bc_t : ((List.range 256).all fun c => decide (hp_bcI (nI c) = nI (hp_pc c))) = true := by decide +kernel
theorem hp_bc (N : Nat) {c : Nat} (h : c < 256) (D : hy_M) : F_J6_bitCount_0f7a4 N (nI c) D = some (nI (hp_pc c), D) := by
  rw [F_J6_bitCount_0f7a4_eq]
  have := of_decide_eq_true (hp_all1 hp_bc_t h)
  unfold hp_bcI at this
  rw [this]
def hp_onI (v0 : Int32) : Int32 := 0 + ((v0 >>> (nI 0 &&& 31)) &&& 1) + ((v0 >>> (nI 1 &&& 31)) &&& 1) + ((v0 >>> (nI 2 &&& 31)) &&& 1) + ((v0 >>> (nI 3 &&& 31)) &&& 1) + ((v0 >>> (nI 4 &&& 31)) &&& 1) + ((v0 >>> (nI 5 &&& 31)) &&& 1) + ((v0 >>> (nI 6 &&& 31)) &&& 1) + ((v0 >>> (nI 7 &&& 31)) &&& 1)
theorem hp_on_t : ((List.range 256).all fun c => decide (hp_onI (nI c) = nI (hp_pc c))) = true := by decide +kernel
theorem hp_on_s (N n : Nat) (v : Int32) (s : Int32) {i : Nat} (hi : i < 8) (D : hy_M) : F_X9_ones_4 N (n + 1) v s (nI i) D = F_X9_ones_4 N n v (s + ((v >>> (nI i &&& 31)) &&& 1)) (nI (i + 1)) D := by
  rw [F_X9_ones_4_eq, if_pos]
  · rw [show nI i + (1 : Int32) = nI (i + 1) from nI_add i 1]
  · show nI i < nI 8
    rw [hp_ltN (by omega) (by omega)]
    exact hi
theorem hp_on (N : Nat) (hN : 10 ≤ N) {c : Nat} (h : c < 256) (D : hy_M) : F_X9_ones N (nI c) D = some (nI (hp_pc c), D) := by
  obtain ⟨N, rfl⟩ : ∃ n, N = n + 10 := ⟨N - 10, by omega⟩
  have := of_decide_eq_true (hp_all1 hp_on_t h)
  rw [F_X9_ones_eq]
  show F_X9_ones_4 (N + 10) (N + 9 + 1) (nI c) 0 (nI 0) D = _
  rw [hp_on_s _ _ _ _ (by omega), hp_on_s _ (N + 8) _ _ (by omega), hp_on_s _ (N + 7) _ _ (by omega), hp_on_s _ (N + 6) _ _ (by omega), hp_on_s _ (N + 5) _ _ (by omega), hp_on_s _ (N + 4) _ _ (by omega), hp_on_s _ (N + 3) _ _ (by omega), hp_on_s _ (N + 2) _ _ (by omega), F_X9_ones_4_eq, if_neg (by decide)]
  rw [← this]
  rfl
def hp_mayI (b c o : Int32) : Int32 := if b = 0 then 1 else if b = 1 then (if (1 : Int32) < o then 0 else 1) else if b = 2 then (if (2 : Int32) < o then 0 else 1) else (if (1 : Int32) < o then (if o = 2 then (if (c &&& (c >>> ((1 : Int32) &&& 31))) = 0 then 0 else 1) else 0) else 1)
theorem hp_may_t : ((List.range 4).all fun b => (List.range 256).all fun c => decide (hp_mayI (nI b) (nI c) (nI (hp_pc c)) = nI (hp_may b c))) = true := by decide +kernel
theorem hp_mayX (N : Nat) {b c : Nat} (hb : b < 4) (h : c < 256) (D : hy_M) : F_X1_mayBe N (nI b) (nI c) D = some (nI (hp_may b c), D) := by
  rw [F_X1_mayBe_eq, hp_bc N h, ← of_decide_eq_true (hp_all1 (hp_all1 hp_may_t hb) h), Option.bind_some]
  unfold hp_mayI
  simp only
  repeat' split
  all_goals first | rfl | contradiction
theorem hp_mayM (N : Nat) (hN : 10 ≤ N) {b c : Nat} (hb : b < 4) (h : c < 256) (D : hy_M) : F_X9_mayBe N (nI c) (nI b) D = some (nI (hp_may b c), D) := by
  rw [F_X9_mayBe_eq, hp_on N hN h, ← of_decide_eq_true (hp_all1 (hp_all1 hp_may_t hb) h), Option.bind_some]
  unfold hp_mayI
  simp only
  repeat' split
  all_goals first | rfl | contradiction
theorem hp_may01 (b c : Nat) : hp_may b c = 0 ∨ hp_may b c = 1 := by
  unfold hp_may
  repeat' split
  all_goals simp
/-! the code at a rank -/
theorem hp_cor_t : ((List.range 4).all fun b => (List.range 8).all fun r => decide (hp_cor b r < 65) && decide (hp_may b (hp_cor b r) = 1) && decide (hp_cnt b (hp_cor b r) = r) && (List.range 65).all fun i => !(decide (i < hp_cor b r)) || (decide (hp_cnt b i ≤ r) && (decide (hp_may b i = 0) || decide (hp_cnt b i < r)))) = true := by decide +kernel
theorem hp_cor_f {b r : Nat} (hb : b < 4) (hr : r < 8) : hp_cor b r < 65 ∧ hp_may b (hp_cor b r) = 1 ∧ hp_cnt b (hp_cor b r) = r ∧ ∀ i, i < hp_cor b r → hp_cnt b i ≤ r ∧ (hp_may b i = 0 ∨ hp_cnt b i < r) := by
  have h := hp_all1 (hp_all1 hp_cor_t hb) hr
  simp only [Bool.and_eq_true, decide_eq_true_eq] at h
  obtain ⟨⟨⟨h1, h2⟩, h3⟩, h4⟩ := h
  refine ⟨h1, h2, h3, fun i hi => ?_⟩
  have := hp_all1 h4 (show i < 65 by omega)
  simp only [Bool.or_eq_true, Bool.and_eq_true, Bool.not_eq_true', decide_eq_true_eq, decide_eq_false_iff_not] at this
  omega
theorem hp_corX_l (N : Nat) {b r : Nat} (hb : b < 4) (hr : r < 8) (D : hy_M) : ∀ m i n, i + m = hp_cor b r → m < n → F_X1_codeOfRank_4 N n (nI b) (nI r) (nI (hp_cnt b i)) (nI i) D = some (nI (hp_cor b r), D) := by
  obtain ⟨f1, f2, f3, f4⟩ := hp_cor_f hb hr
  intro m
  induction m with
  | zero =>
    intro i n e hn
    obtain ⟨n, rfl⟩ : ∃ n', n = n' + 1 := ⟨n - 1, by omega⟩
    have e : i = hp_cor b r := by omega
    rw [F_X1_codeOfRank_4_eq, e]
    simp (disch := omega) only [hp_kN, nI_add, pk_mul, hp_isInN, hp_m1L, hp_l0, hp_l1, hp_l2, hp_l3, hp_l4, hp_l5, hp_l7, hp_l8, hp_l10, hp_l17, hp_l20, hp_l24, hp_l48, hp_l50, hp_l55, hp_l127, hp_lm1, hp_eqN, hp_ltN, hp_inN, hp_cl, if_pos, if_neg, if_true, if_false, Option.bind_some, hp_mayX, f2, f3]
  | succ m ih =>
    intro i n e hn
    obtain ⟨n, rfl⟩ : ∃ n', n = n' + 1 := ⟨n - 1, by omega⟩
    have := f4 i (by omega)
    rw [F_X1_codeOfRank_4_eq]
    have hi := ih (i + 1) n (by omega) (by omega)
    have e3 : hp_cnt b (i + 1) = hp_cnt b i + hp_may b i := rfl
    rcases hp_may01 b i with m0 | m0
    · rw [e3, m0, Nat.add_zero] at hi
      simp (disch := omega) only [hp_kN, nI_add, pk_mul, hp_isInN, hp_m1L, hp_l0, hp_l1, hp_l2, hp_l3, hp_l4, hp_l5, hp_l7, hp_l8, hp_l10, hp_l17, hp_l20, hp_l24, hp_l48, hp_l50, hp_l55, hp_l127, hp_lm1, hp_eqN, hp_ltN, hp_inN, hp_cl, if_pos, if_neg, if_true, if_false, Option.bind_some, hp_mayX, m0, hi]
    · rw [e3, m0] at hi
      simp (disch := omega) only [hp_kN, nI_add, pk_mul, hp_isInN, hp_m1L, hp_l0, hp_l1, hp_l2, hp_l3, hp_l4, hp_l5, hp_l7, hp_l8, hp_l10, hp_l17, hp_l20, hp_l24, hp_l48, hp_l50, hp_l55, hp_l127, hp_lm1, hp_eqN, hp_ltN, hp_inN, hp_cl, if_pos, if_neg, if_true, if_false, Option.bind_some, hp_mayX, m0, hi]
theorem hp_corX (N : Nat) (hN : 100 ≤ N) {b r : Nat} (hb : b < 4) (hr : r < 8) (D : hy_M) : F_X1_codeOfRank N (nI b) (nI r) D = some (nI (hp_cor b r), D) := by
  rw [F_X1_codeOfRank_eq]
  have := (hp_cor_f hb hr).1
  exact hp_corX_l N hb hr D (hp_cor b r) 0 N (by omega) (by omega)
theorem hp_corM_l (N : Nat) (hN : 10 ≤ N) {b r : Nat} (hb : b < 4) (hr : r < 8) (D : hy_M) (hD : D 68 1 = nI b) : ∀ m i n, i + m = hp_cor b r → m < n → F_X9_codeOf_4 N n (nI (r - hp_cnt b i)) (nI i) D = some (nI (hp_cor b r), D) := by
  obtain ⟨f1, f2, f3, f4⟩ := hp_cor_f hb hr
  intro m
  induction m with
  | zero =>
    intro i n e hn
    obtain ⟨n, rfl⟩ : ∃ n', n = n' + 1 := ⟨n - 1, by omega⟩
    have e : i = hp_cor b r := by omega
    rw [F_X9_codeOf_4_eq, e, f3, hD]
    simp (disch := omega) only [hp_kN, nI_add, pk_mul, hp_isInN, hp_m1L, hp_l0, hp_l1, hp_l2, hp_l3, hp_l4, hp_l5, hp_l7, hp_l8, hp_l10, hp_l17, hp_l20, hp_l24, hp_l48, hp_l50, hp_l55, hp_l127, hp_lm1, hp_eqN, hp_ltN, hp_inN, hp_cl, if_pos, if_neg, if_true, if_false, Option.bind_some, hp_mayM, f2, Nat.sub_self]
  | succ m ih =>
    intro i n e hn
    obtain ⟨n, rfl⟩ : ∃ n', n = n' + 1 := ⟨n - 1, by omega⟩
    have := f4 i (by omega)
    have hi := ih (i + 1) n (by omega) (by omega)
    have e3 : hp_cnt b (i + 1) = hp_cnt b i + hp_may b i := rfl
    have e4 : F_X9_codeOf_21 N n (nI (r - hp_cnt b i)) (nI i) D = some (nI (hp_cor b r), D) := by
      rw [F_X9_codeOf_21_eq, hD]
      rcases hp_may01 b i with m0 | m0
      · rw [e3, m0, Nat.add_zero] at hi
        simp (disch := omega) only [hp_kN, nI_add, pk_mul, hp_isInN, hp_m1L, hp_l0, hp_l1, hp_l2, hp_l3, hp_l4, hp_l5, hp_l7, hp_l8, hp_l10, hp_l17, hp_l20, hp_l24, hp_l48, hp_l50, hp_l55, hp_l127, hp_lm1, hp_eqN, hp_ltN, hp_inN, hp_cl, if_pos, if_neg, if_true, if_false, Option.bind_some, hp_mayM, m0, pk_sub, Nat.sub_zero, hi]
      · rw [e3, m0] at hi
        have e5 : r - hp_cnt b i - 1 = r - (hp_cnt b i + 1) := by omega
        simp (disch := omega) only [hp_kN, nI_add, pk_mul, hp_isInN, hp_m1L, hp_l0, hp_l1, hp_l2, hp_l3, hp_l4, hp_l5, hp_l7, hp_l8, hp_l10, hp_l17, hp_l20, hp_l24, hp_l48, hp_l50, hp_l55, hp_l127, hp_lm1, hp_eqN, hp_ltN, hp_inN, hp_cl, if_pos, if_neg, if_true, if_false, Option.bind_some, hp_mayM, m0, pk_sub, e5, hi]
    rw [F_X9_codeOf_4_eq, hD]
    by_cases c : 0 < r - hp_cnt b i
    · simp (disch := omega) only [hp_kN, nI_add, pk_mul, hp_isInN, hp_m1L, hp_l0, hp_l1, hp_l2, hp_l3, hp_l4, hp_l5, hp_l7, hp_l8, hp_l10, hp_l17, hp_l20, hp_l24, hp_l48, hp_l50, hp_l55, hp_l127, hp_lm1, hp_eqN, hp_ltN, hp_inN, hp_cl, if_pos, if_neg, if_true, if_false, Option.bind_some, e4]
    · have m0 : hp_may b i = 0 := by omega
      simp (disch := omega) only [hp_kN, nI_add, pk_mul, hp_isInN, hp_m1L, hp_l0, hp_l1, hp_l2, hp_l3, hp_l4, hp_l5, hp_l7, hp_l8, hp_l10, hp_l17, hp_l20, hp_l24, hp_l48, hp_l50, hp_l55, hp_l127, hp_lm1, hp_eqN, hp_ltN, hp_inN, hp_cl, if_pos, if_neg, if_true, if_false, Option.bind_some, hp_mayM, m0, e4]
theorem hp_corM (N : Nat) (hN : 100 ≤ N) {b r : Nat} (hb : b < 4) (hr : r < 8) (D : hy_M) (hD : D 68 1 = nI b) : F_X9_codeOf N (nI r) D = some (nI (hp_cor b r), D) := by
  rw [F_X9_codeOf_eq]
  have := (hp_cor_f hb hr).1
  exact hp_corM_l N (by omega) hb hr D hD (hp_cor b r) 0 N (by omega) (by omega)
/-! widths -/
theorem hp_sh_t : ((List.range 8).all fun w => (List.range 256).all fun c => decide ((nI c >>> (nI w &&& nI 31) = nI 0) ↔ hp_wd c ≤ w)) = true := by decide +kernel
theorem hp_shw {w c : Nat} (hw : w < 8) (hc : c < 256) : (nI c >>> (nI w &&& nI 31) = nI 0) = (hp_wd c ≤ w) := by
  apply propext
  have := of_decide_eq_true (hp_all1 (hp_all1 hp_sh_t hw) hc)
  exact this
theorem hp_wd8 (c : Nat) : hp_wd c ≤ 8 := by
  unfold hp_wd
  repeat' split
  all_goals omega
theorem hp_wdX_l (N : Nat) {c : Nat} (hc : c < 256) (D : hy_M) : ∀ m i n, i + m = hp_wd c → m < n → F_X1_widthOf_2 N n (nI c) (nI i) D = some (nI (hp_wd c), D) := by
  have h8 := hp_wd8 c
  intro m
  induction m with
  | zero =>
    intro i n e hn
    obtain ⟨n, rfl⟩ : ∃ n', n = n' + 1 := ⟨n - 1, by omega⟩
    have e : i = hp_wd c := by omega
    rw [F_X1_widthOf_2_eq]
    by_cases q : i < 8
    · simp (disch := omega) only [hp_kN, nI_add, pk_mul, hp_isInN, hp_m1L, hp_l0, hp_l1, hp_l2, hp_l3, hp_l4, hp_l5, hp_l7, hp_l8, hp_l10, hp_l17, hp_l20, hp_l24, hp_l48, hp_l50, hp_l55, hp_l127, hp_lm1, hp_eqN, hp_ltN, hp_inN, hp_cl, if_pos, if_neg, if_true, if_false, Option.bind_some, hp_shw]
      rw [e]
    · simp (disch := omega) only [hp_kN, nI_add, pk_mul, hp_isInN, hp_m1L, hp_l0, hp_l1, hp_l2, hp_l3, hp_l4, hp_l5, hp_l7, hp_l8, hp_l10, hp_l17, hp_l20, hp_l24, hp_l48, hp_l50, hp_l55, hp_l127, hp_lm1, hp_eqN, hp_ltN, hp_inN, hp_cl, if_pos, if_neg, if_true, if_false, Option.bind_some]
      rw [e]
  | succ m ih =>
    intro i n e hn
    obtain ⟨n, rfl⟩ : ∃ n', n = n' + 1 := ⟨n - 1, by omega⟩
    rw [F_X1_widthOf_2_eq]
    simp (disch := omega) only [hp_kN, nI_add, pk_mul, hp_isInN, hp_m1L, hp_l0, hp_l1, hp_l2, hp_l3, hp_l4, hp_l5, hp_l7, hp_l8, hp_l10, hp_l17, hp_l20, hp_l24, hp_l48, hp_l50, hp_l55, hp_l127, hp_lm1, hp_eqN, hp_ltN, hp_inN, hp_cl, if_pos, if_neg, if_true, if_false, Option.bind_some, hp_shw, ih (i + 1) n (by omega) (by omega)]
theorem hp_wdX (N : Nat) (hN : 10 ≤ N) {c : Nat} (hc : c < 256) (D : hy_M) : F_X1_widthOf N (nI c) D = some (nI (hp_wd c), D) := by
  rw [F_X1_widthOf_eq]
  have := hp_wd8 c
  exact hp_wdX_l N hc D (hp_wd c) 0 N (by omega) (by omega)
theorem hp_fewX (N : Nat) (hN : 100 ≤ N) {b n : Nat} (hb : b < 4) (hn : n ≤ 8) (D : hy_M) : F_X1_fewestFor N (nI b) (nI n) D = some (nI (hp_few b n), D) := by
  rw [F_X1_fewestFor_eq]
  unfold hp_few
  by_cases c : n = 0
  · simp (disch := omega) only [hp_kN, nI_add, pk_mul, hp_isInN, hp_m1L, hp_l0, hp_l1, hp_l2, hp_l3, hp_l4, hp_l5, hp_l7, hp_l8, hp_l10, hp_l17, hp_l20, hp_l24, hp_l48, hp_l50, hp_l55, hp_l127, hp_lm1, hp_eqN, hp_ltN, hp_inN, hp_cl, if_pos, if_neg, if_true, if_false, Option.bind_some, c]
  · have := (hp_cor_f hb (show n - 1 < 8 by omega)).1
    simp (disch := omega) only [hp_kN, nI_add, pk_mul, hp_isInN, hp_m1L, hp_l0, hp_l1, hp_l2, hp_l3, hp_l4, hp_l5, hp_l7, hp_l8, hp_l10, hp_l17, hp_l20, hp_l24, hp_l48, hp_l50, hp_l55, hp_l127, hp_lm1, hp_eqN, hp_ltN, hp_inN, hp_cl, if_pos, if_neg, if_true, if_false, Option.bind_some, pk_sub, hp_corX N hN hb, hp_wdX]
/-! the reference counts -/
theorem hp_few_t : ((List.range 4).all fun b => (List.range 9).all fun n => decide (hp_few b n < 8) && decide (n ≤ hp_cnt b (2 ^ hp_few b n)) && (List.range 8).all fun h => !(decide (h < hp_few b n)) || decide (hp_cnt b (2 ^ h) < n)) = true := by decide +kernel
theorem hp_few_f {b n : Nat} (hb : b < 4) (hn : n ≤ 8) : hp_few b n < 8 ∧ n ≤ hp_cnt b (2 ^ hp_few b n) ∧ ∀ h, h < hp_few b n → hp_cnt b (2 ^ h) < n := by
  have h := hp_all1 (hp_all1 hp_few_t hb) (show n < 9 by omega)
  simp only [Bool.and_eq_true, decide_eq_true_eq] at h
  obtain ⟨⟨h1, h2⟩, h3⟩ := h
  refine ⟨h1, h2, fun i hi => ?_⟩
  have := hp_all1 h3 (show i < 8 by omega)
  simp only [Bool.or_eq_true, Bool.not_eq_true', decide_eq_true_eq, decide_eq_false_iff_not] at this
  omega
theorem hp_shl_t : ((List.range 8).all fun h => decide ((1 : Int32) <<< (nI h &&& (31 : Int32)) = nI (2 ^ h))) = true := by decide +kernel
theorem hp_shl {h : Nat} (hh : h < 8) : nI 1 <<< (nI h &&& nI 31) = nI (2 ^ h) := of_decide_eq_true (hp_all1 hp_shl_t hh)
theorem hp_p2 {h : Nat} (hh : h < 8) : 2 ^ h ≤ 128 := by
  have : ∀ h, h < 8 → 2 ^ h ≤ 128 := by decide
  exact this h hh
theorem hp_cnt_le (b i : Nat) : hp_cnt b i ≤ i := by
  induction i with
  | zero => exact Nat.le_refl _
  | succ i ih =>
    show hp_cnt b i + hp_may b i ≤ i + 1
    rcases hp_may01 b i with h | h <;> omega
theorem hp_ff13 (N : Nat) (hN : 10 ≤ N) (n2 : Nat) {b v h : Nat} (hb : b < 4) (hh : h < 8) (D : hy_M) (hD : D 68 1 = nI b) : ∀ m i n, i + m = 2 ^ h → m < n → F_X9_fewestFor_13 N n2 n (nI v) (nI h) (nI (hp_cnt b i)) (nI i) D = if nI (hp_cnt b (2 ^ h)) < nI v then F_X9_fewestFor_2 N n2 (nI v) (nI (h + 1)) D else some (nI h, D) := by
  have hp := hp_p2 hh
  intro m
  induction m with
  | zero =>
    intro i n e hn
    obtain ⟨n, rfl⟩ : ∃ n', n = n' + 1 := ⟨n - 1, by omega⟩
    have e : i = 2 ^ h := by omega
    rw [F_X9_fewestFor_13_eq, e]
    simp (disch := omega) only [hp_kN, hp_shl, hp_ltN, if_neg, nI_add]
  | succ m ih =>
    intro i n e hn
    obtain ⟨n, rfl⟩ : ∃ n', n = n' + 1 := ⟨n - 1, by omega⟩
    have hi := ih (i + 1) n (by omega) (by omega)
    have e3 : hp_cnt b (i + 1) = hp_cnt b i + hp_may b i := rfl
    rw [← hi, F_X9_fewestFor_13_eq, hD, e3]
    rcases hp_may01 b i with m0 | m0
    · simp (disch := omega) only [hp_kN, hp_shl, hp_ltN, hp_eqN, if_pos, nI_add, hp_mayM, m0, Option.bind_some, Nat.add_zero, if_true]
    · simp (disch := omega) only [hp_kN, hp_shl, hp_ltN, hp_eqN, if_pos, if_neg, nI_add, hp_mayM, m0, Option.bind_some]
theorem hp_fewM_l (N : Nat) (hN : 1000 ≤ N) {b v : Nat} (hb : b < 4) (hv : v ≤ 8) (D : hy_M) (hD : D 68 1 = nI b) : ∀ m h n, h + m = hp_few b v → m < n → F_X9_fewestFor_2 N n (nI v) (nI h) D = some (nI (hp_few b v), D) := by
  obtain ⟨f1, f2, f3⟩ := hp_few_f hb hv
  intro m
  induction m with
  | zero =>
    intro h n e hn
    obtain ⟨n, rfl⟩ : ∃ n', n = n' + 1 := ⟨n - 1, by omega⟩
    have e : h = hp_few b v := by omega
    have hp := hp_p2 (h := h) (by omega)
    have hq := hp_cnt_le b (2 ^ h)
    have k := hp_ff13 N (by omega) n (v := v) hb (show h < 8 by omega) D hD (2 ^ h) 0 N (by omega) (by omega)
    have k0 : hp_cnt b 0 = 0 := rfl
    rw [k0] at k
    rw [← e] at f2
    rw [F_X9_fewestFor_2_eq, ← e]
    simp (disch := omega) only [hp_kN, nI_add, pk_mul, hp_isInN, hp_m1L, hp_l0, hp_l1, hp_l2, hp_l3, hp_l4, hp_l5, hp_l7, hp_l8, hp_l10, hp_l17, hp_l20, hp_l24, hp_l48, hp_l50, hp_l55, hp_l127, hp_lm1, hp_eqN, hp_ltN, hp_inN, hp_cl, if_pos, if_neg, if_true, if_false, Option.bind_some, k]
  | succ m ih =>
    intro h n e hn
    obtain ⟨n, rfl⟩ : ∃ n', n = n' + 1 := ⟨n - 1, by omega⟩
    have hp := hp_p2 (h := h) (by omega)
    have hq := hp_cnt_le b (2 ^ h)
    have k := hp_ff13 N (by omega) n (v := v) hb (show h < 8 by omega) D hD (2 ^ h) 0 N (by omega) (by omega)
    have k0 : hp_cnt b 0 = 0 := rfl
    rw [k0] at k
    have := f3 h (by omega)
    rw [F_X9_fewestFor_2_eq]
    simp (disch := omega) only [hp_kN, nI_add, pk_mul, hp_isInN, hp_m1L, hp_l0, hp_l1, hp_l2, hp_l3, hp_l4, hp_l5, hp_l7, hp_l8, hp_l10, hp_l17, hp_l20, hp_l24, hp_l48, hp_l50, hp_l55, hp_l127, hp_lm1, hp_eqN, hp_ltN, hp_inN, hp_cl, if_pos, if_neg, if_true, if_false, Option.bind_some, k, ih (h + 1) n (by omega) (by omega)]
theorem hp_fewM (N : Nat) (hN : 1000 ≤ N) {b v : Nat} (hb : b < 4) (hv : v ≤ 8) (D : hy_M) (hD : D 68 1 = nI b) : F_X9_fewestFor N (nI v) D = some (nI (hp_few b v), D) := by
  rw [F_X9_fewestFor_eq]
  have := (hp_few_f hb hv).1
  exact hp_fewM_l N hN hb hv D hD (hp_few b v) 0 N (by omega) (by omega)
/-! how many may be -/
theorem hp_hmX (N : Nat) {b : Nat} (hb : b < 4) (D : hy_M) : ∀ m i n, i + m = 8 → m < n → F_X1_howMany_4 N n (nI b) (nI (hp_cnt b i)) (nI i) D = some (nI (hp_cnt b 8), D) := by
  intro m
  induction m with
  | zero =>
    intro i n e hn
    obtain ⟨n, rfl⟩ : ∃ n', n = n' + 1 := ⟨n - 1, by omega⟩
    have e : i = 8 := by omega
    rw [F_X1_howMany_4_eq, e]
    simp (disch := omega) only [hp_kN, nI_add, pk_mul, hp_isInN, hp_m1L, hp_l0, hp_l1, hp_l2, hp_l3, hp_l4, hp_l5, hp_l7, hp_l8, hp_l10, hp_l17, hp_l20, hp_l24, hp_l48, hp_l50, hp_l55, hp_l127, hp_lm1, hp_eqN, hp_ltN, hp_inN, hp_cl, if_pos, if_neg, if_true, if_false, Option.bind_some]
  | succ m ih =>
    intro i n e hn
    obtain ⟨n, rfl⟩ : ∃ n', n = n' + 1 := ⟨n - 1, by omega⟩
    have hi := ih (i + 1) n (by omega) (by omega)
    have e3 : hp_cnt b (i + 1) = hp_cnt b i + hp_may b i := rfl
    rw [← hi, F_X1_howMany_4_eq, e3]
    rcases hp_may01 b i with m0 | m0
    · simp (disch := omega) only [hp_kN, nI_add, pk_mul, hp_isInN, hp_m1L, hp_l0, hp_l1, hp_l2, hp_l3, hp_l4, hp_l5, hp_l7, hp_l8, hp_l10, hp_l17, hp_l20, hp_l24, hp_l48, hp_l50, hp_l55, hp_l127, hp_lm1, hp_eqN, hp_ltN, hp_inN, hp_cl, if_pos, if_neg, if_true, if_false, Option.bind_some, hp_mayX, m0, Nat.add_zero]
    · simp (disch := omega) only [hp_kN, nI_add, pk_mul, hp_isInN, hp_m1L, hp_l0, hp_l1, hp_l2, hp_l3, hp_l4, hp_l5, hp_l7, hp_l8, hp_l10, hp_l17, hp_l20, hp_l24, hp_l48, hp_l50, hp_l55, hp_l127, hp_lm1, hp_eqN, hp_ltN, hp_inN, hp_cl, if_pos, if_neg, if_true, if_false, Option.bind_some, hp_mayX, m0]
theorem hp_hmM (N : Nat) (hN : 10 ≤ N) {b : Nat} (hb : b < 4) (D : hy_M) (hD : D 68 1 = nI b) : ∀ m i n, i + m = 8 → m < n → F_X9_mayAll_4 N n (nI (hp_cnt b i)) (nI i) D = some (nI (hp_cnt b 8), D) := by
  intro m
  induction m with
  | zero =>
    intro i n e hn
    obtain ⟨n, rfl⟩ : ∃ n', n = n' + 1 := ⟨n - 1, by omega⟩
    have e : i = 8 := by omega
    rw [F_X9_mayAll_4_eq, e]
    simp (disch := omega) only [hp_kN, nI_add, pk_mul, hp_isInN, hp_m1L, hp_l0, hp_l1, hp_l2, hp_l3, hp_l4, hp_l5, hp_l7, hp_l8, hp_l10, hp_l17, hp_l20, hp_l24, hp_l48, hp_l50, hp_l55, hp_l127, hp_lm1, hp_eqN, hp_ltN, hp_inN, hp_cl, if_pos, if_neg, if_true, if_false, Option.bind_some]
  | succ m ih =>
    intro i n e hn
    obtain ⟨n, rfl⟩ : ∃ n', n = n' + 1 := ⟨n - 1, by omega⟩
    have hi := ih (i + 1) n (by omega) (by omega)
    have e3 : hp_cnt b (i + 1) = hp_cnt b i + hp_may b i := rfl
    rw [← hi, F_X9_mayAll_4_eq, e3, hD]
    rcases hp_may01 b i with m0 | m0
    · simp (disch := omega) only [hp_kN, nI_add, pk_mul, hp_isInN, hp_m1L, hp_l0, hp_l1, hp_l2, hp_l3, hp_l4, hp_l5, hp_l7, hp_l8, hp_l10, hp_l17, hp_l20, hp_l24, hp_l48, hp_l50, hp_l55, hp_l127, hp_lm1, hp_eqN, hp_ltN, hp_inN, hp_cl, if_pos, if_neg, if_true, if_false, Option.bind_some, hp_mayM, m0, Nat.add_zero]
    · simp (disch := omega) only [hp_kN, nI_add, pk_mul, hp_isInN, hp_m1L, hp_l0, hp_l1, hp_l2, hp_l3, hp_l4, hp_l5, hp_l7, hp_l8, hp_l10, hp_l17, hp_l20, hp_l24, hp_l48, hp_l50, hp_l55, hp_l127, hp_lm1, hp_eqN, hp_ltN, hp_inN, hp_cl, if_pos, if_neg, if_true, if_false, Option.bind_some, hp_mayM, m0]
