/-! ===== loads, lengths ===== -/
def hp_bit (c t : Nat) : Nat := c / 2 ^ t % 2
theorem hp_bit_t : ((List.range 256).all fun c => (List.range 3).all fun t => decide ((nI c >>> (nI t &&& nI 31) &&& nI 1 = nI 1) ↔ hp_bit c t = 1)) = true := by decide +kernel
theorem hp_bitI {c t : Nat} (hc : c < 256) (ht : t < 3) : (nI c >>> (nI t &&& nI 31) &&& nI 1 = nI 1) = (hp_bit c t = 1) := propext (of_decide_eq_true (hp_all1 (hp_all1 hp_bit_t hc) ht))
theorem hp_has (N : Nat) {c t : Nat} (hc : c < 256) (ht : t < 3) (D : hy_M) : F_X9_has N (nI c) (nI t) D = some (nI (if hp_bit c t = 1 then 1 else 0), D) := by
  rw [F_X9_has_eq]
  by_cases q : hp_bit c t = 1
  · simp (disch := omega) only [hp_kN, nI_add, pk_mul, hp_isInN, hp_m1L, hp_l0, hp_l1, hp_l2, hp_l3, hp_l4, hp_l5, hp_l7, hp_l8, hp_l10, hp_l17, hp_l20, hp_l24, hp_l48, hp_l50, hp_l55, hp_l127, hp_lm1, hp_eqN, hp_ltN, hp_inN, hp_cl, if_pos, if_neg, if_true, if_false, Option.bind_some, hp_bitI, q]
  · simp (disch := omega) only [hp_kN, nI_add, pk_mul, hp_isInN, hp_m1L, hp_l0, hp_l1, hp_l2, hp_l3, hp_l4, hp_l5, hp_l7, hp_l8, hp_l10, hp_l17, hp_l20, hp_l24, hp_l48, hp_l50, hp_l55, hp_l127, hp_lm1, hp_eqN, hp_ltN, hp_inN, hp_cl, if_pos, if_neg, if_true, if_false, Option.bind_some, hp_bitI, q]
def hp_load (y : Nat → Nat → Nat) (by_ : Nat → Nat) (t : Nat) : Nat := hp_sum (fun j => if hp_bit (by_ j) t = 1 then y 1 j else 0) (y 0 0)
theorem hp_loX (N : Nat) (hN : 10 ≤ N) {y : Nat → Nat → Nat} (hk : y 0 0 ≤ 8) {by_ : Nat → Nat} {D : hy_M} (h0 : D 1 0 = nI (y 0 0)) (h1 : ∀ j, j < 8 → D 2 j = nI (y 1 j)) (hb : ∀ j, j < y 0 0 → D 3 j = nI (by_ j)) (h8 : ∀ j, j < y 0 0 → by_ j < 8) {t : Nat} (ht : t < 3) : F_X7_loadOf N (nI t) D = some (nI (hp_load y by_ t), D) := by
  have l : ∀ m i n, i + m = y 0 0 → m < n → F_X7_loadOf_5 N n (nI t) (nI (hp_sum (fun j => if hp_bit (by_ j) t = 1 then y 1 j else 0) i)) (nI i) D = some (nI (hp_load y by_ t), D) := by
    intro m
    induction m with
    | zero =>
      intro i n e hm
      obtain ⟨n, rfl⟩ : ∃ n', n = n' + 1 := ⟨n - 1, by omega⟩
      have e : i = y 0 0 := by omega
      rw [F_X7_loadOf_5_eq, e]
      simp (disch := omega) only [hp_kN, nI_add, pk_mul, hp_isInN, hp_m1L, hp_l0, hp_l1, hp_l2, hp_l3, hp_l4, hp_l5, hp_l7, hp_l8, hp_l10, hp_l17, hp_l20, hp_l24, hp_l48, hp_l50, hp_l55, hp_l127, hp_lm1, hp_eqN, hp_ltN, hp_inN, hp_cl, if_pos, if_neg, if_true, if_false, Option.bind_some, h0]
      rfl
    | succ m ih =>
      intro i n e hm
      obtain ⟨n, rfl⟩ : ∃ n', n = n' + 1 := ⟨n - 1, by omega⟩
      have h8i := h8 i (by omega)
      have hi := ih (i + 1) n (by omega) (by omega)
      have e3 : hp_sum (fun j => if hp_bit (by_ j) t = 1 then y 1 j else 0) (i + 1) = hp_sum (fun j => if hp_bit (by_ j) t = 1 then y 1 j else 0) i + (if hp_bit (by_ i) t = 1 then y 1 i else 0) := rfl
      rw [← hi, F_X7_loadOf_5_eq, e3]
      by_cases q : hp_bit (by_ i) t = 1
      · simp (disch := omega) only [hp_kN, nI_add, pk_mul, hp_isInN, hp_m1L, hp_l0, hp_l1, hp_l2, hp_l3, hp_l4, hp_l5, hp_l7, hp_l8, hp_l10, hp_l17, hp_l20, hp_l24, hp_l48, hp_l50, hp_l55, hp_l127, hp_lm1, hp_eqN, hp_ltN, hp_inN, hp_cl, if_pos, if_neg, if_true, if_false, Option.bind_some, h0, hb, hp_bitI, h1, q]
      · simp (disch := omega) only [hp_kN, nI_add, pk_mul, hp_isInN, hp_m1L, hp_l0, hp_l1, hp_l2, hp_l3, hp_l4, hp_l5, hp_l7, hp_l8, hp_l10, hp_l17, hp_l20, hp_l24, hp_l48, hp_l50, hp_l55, hp_l127, hp_lm1, hp_eqN, hp_ltN, hp_inN, hp_cl, if_pos, if_neg, if_true, if_false, Option.bind_some, h0, hb, hp_bitI, h1, q, Nat.add_zero]
  rw [F_X7_loadOf_eq]
  exact l (y 0 0) 0 N (by omega) (by omega)
theorem hp_loX_1_66 (N : Nat) (hN : 10 ≤ N) {y : Nat → Nat → Nat} (hk : y 0 0 ≤ 8) {by_ : Nat → Nat} {D : hy_M} (h0 : D 1 0 = nI (y 0 0)) (h1 : ∀ j, j < 8 → D 2 j = nI (y 1 j)) (hb : ∀ j, j < y 0 0 → D 66 j = nI (by_ j)) (h8 : ∀ j, j < y 0 0 → by_ j < 8) {t : Nat} (ht : t < 3) : F_X7_loadOf_1_66 N (nI t) D = some (nI (hp_load y by_ t), D) := by
  have l : ∀ m i n, i + m = y 0 0 → m < n → F_X7_loadOf_1_66_5 N n (nI t) (nI (hp_sum (fun j => if hp_bit (by_ j) t = 1 then y 1 j else 0) i)) (nI i) D = some (nI (hp_load y by_ t), D) := by
    intro m
    induction m with
    | zero =>
      intro i n e hm
      obtain ⟨n, rfl⟩ : ∃ n', n = n' + 1 := ⟨n - 1, by omega⟩
      have e : i = y 0 0 := by omega
      rw [F_X7_loadOf_1_66_5_eq, e]
      simp (disch := omega) only [hp_kN, nI_add, pk_mul, hp_isInN, hp_m1L, hp_l0, hp_l1, hp_l2, hp_l3, hp_l4, hp_l5, hp_l7, hp_l8, hp_l10, hp_l17, hp_l20, hp_l24, hp_l48, hp_l50, hp_l55, hp_l127, hp_lm1, hp_eqN, hp_ltN, hp_inN, hp_cl, if_pos, if_neg, if_true, if_false, Option.bind_some, h0]
      rfl
    | succ m ih =>
      intro i n e hm
      obtain ⟨n, rfl⟩ : ∃ n', n = n' + 1 := ⟨n - 1, by omega⟩
      have h8i := h8 i (by omega)
      have hi := ih (i + 1) n (by omega) (by omega)
      have e3 : hp_sum (fun j => if hp_bit (by_ j) t = 1 then y 1 j else 0) (i + 1) = hp_sum (fun j => if hp_bit (by_ j) t = 1 then y 1 j else 0) i + (if hp_bit (by_ i) t = 1 then y 1 i else 0) := rfl
      rw [← hi, F_X7_loadOf_1_66_5_eq, e3]
      by_cases q : hp_bit (by_ i) t = 1
      · simp (disch := omega) only [hp_kN, nI_add, pk_mul, hp_isInN, hp_m1L, hp_l0, hp_l1, hp_l2, hp_l3, hp_l4, hp_l5, hp_l7, hp_l8, hp_l10, hp_l17, hp_l20, hp_l24, hp_l48, hp_l50, hp_l55, hp_l127, hp_lm1, hp_eqN, hp_ltN, hp_inN, hp_cl, if_pos, if_neg, if_true, if_false, Option.bind_some, h0, hb, hp_bitI, h1, q]
      · simp (disch := omega) only [hp_kN, nI_add, pk_mul, hp_isInN, hp_m1L, hp_l0, hp_l1, hp_l2, hp_l3, hp_l4, hp_l5, hp_l7, hp_l8, hp_l10, hp_l17, hp_l20, hp_l24, hp_l48, hp_l50, hp_l55, hp_l127, hp_lm1, hp_eqN, hp_ltN, hp_inN, hp_cl, if_pos, if_neg, if_true, if_false, Option.bind_some, h0, hb, hp_bitI, h1, q, Nat.add_zero]
  rw [F_X7_loadOf_1_66_eq]
  exact l (y 0 0) 0 N (by omega) (by omega)
theorem hp_loM (N : Nat) (hN : 10 ≤ N) {y : Nat → Nat → Nat} (hk : y 0 0 ≤ 8) {by_ : Nat → Nat} {D : hy_M} (h0 : D 68 0 = nI (y 0 0)) (h1 : ∀ j, j < 8 → D 68 (4 + j) = nI (y 1 j)) (hb : ∀ j, j < y 0 0 → D 68 (12 + j) = nI (by_ j)) (h8 : ∀ j, j < y 0 0 → by_ j < 8) {t : Nat} (ht : t < 3) : F_X9_loadOf N (nI t) D = some (nI (hp_load y by_ t), D) := by
  have l : ∀ m i n, i + m = y 0 0 → m < n → F_X9_loadOf_4 N n (nI t) (nI (hp_sum (fun j => if hp_bit (by_ j) t = 1 then y 1 j else 0) i)) (nI i) D = some (nI (hp_load y by_ t), D) := by
    intro m
    induction m with
    | zero =>
      intro i n e hm
      obtain ⟨n, rfl⟩ : ∃ n', n = n' + 1 := ⟨n - 1, by omega⟩
      have e : i = y 0 0 := by omega
      rw [F_X9_loadOf_4_eq, e]
      simp (disch := omega) only [hp_kN, nI_add, pk_mul, hp_isInN, hp_m1L, hp_l0, hp_l1, hp_l2, hp_l3, hp_l4, hp_l5, hp_l7, hp_l8, hp_l10, hp_l17, hp_l20, hp_l24, hp_l48, hp_l50, hp_l55, hp_l127, hp_lm1, hp_eqN, hp_ltN, hp_inN, hp_cl, if_pos, if_neg, if_true, if_false, Option.bind_some, h0]
      rfl
    | succ m ih =>
      intro i n e hm
      obtain ⟨n, rfl⟩ : ∃ n', n = n' + 1 := ⟨n - 1, by omega⟩
      have h8i := h8 i (by omega)
      have hi := ih (i + 1) n (by omega) (by omega)
      have e3 : hp_sum (fun j => if hp_bit (by_ j) t = 1 then y 1 j else 0) (i + 1) = hp_sum (fun j => if hp_bit (by_ j) t = 1 then y 1 j else 0) i + (if hp_bit (by_ i) t = 1 then y 1 i else 0) := rfl
      rw [← hi, F_X9_loadOf_4_eq, e3]
      by_cases q : hp_bit (by_ i) t = 1
      · simp (disch := omega) only [hp_kN, nI_add, pk_mul, hp_isInN, hp_m1L, hp_l0, hp_l1, hp_l2, hp_l3, hp_l4, hp_l5, hp_l7, hp_l8, hp_l10, hp_l17, hp_l20, hp_l24, hp_l48, hp_l50, hp_l55, hp_l127, hp_lm1, hp_eqN, hp_ltN, hp_inN, hp_cl, if_pos, if_neg, if_true, if_false, Option.bind_some, h0, hb, hp_has, h1, q]
      · simp (disch := omega) only [hp_kN, nI_add, pk_mul, hp_isInN, hp_m1L, hp_l0, hp_l1, hp_l2, hp_l3, hp_l4, hp_l5, hp_l7, hp_l8, hp_l10, hp_l17, hp_l20, hp_l24, hp_l48, hp_l50, hp_l55, hp_l127, hp_lm1, hp_eqN, hp_ltN, hp_inN, hp_cl, if_pos, if_neg, if_true, if_false, Option.bind_some, h0, hb, hp_has, h1, q, Nat.add_zero]
  rw [F_X9_loadOf_eq]
  exact l (y 0 0) 0 N (by omega) (by omega)
/-- the lengths on a lane: counts and rows may be those of thought -/
def hp_len (y : Nat → Nat → Nat) (cnt : Nat → Nat) (row : Nat → Nat → Nat) (t : Nat) : Nat := hp_sum (fun j => y 1 (row t j)) (cnt t)
theorem hp_leX (N : Nat) (hN : 10 ≤ N) {y : Nat → Nat → Nat} {cnt : Nat → Nat} {row : Nat → Nat → Nat} {D : hy_M} (h1 : ∀ j, j < 8 → D 2 j = nI (y 1 j)) {t : Nat} (ht : t < 3) (hc : D 18 t = nI (cnt t)) (hc8 : cnt t ≤ 8) (hr : ∀ j, j < cnt t → D (13 + t) j = nI (row t j)) (hr8 : ∀ j, j < cnt t → row t j < 8) : F_X7_lengthsOn N (nI t) D = some (nI (hp_len y cnt row t), D) := by
  have l : ∀ m i n, i + m = cnt t → m < n → F_X7_lengthsOn_5 N n (nI t) (nI (hp_sum (fun j => y 1 (row t j)) i)) (nI i) D = some (nI (hp_len y cnt row t), D) := by
    intro m
    induction m with
    | zero =>
      intro i n e hm
      obtain ⟨n, rfl⟩ : ∃ n', n = n' + 1 := ⟨n - 1, by omega⟩
      have e : i = cnt t := by omega
      rw [F_X7_lengthsOn_5_eq, e]
      simp (disch := omega) only [hp_kN, nI_add, pk_mul, hp_isInN, hp_m1L, hp_l0, hp_l1, hp_l2, hp_l3, hp_l4, hp_l5, hp_l7, hp_l8, hp_l10, hp_l17, hp_l20, hp_l24, hp_l48, hp_l50, hp_l55, hp_l127, hp_lm1, hp_eqN, hp_ltN, hp_inN, hp_cl, if_pos, if_neg, if_true, if_false, Option.bind_some, hc]
      rfl
    | succ m ih =>
      intro i n e hm
      obtain ⟨n, rfl⟩ : ∃ n', n = n' + 1 := ⟨n - 1, by omega⟩
      have h8i := hr8 i (by omega)
      have hi := ih (i + 1) n (by omega) (by omega)
      have e3 : hp_sum (fun j => y 1 (row t j)) (i + 1) = hp_sum (fun j => y 1 (row t j)) i + y 1 (row t i) := rfl
      rw [← hi, F_X7_lengthsOn_5_eq, e3]
      simp (disch := omega) only [hp_kN, nI_add, pk_mul, hp_isInN, hp_m1L, hp_l0, hp_l1, hp_l2, hp_l3, hp_l4, hp_l5, hp_l7, hp_l8, hp_l10, hp_l17, hp_l20, hp_l24, hp_l48, hp_l50, hp_l55, hp_l127, hp_lm1, hp_eqN, hp_ltN, hp_inN, hp_cl, if_pos, if_neg, if_true, if_false, Option.bind_some, hc, hp_pr12, hp_al13, hr, h1]
  rw [F_X7_lengthsOn_eq]
  exact l (cnt t) 0 N (by omega) (by omega)
theorem hp_leX_1_58 (N : Nat) (hN : 10 ≤ N) {y : Nat → Nat → Nat} {cnt : Nat → Nat} {row : Nat → Nat → Nat} {D : hy_M} (h1 : ∀ j, j < 8 → D 2 j = nI (y 1 j)) {t : Nat} (ht : t < 3) (hc : D 65 t = nI (cnt t)) (hc8 : cnt t ≤ 8) (hr : ∀ j, j < cnt t → D (60 + t) j = nI (row t j)) (hr8 : ∀ j, j < cnt t → row t j < 8) : F_X7_lengthsOn_1_58 N (nI t) D = some (nI (hp_len y cnt row t), D) := by
  have l : ∀ m i n, i + m = cnt t → m < n → F_X7_lengthsOn_1_58_5 N n (nI t) (nI (hp_sum (fun j => y 1 (row t j)) i)) (nI i) D = some (nI (hp_len y cnt row t), D) := by
    intro m
    induction m with
    | zero =>
      intro i n e hm
      obtain ⟨n, rfl⟩ : ∃ n', n = n' + 1 := ⟨n - 1, by omega⟩
      have e : i = cnt t := by omega
      rw [F_X7_lengthsOn_1_58_5_eq, e]
      simp (disch := omega) only [hp_kN, nI_add, pk_mul, hp_isInN, hp_m1L, hp_l0, hp_l1, hp_l2, hp_l3, hp_l4, hp_l5, hp_l7, hp_l8, hp_l10, hp_l17, hp_l20, hp_l24, hp_l48, hp_l50, hp_l55, hp_l127, hp_lm1, hp_eqN, hp_ltN, hp_inN, hp_cl, if_pos, if_neg, if_true, if_false, Option.bind_some, hc]
      rfl
    | succ m ih =>
      intro i n e hm
      obtain ⟨n, rfl⟩ : ∃ n', n = n' + 1 := ⟨n - 1, by omega⟩
      have h8i := hr8 i (by omega)
      have hi := ih (i + 1) n (by omega) (by omega)
      have e3 : hp_sum (fun j => y 1 (row t j)) (i + 1) = hp_sum (fun j => y 1 (row t j)) i + y 1 (row t i) := rfl
      rw [← hi, F_X7_lengthsOn_1_58_5_eq, e3]
      simp (disch := omega) only [hp_kN, nI_add, pk_mul, hp_isInN, hp_m1L, hp_l0, hp_l1, hp_l2, hp_l3, hp_l4, hp_l5, hp_l7, hp_l8, hp_l10, hp_l17, hp_l20, hp_l24, hp_l48, hp_l50, hp_l55, hp_l127, hp_lm1, hp_eqN, hp_ltN, hp_inN, hp_cl, if_pos, if_neg, if_true, if_false, Option.bind_some, hc, hp_pr59, hp_al60, hr, h1]
  rw [F_X7_lengthsOn_1_58_eq]
  exact l (cnt t) 0 N (by omega) (by omega)
theorem hp_leM (N : Nat) (hN : 10 ≤ N) {y : Nat → Nat → Nat} {cnt : Nat → Nat} {row : Nat → Nat → Nat} {D : hy_M} (h1 : ∀ j, j < 8 → D 68 (4 + j) = nI (y 1 j)) {t : Nat} (ht : t < 3) (hc : D 68 (67 + t) = nI (cnt t)) (hc8 : cnt t ≤ 8) (hr : ∀ j, j < cnt t → D 68 (70 + 8 * t + j) = nI (row t j)) (hr8 : ∀ j, j < cnt t → row t j < 8) : F_X9_lengthsOn N (nI t) D = some (nI (hp_len y cnt row t), D) := by
  have l : ∀ m i n, i + m = cnt t → m < n → F_X9_lengthsOn_4 N n (nI t) (nI (hp_sum (fun j => y 1 (row t j)) i)) (nI i) D = some (nI (hp_len y cnt row t), D) := by
    intro m
    induction m with
    | zero =>
      intro i n e hm
      obtain ⟨n, rfl⟩ : ∃ n', n = n' + 1 := ⟨n - 1, by omega⟩
      have e : i = cnt t := by omega
      rw [F_X9_lengthsOn_4_eq, e]
      simp (disch := omega) only [hp_kN, nI_add, pk_mul, hp_isInN, hp_m1L, hp_l0, hp_l1, hp_l2, hp_l3, hp_l4, hp_l5, hp_l7, hp_l8, hp_l10, hp_l17, hp_l20, hp_l24, hp_l48, hp_l50, hp_l55, hp_l127, hp_lm1, hp_eqN, hp_ltN, hp_inN, hp_cl, if_pos, if_neg, if_true, if_false, Option.bind_some, hc]
      rfl
    | succ m ih =>
      intro i n e hm
      obtain ⟨n, rfl⟩ : ∃ n', n = n' + 1 := ⟨n - 1, by omega⟩
      have h8i := hr8 i (by omega)
      have hi := ih (i + 1) n (by omega) (by omega)
      have e3 : hp_sum (fun j => y 1 (row t j)) (i + 1) = hp_sum (fun j => y 1 (row t j)) i + y 1 (row t i) := rfl
      rw [← hi, F_X9_lengthsOn_4_eq, e3]
      simp (disch := omega) only [hp_kN, nI_add, pk_mul, hp_isInN, hp_m1L, hp_l0, hp_l1, hp_l2, hp_l3, hp_l4, hp_l5, hp_l7, hp_l8, hp_l10, hp_l17, hp_l20, hp_l24, hp_l48, hp_l50, hp_l55, hp_l127, hp_lm1, hp_eqN, hp_ltN, hp_inN, hp_cl, if_pos, if_neg, if_true, if_false, Option.bind_some, hc, hr, h1]
  rw [F_X9_lengthsOn_eq]
  exact l (cnt t) 0 N (by omega) (by omega)
theorem hp_WF_l {y : Nat → Nat → Nat} (hw : hp_WF y) {l : Nat} (hl : l < 5) : ∀ j, j < y 17 l → y (12 + l) j < 8 := fun j hj => by
  have := (hw.2.2.2.2.2.2.2.2.2.2 l hl j hj).1
  have := hw.1
  omega
theorem hp_toL {k : Nat} (h : k < 2147483648) : (nI k).toInt64.toInt = (k : Int) := by
  have := hp_ti h
  simp [this]
theorem st_track (N : Nat) (hN : 10 ≤ N) (a v : Int32) : hp_step (F_X8_track N a v) (F_X9_track N a v) := by
  rintro ⟨y, pu, yk, pk, fl, T, P, tp, pp, ls, lc⟩ ⟨hw, hw1⟩
  obtain ⟨b0, b1, b2, b8, b17, b9⟩ := hp_Wb hw
  rcases hp_arg a with ⟨a0, a1, a2⟩ | ⟨k, hk, rfl⟩
  · refine ⟨-1, _, ⟨hw, hw1⟩, hp_qx0 fun D hX => ?_, hp_qm0 fun D hR => ?_⟩
    · rw [F_X8_track_eq, hp_X_isTrackg N a0]
      rfl
    · rw [F_X9_track_eq, hp_M_isTrackg N a2]
      rfl
  by_cases c : k < 3
  case neg =>
    refine ⟨-1, _, ⟨hw, hw1⟩, hp_qx0 fun D hX => ?_, hp_qm0 fun D hR => ?_⟩
    · rw [F_X8_track_eq]
      simp (disch := omega) only [hp_kN, nI_add, pk_mul, hp_isInN, hp_m1L, hp_l0, hp_l1, hp_l2, hp_l3, hp_l4, hp_l5, hp_l7, hp_l8, hp_l10, hp_l17, hp_l20, hp_l24, hp_l48, hp_l50, hp_l55, hp_l127, hp_lm1, hp_eqN, hp_ltN, hp_inN, hp_cl, if_pos, if_neg, if_true, if_false, Option.bind_some, hp_X_isTrack]
    · rw [F_X9_track_eq]
      simp (disch := omega) only [hp_kN, nI_add, pk_mul, hp_isInN, hp_m1L, hp_l0, hp_l1, hp_l2, hp_l3, hp_l4, hp_l5, hp_l7, hp_l8, hp_l10, hp_l17, hp_l20, hp_l24, hp_l48, hp_l50, hp_l55, hp_l127, hp_lm1, hp_eqN, hp_ltN, hp_inN, hp_cl, if_pos, if_neg, if_true, if_false, Option.bind_some, hp_M_isTrack]
  have bk := b17 k (by omega)
  rcases hp_arg v with ⟨a0, a1, a2⟩ | ⟨u, hu, rfl⟩
  · have ne0 : (v = nI 0) = False := eq_false (fun q => by rw [q] at a2; exact absurd a2 (by decide))
    have ne1 : (v = nI 1) = False := eq_false (fun q => by rw [q] at a2; exact absurd a2 (by decide))
    have ne2 : (v = nI 2) = False := eq_false (fun q => by rw [q] at a2; exact absurd a2 (by decide))
    have lt : (v < nI 10) = True := eq_true (by rw [Int32.lt_iff_toInt_lt, hp_ti (by omega)]; omega)
    refine ⟨-1, _, ⟨hw, hw1⟩, hp_qx0 fun D hX => ?_, hp_qm0 fun D hR => ?_⟩
    · rw [F_X8_track_eq]
      simp (disch := omega) only [hp_kN, nI_add, pk_mul, hp_isInN, hp_m1L, hp_l0, hp_l1, hp_l2, hp_l3, hp_l4, hp_l5, hp_l7, hp_l8, hp_l10, hp_l17, hp_l20, hp_l24, hp_l48, hp_l50, hp_l55, hp_l127, hp_lm1, hp_eqN, hp_ltN, hp_inN, hp_cl, if_pos, if_neg, if_true, if_false, Option.bind_some, hp_X_isTrack, ne0, ne1, ne2, lt]
    · obtain ⟨m00, m01, m02, m03, m4, m12, m20, m30, m28, m46, m70, m51, m67, m49⟩ := hp_Mf hw hR.1
      rw [F_X9_track_eq]
      simp (disch := omega) only [hp_kN, nI_add, pk_mul, hp_isInN, hp_m1L, hp_l0, hp_l1, hp_l2, hp_l3, hp_l4, hp_l5, hp_l7, hp_l8, hp_l10, hp_l17, hp_l20, hp_l24, hp_l48, hp_l50, hp_l55, hp_l127, hp_lm1, hp_eqN, hp_ltN, hp_inN, hp_cl, if_pos, if_neg, if_true, if_false, Option.bind_some, hp_M_isTrack, hp_isIng N a2 0 _ (by decide), m67, hp_isIng N a2 10 _ (by decide)]
  by_cases u0 : u = 0
  · subst u0
    refine ⟨nI (y 9 k), _, ⟨hw, hw1⟩, hp_qx0 fun D hX => ?_, hp_qm0 fun D hR => ?_⟩
    · obtain ⟨x00, x01, x02, x03, x1, x2, x3, x4, x6, x8, x9, x12, x17⟩ := hp_Xf hw hX.1
      rw [F_X8_track_eq]
      simp (disch := omega) only [hp_kN, nI_add, pk_mul, hp_isInN, hp_m1L, hp_l0, hp_l1, hp_l2, hp_l3, hp_l4, hp_l5, hp_l7, hp_l8, hp_l10, hp_l17, hp_l20, hp_l24, hp_l48, hp_l50, hp_l55, hp_l127, hp_lm1, hp_eqN, hp_ltN, hp_inN, hp_cl, if_pos, if_neg, if_true, if_false, Option.bind_some, hp_X_isTrack, x9]
    · obtain ⟨m00, m01, m02, m03, m4, m12, m20, m30, m28, m46, m70, m51, m67, m49⟩ := hp_Mf hw hR.1
      rw [F_X9_track_eq]
      simp (disch := omega) only [hp_kN, nI_add, pk_mul, hp_isInN, hp_m1L, hp_l0, hp_l1, hp_l2, hp_l3, hp_l4, hp_l5, hp_l7, hp_l8, hp_l10, hp_l17, hp_l20, hp_l24, hp_l48, hp_l50, hp_l55, hp_l127, hp_lm1, hp_eqN, hp_ltN, hp_inN, hp_cl, if_pos, if_neg, if_true, if_false, Option.bind_some, hp_M_isTrack, m46]
  by_cases u1 : u = 1
  · subst u1
    refine ⟨nI (hp_len y (y 17) (fun l j => y (12 + l) j) k), _, ⟨hw, hw1⟩, hp_qx0 fun D hX => ?_, hp_qm0 fun D hR => ?_⟩
    · obtain ⟨x00, x01, x02, x03, x1, x2, x3, x4, x6, x8, x9, x12, x17⟩ := hp_Xf hw hX.1
      have k1 := hp_leX N hN (cnt := y 17) (row := fun l j => y (12 + l) j) x1 c (x17 k (by omega)) bk (x12 k (by omega)) (hp_WF_l hw (by omega))
      rw [F_X8_track_eq]
      simp (disch := omega) only [hp_kN, nI_add, pk_mul, hp_isInN, hp_m1L, hp_l0, hp_l1, hp_l2, hp_l3, hp_l4, hp_l5, hp_l7, hp_l8, hp_l10, hp_l17, hp_l20, hp_l24, hp_l48, hp_l50, hp_l55, hp_l127, hp_lm1, hp_eqN, hp_ltN, hp_inN, hp_cl, if_pos, if_neg, if_true, if_false, Option.bind_some, hp_X_isTrack, k1]
    · obtain ⟨m00, m01, m02, m03, m4, m12, m20, m30, m28, m46, m70, m51, m67, m49⟩ := hp_Mf hw hR.1
      have k1 := hp_leM N hN (cnt := y 17) (row := fun l j => y (12 + l) j) m4 c (m67 k c) bk (m70 k c) (hp_WF_l hw (by omega))
      rw [F_X9_track_eq]
      simp (disch := omega) only [hp_kN, nI_add, pk_mul, hp_isInN, hp_m1L, hp_l0, hp_l1, hp_l2, hp_l3, hp_l4, hp_l5, hp_l7, hp_l8, hp_l10, hp_l17, hp_l20, hp_l24, hp_l48, hp_l50, hp_l55, hp_l127, hp_lm1, hp_eqN, hp_ltN, hp_inN, hp_cl, if_pos, if_neg, if_true, if_false, Option.bind_some, hp_M_isTrack, k1]
  by_cases u2 : u = 2
  · subst u2
    have h8 : ∀ j, j < y 0 0 → y 2 j < 8 := fun j hj => (hw.2.2.2.1 j (by omega)).2.1
    refine ⟨nI (hp_load y (y 2) k), _, ⟨hw, hw1⟩, hp_qx0 fun D hX => ?_, hp_qm0 fun D hR => ?_⟩
    · obtain ⟨x00, x01, x02, x03, x1, x2, x3, x4, x6, x8, x9, x12, x17⟩ := hp_Xf hw hX.1
      have k1 := hp_loX N hN b0 (by_ := y 2) x00 x1 (fun j hj => x2 j (by omega)) h8 c
      rw [F_X8_track_eq]
      simp (disch := omega) only [hp_kN, nI_add, pk_mul, hp_isInN, hp_m1L, hp_l0, hp_l1, hp_l2, hp_l3, hp_l4, hp_l5, hp_l7, hp_l8, hp_l10, hp_l17, hp_l20, hp_l24, hp_l48, hp_l50, hp_l55, hp_l127, hp_lm1, hp_eqN, hp_ltN, hp_inN, hp_cl, if_pos, if_neg, if_true, if_false, Option.bind_some, hp_X_isTrack, k1]
    · obtain ⟨m00, m01, m02, m03, m4, m12, m20, m30, m28, m46, m70, m51, m67, m49⟩ := hp_Mf hw hR.1
      have k1 := hp_loM N hN b0 (by_ := y 2) m00 m4 (fun j hj => m12 j (by omega)) h8 c
      rw [F_X9_track_eq]
      simp (disch := omega) only [hp_kN, nI_add, pk_mul, hp_isInN, hp_m1L, hp_l0, hp_l1, hp_l2, hp_l3, hp_l4, hp_l5, hp_l7, hp_l8, hp_l10, hp_l17, hp_l20, hp_l24, hp_l48, hp_l50, hp_l55, hp_l127, hp_lm1, hp_eqN, hp_ltN, hp_inN, hp_cl, if_pos, if_neg, if_true, if_false, Option.bind_some, hp_M_isTrack, k1]
  have tu := hp_ti hu
  by_cases c3 : 10 ≤ u ∧ u < y 17 k + 10
  · obtain ⟨j, rfl⟩ : ∃ j, u = j + 10 := ⟨u - 10, by omega⟩
    refine ⟨nI (y (12 + k) j), _, ⟨hw, hw1⟩, hp_qx0 fun D hX => ?_, hp_qm0 fun D hR => ?_⟩
    · obtain ⟨x00, x01, x02, x03, x1, x2, x3, x4, x6, x8, x9, x12, x17⟩ := hp_Xf hw hX.1
      rw [F_X8_track_eq]
      simp (disch := omega) only [hp_kN, nI_add, pk_mul, hp_isInN, hp_m1L, hp_l0, hp_l1, hp_l2, hp_l3, hp_l4, hp_l5, hp_l7, hp_l8, hp_l10, hp_l17, hp_l20, hp_l24, hp_l48, hp_l50, hp_l55, hp_l127, hp_lm1, hp_eqN, hp_ltN, hp_inN, hp_cl, if_pos, if_neg, if_true, if_false, Option.bind_some, hp_X_isTrack, pk_sub, Nat.add_sub_cancel, F_X2_wagonAt_eq, x17, hp_pr12, hp_al13, x12]
    · obtain ⟨m00, m01, m02, m03, m4, m12, m20, m30, m28, m46, m70, m51, m67, m49⟩ := hp_Mf hw hR.1
      rw [F_X9_track_eq]
      have e : 70 + 8 * k + (j + 10) - 10 = 70 + 8 * k + j := by omega
      simp (disch := omega) only [hp_kN, nI_add, pk_mul, hp_isInN, hp_m1L, hp_l0, hp_l1, hp_l2, hp_l3, hp_l4, hp_l5, hp_l7, hp_l8, hp_l10, hp_l17, hp_l20, hp_l24, hp_l48, hp_l50, hp_l55, hp_l127, hp_lm1, hp_eqN, hp_ltN, hp_inN, hp_cl, if_pos, if_neg, if_true, if_false, Option.bind_some, hp_M_isTrack, m67, pk_sub, e, m70, hp_toL]
  · refine ⟨-1, _, ⟨hw, hw1⟩, hp_qx0 fun D hX => ?_, hp_qm0 fun D hR => ?_⟩
    · obtain ⟨x00, x01, x02, x03, x1, x2, x3, x4, x6, x8, x9, x12, x17⟩ := hp_Xf hw hX.1
      rw [F_X8_track_eq]
      by_cases c4 : u < 10
      · simp (disch := omega) only [hp_kN, nI_add, pk_mul, hp_isInN, hp_m1L, hp_l0, hp_l1, hp_l2, hp_l3, hp_l4, hp_l5, hp_l7, hp_l8, hp_l10, hp_l17, hp_l20, hp_l24, hp_l48, hp_l50, hp_l55, hp_l127, hp_lm1, hp_eqN, hp_ltN, hp_inN, hp_cl, if_pos, if_neg, if_true, if_false, Option.bind_some, hp_X_isTrack]
      · simp (disch := omega) only [hp_kN, nI_add, pk_mul, hp_isInN, hp_m1L, hp_l0, hp_l1, hp_l2, hp_l3, hp_l4, hp_l5, hp_l7, hp_l8, hp_l10, hp_l17, hp_l20, hp_l24, hp_l48, hp_l50, hp_l55, hp_l127, hp_lm1, hp_eqN, hp_ltN, hp_inN, hp_cl, if_pos, if_neg, if_true, if_false, Option.bind_some, hp_X_isTrack, pk_sub, F_X2_wagonAt_eq, x17]
    · obtain ⟨m00, m01, m02, m03, m4, m12, m20, m30, m28, m46, m70, m51, m67, m49⟩ := hp_Mf hw hR.1
      rw [F_X9_track_eq]
      simp (disch := omega) only [hp_kN, nI_add, pk_mul, hp_isInN, hp_m1L, hp_l0, hp_l1, hp_l2, hp_l3, hp_l4, hp_l5, hp_l7, hp_l8, hp_l10, hp_l17, hp_l20, hp_l24, hp_l48, hp_l50, hp_l55, hp_l127, hp_lm1, hp_eqN, hp_ltN, hp_inN, hp_cl, if_pos, if_neg, if_true, if_false, Option.bind_some, hp_M_isTrack, m67, hp_toL]
