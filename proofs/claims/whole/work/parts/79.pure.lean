/-! ===== wrong ===== -/
def hp_fwT (y : Nat → Nat → Nat) (row : Nat → Nat) (t : Nat) : Nat → Nat → Option Nat
  | 0, _ => none
  | m + 1, i => if row i = y (6 + t) i then hp_fwT y row t m (i + 1) else some i
theorem hp_fwT_lt {y : Nat → Nat → Nat} {row : Nat → Nat} {t : Nat} : ∀ m i w, hp_fwT y row t m i = some w → w < i + m := by
  intro m
  induction m with
  | zero => intro i w h; cases h
  | succ m ih =>
    intro i w h
    unfold hp_fwT at h
    by_cases q : row i = y (6 + t) i
    · rw [if_pos q] at h
      have := ih (i + 1) w h
      omega
    · rw [if_neg q] at h
      injection h with h
      omega
theorem hp_fwX (N : Nat) (hN : 10 ≤ N) {y : Nat → Nat → Nat} (hw : hp_WF y) {cnt : Nat} {row : Nat → Nat} {D : hy_M} (h6 : ∀ t, t < 2 → ∀ j, j < 8 → D (7 + t) j = nI (y (6 + t) j)) {t : Nat} (ht : t < 2) (hc : D 18 (3 + t) = nI cnt) (hc8 : cnt ≤ 8) (hr : ∀ j, j < cnt → D (13 + (3 + t)) j = nI (row j)) (hr8 : ∀ j, j < cnt → row j < 8) : F_X7_firstWrong N (nI t) D = some (hp_oI (hp_fwT y row t cnt 0), D) := by
  have l : ∀ m i n, i + m = cnt → m < n → F_X7_firstWrong_8 N n (nI t) (nI (3 + t)) (nI i) D = some (hp_oI (hp_fwT y row t m i), D) := by
    intro m
    induction m with
    | zero =>
      intro i n e hm
      obtain ⟨n, rfl⟩ : ∃ n', n = n' + 1 := ⟨n - 1, by omega⟩
      rw [F_X7_firstWrong_8_eq]
      unfold hp_fwT
      simp (disch := omega) only [hp_kN, nI_add, pk_mul, hp_isInN, hp_m1L, hp_l0, hp_l1, hp_l2, hp_l3, hp_l4, hp_l5, hp_l7, hp_l8, hp_l10, hp_l17, hp_l20, hp_l24, hp_l48, hp_l50, hp_l55, hp_l127, hp_lm1, hp_eqN, hp_ltN, hp_inN, hp_cl, if_pos, if_neg, if_true, if_false, Option.bind_some, hc]
      rfl
    | succ m ih =>
      intro i n e hm
      obtain ⟨n, rfl⟩ : ∃ n', n = n' + 1 := ⟨n - 1, by omega⟩
      have w1 := hw.2.2.2.2.1 t ht i (by omega)
      have w2 := hr8 i (by omega)
      have hi := ih (i + 1) n (by omega) (by omega)
      have hri := hr i (by omega)
      rw [F_X7_firstWrong_8_eq]
      unfold hp_fwT
      clear ih hr hr8
      by_cases q : row i = y (6 + t) i
      · rw [if_pos q, ← hi]
        clear hi
        simp (disch := omega) only [hp_kN, nI_add, pk_mul, hp_isInN, hp_m1L, hp_l0, hp_l1, hp_l2, hp_l3, hp_l4, hp_l5, hp_l7, hp_l8, hp_l10, hp_l17, hp_l20, hp_l24, hp_l48, hp_l50, hp_l55, hp_l127, hp_lm1, hp_eqN, hp_ltN, hp_inN, hp_cl, if_pos, if_neg, if_true, if_false, Option.bind_some, hc, hp_pr12, hp_al13, F_X7_wantedAt_eq, hp_pr6, hp_al7, h6, hri]
      · rw [if_neg q]
        clear hi
        simp (disch := omega) only [hp_kN, nI_add, pk_mul, hp_isInN, hp_m1L, hp_l0, hp_l1, hp_l2, hp_l3, hp_l4, hp_l5, hp_l7, hp_l8, hp_l10, hp_l17, hp_l20, hp_l24, hp_l48, hp_l50, hp_l55, hp_l127, hp_lm1, hp_eqN, hp_ltN, hp_inN, hp_cl, if_pos, if_neg, if_true, if_false, Option.bind_some, hc, hp_pr12, hp_al13, F_X7_wantedAt_eq, hp_pr6, hp_al7, h6, hri]
        rfl
  have k := l cnt 0 N (by omega) (by omega)
  rw [F_X7_firstWrong_eq]
  clear hr hr8 l
  simp (disch := omega) only [hp_kN, nI_add, pk_mul, hp_isInN, hp_m1L, hp_l0, hp_l1, hp_l2, hp_l3, hp_l4, hp_l5, hp_l7, hp_l8, hp_l10, hp_l17, hp_l20, hp_l24, hp_l48, hp_l50, hp_l55, hp_l127, hp_lm1, hp_eqN, hp_ltN, hp_inN, hp_cl, if_pos, if_neg, if_true, if_false, Option.bind_some, F_X2_outOf_eq, k]
theorem hp_fwX_1_58 (N : Nat) (hN : 10 ≤ N) {y : Nat → Nat → Nat} (hw : hp_WF y) {cnt : Nat} {row : Nat → Nat} {D : hy_M} (h6 : ∀ t, t < 2 → ∀ j, j < 8 → D (7 + t) j = nI (y (6 + t) j)) {t : Nat} (ht : t < 2) (hc : D 65 (3 + t) = nI cnt) (hc8 : cnt ≤ 8) (hr : ∀ j, j < cnt → D (60 + (3 + t)) j = nI (row j)) (hr8 : ∀ j, j < cnt → row j < 8) : F_X7_firstWrong_1_58 N (nI t) D = some (hp_oI (hp_fwT y row t cnt 0), D) := by
  have l : ∀ m i n, i + m = cnt → m < n → F_X7_firstWrong_1_58_8 N n (nI t) (nI (3 + t)) (nI i) D = some (hp_oI (hp_fwT y row t m i), D) := by
    intro m
    induction m with
    | zero =>
      intro i n e hm
      obtain ⟨n, rfl⟩ : ∃ n', n = n' + 1 := ⟨n - 1, by omega⟩
      rw [F_X7_firstWrong_1_58_8_eq]
      unfold hp_fwT
      simp (disch := omega) only [hp_kN, nI_add, pk_mul, hp_isInN, hp_m1L, hp_l0, hp_l1, hp_l2, hp_l3, hp_l4, hp_l5, hp_l7, hp_l8, hp_l10, hp_l17, hp_l20, hp_l24, hp_l48, hp_l50, hp_l55, hp_l127, hp_lm1, hp_eqN, hp_ltN, hp_inN, hp_cl, if_pos, if_neg, if_true, if_false, Option.bind_some, hc]
      rfl
    | succ m ih =>
      intro i n e hm
      obtain ⟨n, rfl⟩ : ∃ n', n = n' + 1 := ⟨n - 1, by omega⟩
      have w1 := hw.2.2.2.2.1 t ht i (by omega)
      have w2 := hr8 i (by omega)
      have hi := ih (i + 1) n (by omega) (by omega)
      have hri := hr i (by omega)
      rw [F_X7_firstWrong_1_58_8_eq]
      unfold hp_fwT
      clear ih hr hr8
      by_cases q : row i = y (6 + t) i
      · rw [if_pos q, ← hi]
        clear hi
        simp (disch := omega) only [hp_kN, nI_add, pk_mul, hp_isInN, hp_m1L, hp_l0, hp_l1, hp_l2, hp_l3, hp_l4, hp_l5, hp_l7, hp_l8, hp_l10, hp_l17, hp_l20, hp_l24, hp_l48, hp_l50, hp_l55, hp_l127, hp_lm1, hp_eqN, hp_ltN, hp_inN, hp_cl, if_pos, if_neg, if_true, if_false, Option.bind_some, hc, hp_pr59, hp_al60, F_X7_wantedAt_eq, hp_pr6, hp_al7, h6, hri]
      · rw [if_neg q]
        clear hi
        simp (disch := omega) only [hp_kN, nI_add, pk_mul, hp_isInN, hp_m1L, hp_l0, hp_l1, hp_l2, hp_l3, hp_l4, hp_l5, hp_l7, hp_l8, hp_l10, hp_l17, hp_l20, hp_l24, hp_l48, hp_l50, hp_l55, hp_l127, hp_lm1, hp_eqN, hp_ltN, hp_inN, hp_cl, if_pos, if_neg, if_true, if_false, Option.bind_some, hc, hp_pr59, hp_al60, F_X7_wantedAt_eq, hp_pr6, hp_al7, h6, hri]
        rfl
  have k := l cnt 0 N (by omega) (by omega)
  rw [F_X7_firstWrong_1_58_eq]
  clear hr hr8 l
  simp (disch := omega) only [hp_kN, nI_add, pk_mul, hp_isInN, hp_m1L, hp_l0, hp_l1, hp_l2, hp_l3, hp_l4, hp_l5, hp_l7, hp_l8, hp_l10, hp_l17, hp_l20, hp_l24, hp_l48, hp_l50, hp_l55, hp_l127, hp_lm1, hp_eqN, hp_ltN, hp_inN, hp_cl, if_pos, if_neg, if_true, if_false, Option.bind_some, F_X2_outOf_eq, k]
theorem hp_fwM (N : Nat) (hN : 10 ≤ N) {y : Nat → Nat → Nat} (hw : hp_WF y) {cnt : Nat} {row : Nat → Nat} {D : hy_M} (h30 : ∀ t, t < 2 → ∀ j, j < 8 → D 68 (30 + 8 * t + j) = nI (y (6 + t) j)) {t : Nat} (ht : t < 2) (hc : D 68 (49 + t) = nI cnt) (hc8 : cnt ≤ 8) (hr : ∀ j, j < cnt → D 68 (51 + 8 * t + j) = nI (row j)) (hr8 : ∀ j, j < cnt → row j < 8) : F_X9_wrongOf N (nI t) D = some (hp_oI (hp_fwT y row t cnt 0), D) := by
  have l : ∀ m i n, i + m = cnt → m < n → F_X9_wrongOf_2 N n (nI t) (nI i) D = some (hp_oI (hp_fwT y row t m i), D) := by
    intro m
    induction m with
    | zero =>
      intro i n e hm
      obtain ⟨n, rfl⟩ : ∃ n', n = n' + 1 := ⟨n - 1, by omega⟩
      rw [F_X9_wrongOf_2_eq]
      unfold hp_fwT
      simp (disch := omega) only [hp_kN, nI_add, pk_mul, hp_isInN, hp_m1L, hp_l0, hp_l1, hp_l2, hp_l3, hp_l4, hp_l5, hp_l7, hp_l8, hp_l10, hp_l17, hp_l20, hp_l24, hp_l48, hp_l50, hp_l55, hp_l127, hp_lm1, hp_eqN, hp_ltN, hp_inN, hp_cl, if_pos, if_neg, if_true, if_false, Option.bind_some, hc]
      rfl
    | succ m ih =>
      intro i n e hm
      obtain ⟨n, rfl⟩ : ∃ n', n = n' + 1 := ⟨n - 1, by omega⟩
      have w1 := hw.2.2.2.2.1 t ht i (by omega)
      have w2 := hr8 i (by omega)
      have hi := ih (i + 1) n (by omega) (by omega)
      have hri := hr i (by omega)
      rw [F_X9_wrongOf_2_eq]
      unfold hp_fwT
      clear ih hr hr8
      by_cases q : row i = y (6 + t) i
      · rw [if_pos q, ← hi]
        clear hi
        simp (disch := omega) only [hp_kN, nI_add, pk_mul, hp_isInN, hp_m1L, hp_l0, hp_l1, hp_l2, hp_l3, hp_l4, hp_l5, hp_l7, hp_l8, hp_l10, hp_l17, hp_l20, hp_l24, hp_l48, hp_l50, hp_l55, hp_l127, hp_lm1, hp_eqN, hp_ltN, hp_inN, hp_cl, if_pos, if_neg, if_true, if_false, Option.bind_some, hc, F_X9_wantedAt_eq, h30, hri]
      · rw [if_neg q]
        clear hi
        simp (disch := omega) only [hp_kN, nI_add, pk_mul, hp_isInN, hp_m1L, hp_l0, hp_l1, hp_l2, hp_l3, hp_l4, hp_l5, hp_l7, hp_l8, hp_l10, hp_l17, hp_l20, hp_l24, hp_l48, hp_l50, hp_l55, hp_l127, hp_lm1, hp_eqN, hp_ltN, hp_inN, hp_cl, if_pos, if_neg, if_true, if_false, Option.bind_some, hc, F_X9_wantedAt_eq, h30, hri]
        rfl
  rw [F_X9_wrongOf_eq]
  exact l cnt 0 N (by omega) (by omega)
theorem st_wrong (N : Nat) (hN : 10 ≤ N) (a : Int32) : hp_step (F_X8_wrong N a) (F_X9_wrong N a) := by
  rintro ⟨y, pu, yk, pk, fl, T, P, tp, pp, ls, lc⟩ ⟨hw, hw1⟩
  obtain ⟨b0, b1, b2, b8, b17, b9⟩ := hp_Wb hw
  rcases hp_arg a with ⟨a0, a1, a2⟩ | ⟨k, hk, rfl⟩
  · refine ⟨-2, _, ⟨hw, hw1⟩, hp_qx0 fun D hX => ?_, hp_qm0 fun D hR => ?_⟩
    · rw [F_X8_wrong_eq, hp_X_isTraing N a0]
      rfl
    · rw [F_X9_wrong_eq, hp_M_isTraing N a2]
      rfl
  by_cases c : k < 2
  case neg =>
    refine ⟨-2, _, ⟨hw, hw1⟩, hp_qx0 fun D hX => ?_, hp_qm0 fun D hR => ?_⟩
    · rw [F_X8_wrong_eq]
      simp (disch := omega) only [hp_kN, nI_add, pk_mul, hp_isInN, hp_m1L, hp_l0, hp_l1, hp_l2, hp_l3, hp_l4, hp_l5, hp_l7, hp_l8, hp_l10, hp_l17, hp_l20, hp_l24, hp_l48, hp_l50, hp_l55, hp_l127, hp_lm1, hp_eqN, hp_ltN, hp_inN, hp_cl, if_pos, if_neg, if_true, if_false, Option.bind_some, hp_X_isTrain]
    · rw [F_X9_wrong_eq]
      simp (disch := omega) only [hp_kN, nI_add, pk_mul, hp_isInN, hp_m1L, hp_l0, hp_l1, hp_l2, hp_l3, hp_l4, hp_l5, hp_l7, hp_l8, hp_l10, hp_l17, hp_l20, hp_l24, hp_l48, hp_l50, hp_l55, hp_l127, hp_lm1, hp_eqN, hp_ltN, hp_inN, hp_cl, if_pos, if_neg, if_true, if_false, Option.bind_some, hp_M_isTrain]
  refine ⟨hp_oI (hp_fwT y (y (12 + (3 + k))) k (y 17 (3 + k)) 0), _, ⟨hw, hw1⟩, hp_qx0 fun D hX => ?_, hp_qm0 fun D hR => ?_⟩
  · obtain ⟨x00, x01, x02, x03, x1, x2, x3, x4, x6, x8, x9, x12, x17⟩ := hp_Xf hw hX.1
    have k1 := hp_fwX N hN hw x6 c (x17 (3 + k) (by omega)) (b17 (3 + k) (by omega)) (x12 (3 + k) (by omega)) (hp_WF_l hw (by omega))
    rw [F_X8_wrong_eq]
    simp (disch := omega) only [hp_kN, nI_add, pk_mul, hp_isInN, hp_m1L, hp_l0, hp_l1, hp_l2, hp_l3, hp_l4, hp_l5, hp_l7, hp_l8, hp_l10, hp_l17, hp_l20, hp_l24, hp_l48, hp_l50, hp_l55, hp_l127, hp_lm1, hp_eqN, hp_ltN, hp_inN, hp_cl, if_pos, if_neg, if_true, if_false, Option.bind_some, hp_X_isTrain, k1]
  · obtain ⟨m00, m01, m02, m03, m4, m12, m20, m30, m28, m46, m70, m51, m67, m49⟩ := hp_Mf hw hR.1
    have k1 := hp_fwM N hN hw m30 c (m49 k c) (b17 (3 + k) (by omega)) (m51 k c) (hp_WF_l hw (by omega))
    rw [F_X9_wrong_eq]
    simp (disch := omega) only [hp_kN, nI_add, pk_mul, hp_isInN, hp_m1L, hp_l0, hp_l1, hp_l2, hp_l3, hp_l4, hp_l5, hp_l7, hp_l8, hp_l10, hp_l17, hp_l20, hp_l24, hp_l48, hp_l50, hp_l55, hp_l127, hp_lm1, hp_eqN, hp_ltN, hp_inN, hp_cl, if_pos, if_neg, if_true, if_false, Option.bind_some, hp_M_isTrain, k1]
