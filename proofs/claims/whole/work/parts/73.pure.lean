/-! ===== where a wagon is ===== -/
def hp_in_l (y : Nat → Nat → Nat) (w l : Nat) : Prop := ∃ j, j < y 17 l ∧ y (12 + l) j = w
theorem hp_laX (N n2 : Nat) {y : Nat → Nat → Nat} (hw : hp_WF y) {D : hy_M} (x17 : ∀ l, l < 5 → D 18 l = nI (y 17 l)) (x12 : ∀ l, l < 5 → ∀ j, j < y 17 l → D (13 + l) j = nI (y (12 + l) j)) {w l : Nat} (hw8 : w < 8) (hl : l < 5) : ∀ m i n, i + m = y 17 l → m < n → ((∃ j, i ≤ j ∧ j < y 17 l ∧ y (12 + l) j = w) → F_X2_laneOf_9 N n2 n (nI w) (nI l) (nI i) D = some (nI l, D)) ∧ ((¬ ∃ j, i ≤ j ∧ j < y 17 l ∧ y (12 + l) j = w) → F_X2_laneOf_9 N n2 n (nI w) (nI l) (nI i) D = F_X2_laneOf_2 N n2 (nI w) (nI (l + 1)) D) := by
  have b17 := (hp_Wb hw).2.2.2.2.1 l hl
  have r8 := hp_WF_l hw hl
  intro m
  induction m with
  | zero =>
    intro i n e hm
    obtain ⟨n, rfl⟩ : ∃ n', n = n' + 1 := ⟨n - 1, by omega⟩
    refine ⟨fun ⟨j, h1, h2, _⟩ => absurd h2 (by omega), fun _ => ?_⟩
    rw [F_X2_laneOf_9_eq]
    simp (disch := omega) only [hp_kN, nI_add, pk_mul, hp_isInN, hp_m1L, hp_l0, hp_l1, hp_l2, hp_l3, hp_l4, hp_l5, hp_l7, hp_l8, hp_l10, hp_l17, hp_l20, hp_l24, hp_l48, hp_l50, hp_l55, hp_l127, hp_lm1, hp_eqN, hp_ltN, hp_inN, hp_cl, if_pos, if_neg, if_true, if_false, Option.bind_some, x17]
  | succ m ih =>
    intro i n e hm
    obtain ⟨n, rfl⟩ : ∃ n', n = n' + 1 := ⟨n - 1, by omega⟩
    have hi := ih (i + 1) n (by omega) (by omega)
    have ri := r8 i (by omega)
    rw [F_X2_laneOf_9_eq]
    by_cases c : y (12 + l) i = w
    · refine ⟨fun _ => ?_, fun h => absurd ⟨i, Nat.le_refl _, by omega, c⟩ h⟩
      simp (disch := omega) only [hp_kN, nI_add, pk_mul, hp_isInN, hp_m1L, hp_l0, hp_l1, hp_l2, hp_l3, hp_l4, hp_l5, hp_l7, hp_l8, hp_l10, hp_l17, hp_l20, hp_l24, hp_l48, hp_l50, hp_l55, hp_l127, hp_lm1, hp_eqN, hp_ltN, hp_inN, hp_cl, if_pos, if_neg, if_true, if_false, Option.bind_some, x17, hp_pr12, hp_al13, x12, c]
    · have s : (∃ j, i ≤ j ∧ j < y 17 l ∧ y (12 + l) j = w) ↔ ∃ j, i + 1 ≤ j ∧ j < y 17 l ∧ y (12 + l) j = w := by
        constructor
        · rintro ⟨j, h1, h2, h3⟩
          refine ⟨j, ?_, h2, h3⟩
          apply Nat.lt_of_le_of_ne h1
          intro q
          subst q
          exact c h3
        · rintro ⟨j, h1, h2, h3⟩
          exact ⟨j, by omega, h2, h3⟩
      rw [s]
      refine ⟨fun h => ?_, fun h => ?_⟩
      · rw [← hi.1 h]
        clear hi h s ih
        simp (disch := omega) only [hp_kN, nI_add, pk_mul, hp_isInN, hp_m1L, hp_l0, hp_l1, hp_l2, hp_l3, hp_l4, hp_l5, hp_l7, hp_l8, hp_l10, hp_l17, hp_l20, hp_l24, hp_l48, hp_l50, hp_l55, hp_l127, hp_lm1, hp_eqN, hp_ltN, hp_inN, hp_cl, if_pos, if_neg, if_true, if_false, Option.bind_some, x17, hp_pr12, hp_al13, x12]
      · rw [← hi.2 h]
        clear hi h s ih
        simp (disch := omega) only [hp_kN, nI_add, pk_mul, hp_isInN, hp_m1L, hp_l0, hp_l1, hp_l2, hp_l3, hp_l4, hp_l5, hp_l7, hp_l8, hp_l10, hp_l17, hp_l20, hp_l24, hp_l48, hp_l50, hp_l55, hp_l127, hp_lm1, hp_eqN, hp_ltN, hp_inN, hp_cl, if_pos, if_neg, if_true, if_false, Option.bind_some, x17, hp_pr12, hp_al13, x12]
theorem hp_laX0 (N n2 : Nat) (hN : 10 ≤ N) {y : Nat → Nat → Nat} (hw : hp_WF y) {D : hy_M} (x17 : ∀ l, l < 5 → D 18 l = nI (y 17 l)) (x12 : ∀ l, l < 5 → ∀ j, j < y 17 l → D (13 + l) j = nI (y (12 + l) j)) {w l : Nat} (hw8 : w < 8) (hl : l < 5) : (hp_in_l y w l → F_X2_laneOf_2 N (n2 + 1) (nI w) (nI l) D = some (nI l, D)) ∧ (¬ hp_in_l y w l → F_X2_laneOf_2 N (n2 + 1) (nI w) (nI l) D = F_X2_laneOf_2 N n2 (nI w) (nI (l + 1)) D) := by
  have b17 := (hp_Wb hw).2.2.2.2.1 l hl
  have k := hp_laX N n2 hw x17 x12 hw8 hl (y 17 l) 0 N (by omega) (by omega)
  have s : (∃ j, 0 ≤ j ∧ j < y 17 l ∧ y (12 + l) j = w) ↔ hp_in_l y w l := ⟨fun ⟨j, _, h2, h3⟩ => ⟨j, h2, h3⟩, fun ⟨j, h2, h3⟩ => ⟨j, Nat.zero_le _, h2, h3⟩⟩
  rw [s] at k
  have e : F_X2_laneOf_2 N (n2 + 1) (nI w) (nI l) D = F_X2_laneOf_9 N n2 N (nI w) (nI l) (nI 0) D := by
    clear k s
    rw [F_X2_laneOf_2_eq]
    simp (disch := omega) only [hp_kN, nI_add, pk_mul, hp_isInN, hp_m1L, hp_l0, hp_l1, hp_l2, hp_l3, hp_l4, hp_l5, hp_l7, hp_l8, hp_l10, hp_l17, hp_l20, hp_l24, hp_l48, hp_l50, hp_l55, hp_l127, hp_lm1, hp_eqN, hp_ltN, hp_inN, hp_cl, if_pos, if_neg, if_true, if_false, Option.bind_some]
  rw [e]
  exact k
theorem hp_waM9 (N n2 : Nat) {y : Nat → Nat → Nat} (hw : hp_WF y) {D : hy_M} (m67 : ∀ l, l < 3 → D 68 (67 + l) = nI (y 17 l)) (m70 : ∀ l, l < 3 → ∀ j, j < y 17 l → D 68 (70 + 8 * l + j) = nI (y (12 + l) j)) {w l : Nat} (hw8 : w < 8) (hl : l < 3) : ∀ m i n, i + m = y 17 l → m < n → ((∃ j, i ≤ j ∧ j < y 17 l ∧ y (12 + l) j = w) → F_X9_whereIs_9 N n2 n (nI w) (nI l) (nI i) D = some (nI l, D)) ∧ ((¬ ∃ j, i ≤ j ∧ j < y 17 l ∧ y (12 + l) j = w) → F_X9_whereIs_9 N n2 n (nI w) (nI l) (nI i) D = F_X9_whereIs_2 N n2 (nI w) (nI (l + 1)) D) := by
  have b17 := (hp_Wb hw).2.2.2.2.1 l (by omega)
  have r8 := hp_WF_l hw (l := l) (by omega)
  intro m
  induction m with
  | zero =>
    intro i n e hm
    obtain ⟨n, rfl⟩ : ∃ n', n = n' + 1 := ⟨n - 1, by omega⟩
    refine ⟨fun ⟨j, h1, h2, _⟩ => absurd h2 (by omega), fun _ => ?_⟩
    rw [F_X9_whereIs_9_eq]
    simp (disch := omega) only [hp_kN, nI_add, pk_mul, hp_isInN, hp_m1L, hp_l0, hp_l1, hp_l2, hp_l3, hp_l4, hp_l5, hp_l7, hp_l8, hp_l10, hp_l17, hp_l20, hp_l24, hp_l48, hp_l50, hp_l55, hp_l127, hp_lm1, hp_eqN, hp_ltN, hp_inN, hp_cl, if_pos, if_neg, if_true, if_false, Option.bind_some, m67]
  | succ m ih =>
    intro i n e hm
    obtain ⟨n, rfl⟩ : ∃ n', n = n' + 1 := ⟨n - 1, by omega⟩
    have hi := ih (i + 1) n (by omega) (by omega)
    have ri := r8 i (by omega)
    rw [F_X9_whereIs_9_eq]
    by_cases c : y (12 + l) i = w
    · refine ⟨fun _ => ?_, fun h => absurd ⟨i, Nat.le_refl _, by omega, c⟩ h⟩
      simp (disch := omega) only [hp_kN, nI_add, pk_mul, hp_isInN, hp_m1L, hp_l0, hp_l1, hp_l2, hp_l3, hp_l4, hp_l5, hp_l7, hp_l8, hp_l10, hp_l17, hp_l20, hp_l24, hp_l48, hp_l50, hp_l55, hp_l127, hp_lm1, hp_eqN, hp_ltN, hp_inN, hp_cl, if_pos, if_neg, if_true, if_false, Option.bind_some, m67, m70, c]
    · have s : (∃ j, i ≤ j ∧ j < y 17 l ∧ y (12 + l) j = w) ↔ ∃ j, i + 1 ≤ j ∧ j < y 17 l ∧ y (12 + l) j = w := by
        constructor
        · rintro ⟨j, h1, h2, h3⟩
          refine ⟨j, ?_, h2, h3⟩
          apply Nat.lt_of_le_of_ne h1
          intro q
          subst q
          exact c h3
        · rintro ⟨j, h1, h2, h3⟩
          exact ⟨j, by omega, h2, h3⟩
      rw [s]
      refine ⟨fun h => ?_, fun h => ?_⟩
      · rw [← hi.1 h]
        clear hi h s ih
        simp (disch := omega) only [hp_kN, nI_add, pk_mul, hp_isInN, hp_m1L, hp_l0, hp_l1, hp_l2, hp_l3, hp_l4, hp_l5, hp_l7, hp_l8, hp_l10, hp_l17, hp_l20, hp_l24, hp_l48, hp_l50, hp_l55, hp_l127, hp_lm1, hp_eqN, hp_ltN, hp_inN, hp_cl, if_pos, if_neg, if_true, if_false, Option.bind_some, m67, m70]
      · rw [← hi.2 h]
        clear hi h s ih
        simp (disch := omega) only [hp_kN, nI_add, pk_mul, hp_isInN, hp_m1L, hp_l0, hp_l1, hp_l2, hp_l3, hp_l4, hp_l5, hp_l7, hp_l8, hp_l10, hp_l17, hp_l20, hp_l24, hp_l48, hp_l50, hp_l55, hp_l127, hp_lm1, hp_eqN, hp_ltN, hp_inN, hp_cl, if_pos, if_neg, if_true, if_false, Option.bind_some, m67, m70]
theorem hp_waM0 (N n2 : Nat) (hN : 10 ≤ N) {y : Nat → Nat → Nat} (hw : hp_WF y) {D : hy_M} (m67 : ∀ l, l < 3 → D 68 (67 + l) = nI (y 17 l)) (m70 : ∀ l, l < 3 → ∀ j, j < y 17 l → D 68 (70 + 8 * l + j) = nI (y (12 + l) j)) {w l : Nat} (hw8 : w < 8) (hl : l < 3) : (hp_in_l y w l → F_X9_whereIs_2 N (n2 + 1) (nI w) (nI l) D = some (nI l, D)) ∧ (¬ hp_in_l y w l → F_X9_whereIs_2 N (n2 + 1) (nI w) (nI l) D = F_X9_whereIs_2 N n2 (nI w) (nI (l + 1)) D) := by
  have b17 := (hp_Wb hw).2.2.2.2.1 l (by omega)
  have k := hp_waM9 N n2 hw m67 m70 hw8 hl (y 17 l) 0 N (by omega) (by omega)
  have s : (∃ j, 0 ≤ j ∧ j < y 17 l ∧ y (12 + l) j = w) ↔ hp_in_l y w l := ⟨fun ⟨j, _, h2, h3⟩ => ⟨j, h2, h3⟩, fun ⟨j, h2, h3⟩ => ⟨j, Nat.zero_le _, h2, h3⟩⟩
  rw [s] at k
  have e : F_X9_whereIs_2 N (n2 + 1) (nI w) (nI l) D = F_X9_whereIs_9 N n2 N (nI w) (nI l) (nI 0) D := by
    clear k s
    rw [F_X9_whereIs_2_eq]
    simp (disch := omega) only [hp_kN, nI_add, pk_mul, hp_isInN, hp_m1L, hp_l0, hp_l1, hp_l2, hp_l3, hp_l4, hp_l5, hp_l7, hp_l8, hp_l10, hp_l17, hp_l20, hp_l24, hp_l48, hp_l50, hp_l55, hp_l127, hp_lm1, hp_eqN, hp_ltN, hp_inN, hp_cl, if_pos, if_neg, if_true, if_false, Option.bind_some]
  rw [e]
  exact k
theorem hp_waM66 (N : Nat) {y : Nat → Nat → Nat} (hw : hp_WF y) {D : hy_M} (m49 : ∀ l, l < 2 → D 68 (49 + l) = nI (y 17 (3 + l))) (m51 : ∀ l, l < 2 → ∀ j, j < y 17 (3 + l) → D 68 (51 + 8 * l + j) = nI (y (12 + (3 + l)) j)) {w t : Nat} (hw8 : w < 8) (ht : t < 2) : ∀ m i n, i + m = y 17 (3 + t) → m < n → ((∃ j, i ≤ j ∧ j < y 17 (3 + t) ∧ y (12 + (3 + t)) j = w) → F_X9_whereIs_66 N n (nI w) (nI t) (nI i) D = some (nI (10 + t), D)) ∧ ((¬ ∃ j, i ≤ j ∧ j < y 17 (3 + t) ∧ y (12 + (3 + t)) j = w) → F_X9_whereIs_66 N n (nI w) (nI t) (nI i) D = some (-nI 5, D)) := by
  have b17 := (hp_Wb hw).2.2.2.2.1 (3 + t) (by omega)
  have r8 := hp_WF_l hw (l := 3 + t) (by omega)
  intro m
  induction m with
  | zero =>
    intro i n e hm
    obtain ⟨n, rfl⟩ : ∃ n', n = n' + 1 := ⟨n - 1, by omega⟩
    refine ⟨fun ⟨j, h1, h2, _⟩ => absurd h2 (by omega), fun _ => ?_⟩
    rw [F_X9_whereIs_66_eq]
    simp (disch := omega) only [hp_kN, nI_add, pk_mul, hp_isInN, hp_m1L, hp_l0, hp_l1, hp_l2, hp_l3, hp_l4, hp_l5, hp_l7, hp_l8, hp_l10, hp_l17, hp_l20, hp_l24, hp_l48, hp_l50, hp_l55, hp_l127, hp_lm1, hp_eqN, hp_ltN, hp_inN, hp_cl, if_pos, if_neg, if_true, if_false, Option.bind_some, m49]
  | succ m ih =>
    intro i n e hm
    obtain ⟨n, rfl⟩ : ∃ n', n = n' + 1 := ⟨n - 1, by omega⟩
    have hi := ih (i + 1) n (by omega) (by omega)
    have ri := r8 i (by omega)
    rw [F_X9_whereIs_66_eq]
    by_cases c : y (12 + (3 + t)) i = w
    · refine ⟨fun _ => ?_, fun h => absurd ⟨i, Nat.le_refl _, by omega, c⟩ h⟩
      simp (disch := omega) only [hp_kN, nI_add, pk_mul, hp_isInN, hp_m1L, hp_l0, hp_l1, hp_l2, hp_l3, hp_l4, hp_l5, hp_l7, hp_l8, hp_l10, hp_l17, hp_l20, hp_l24, hp_l48, hp_l50, hp_l55, hp_l127, hp_lm1, hp_eqN, hp_ltN, hp_inN, hp_cl, if_pos, if_neg, if_true, if_false, Option.bind_some, m49, m51, c]
    · have s : (∃ j, i ≤ j ∧ j < y 17 (3 + t) ∧ y (12 + (3 + t)) j = w) ↔ ∃ j, i + 1 ≤ j ∧ j < y 17 (3 + t) ∧ y (12 + (3 + t)) j = w := by
        constructor
        · rintro ⟨j, h1, h2, h3⟩
          refine ⟨j, ?_, h2, h3⟩
          apply Nat.lt_of_le_of_ne h1
          intro q
          subst q
          exact c h3
        · rintro ⟨j, h1, h2, h3⟩
          exact ⟨j, by omega, h2, h3⟩
      rw [s]
      refine ⟨fun h => ?_, fun h => ?_⟩
      · rw [← hi.1 h]
        clear hi h s ih
        simp (disch := omega) only [hp_kN, nI_add, pk_mul, hp_isInN, hp_m1L, hp_l0, hp_l1, hp_l2, hp_l3, hp_l4, hp_l5, hp_l7, hp_l8, hp_l10, hp_l17, hp_l20, hp_l24, hp_l48, hp_l50, hp_l55, hp_l127, hp_lm1, hp_eqN, hp_ltN, hp_inN, hp_cl, if_pos, if_neg, if_true, if_false, Option.bind_some, m49, m51]
      · rw [← hi.2 h]
        clear hi h s ih
        simp (disch := omega) only [hp_kN, nI_add, pk_mul, hp_isInN, hp_m1L, hp_l0, hp_l1, hp_l2, hp_l3, hp_l4, hp_l5, hp_l7, hp_l8, hp_l10, hp_l17, hp_l20, hp_l24, hp_l48, hp_l50, hp_l55, hp_l127, hp_lm1, hp_eqN, hp_ltN, hp_inN, hp_cl, if_pos, if_neg, if_true, if_false, Option.bind_some, m49, m51]
theorem hp_waM660 (N : Nat) (hN : 10 ≤ N) {y : Nat → Nat → Nat} (hw : hp_WF y) {D : hy_M} (m20 : ∀ j, j < 8 → D 68 (20 + j) = nI (y 3 j)) (m49 : ∀ l, l < 2 → D 68 (49 + l) = nI (y 17 (3 + l))) (m51 : ∀ l, l < 2 → ∀ j, j < y 17 (3 + l) → D 68 (51 + 8 * l + j) = nI (y (12 + (3 + l)) j)) {w : Nat} (n2 : Nat) (hw8 : w < 8) (ht : y 3 w < 2) : (hp_in_l y w (3 + y 3 w) → F_X9_whereIs_2 N (n2 + 1) (nI w) (nI 3) D = some (nI (10 + y 3 w), D)) ∧ (¬ hp_in_l y w (3 + y 3 w) → F_X9_whereIs_2 N (n2 + 1) (nI w) (nI 3) D = some (-nI 5, D)) := by
  have b17 := (hp_Wb hw).2.2.2.2.1 (3 + y 3 w) (by omega)
  have k := hp_waM66 N hw m49 m51 hw8 ht (y 17 (3 + y 3 w)) 0 N (by omega) (by omega)
  have s : (∃ j, 0 ≤ j ∧ j < y 17 (3 + y 3 w) ∧ y (12 + (3 + y 3 w)) j = w) ↔ hp_in_l y w (3 + y 3 w) := ⟨fun ⟨j, _, h2, h3⟩ => ⟨j, h2, h3⟩, fun ⟨j, h2, h3⟩ => ⟨j, Nat.zero_le _, h2, h3⟩⟩
  rw [s] at k
  have e : F_X9_whereIs_2 N (n2 + 1) (nI w) (nI 3) D = F_X9_whereIs_66 N N (nI w) (nI (y 3 w)) (nI 0) D := by
    clear k s
    rw [F_X9_whereIs_2_eq]
    simp (disch := omega) only [hp_kN, nI_add, pk_mul, hp_isInN, hp_m1L, hp_l0, hp_l1, hp_l2, hp_l3, hp_l4, hp_l5, hp_l7, hp_l8, hp_l10, hp_l17, hp_l20, hp_l24, hp_l48, hp_l50, hp_l55, hp_l127, hp_lm1, hp_eqN, hp_ltN, hp_inN, hp_cl, if_pos, if_neg, if_true, if_false, Option.bind_some, m20]
  rw [e]
  exact k
theorem hp_wa (N : Nat) (hN : 10 ≤ N) {y : Nat → Nat → Nat} {pu : Int32} {yk : Nat → Nat → Nat} {pk : Int32} {fl T P : Nat} {tp pp : Nat → Nat} {ls : Nat → Int32} {lc : Nat → Nat → Int32} (hw : hp_WF y) {w : Nat} (hw0 : w < y 0 0) : ∃ r, (∀ D, hp_X (y, pu, yk, pk, fl, T, P, tp, pp, ls, lc) D → F_X8_whereIs N (nI w) D = some (r, D)) ∧ (∀ D, hp_R (y, pu, yk, pk, fl, T, P, tp, pp, ls, lc) D → F_X9_whereIs N (nI w) D = some (r, D)) := by
  have w8 : w < 8 := by have := hw.1; omega
  have ht := (hw.2.2.2.1 w w8).2.2
  obtain ⟨N, rfl⟩ : ∃ n, N = n + 10 := ⟨N - 10, by omega⟩
  have lan := hw.2.2.2.2.2.2.2.2.2.2
  have X : ∀ D, hp_X (y, pu, yk, pk, fl, T, P, tp, pp, ls, lc) D → ∀ n2 l, l < 5 → (hp_in_l y w l → F_X2_laneOf_2 (N + 10) (n2 + 1) (nI w) (nI l) D = some (nI l, D)) ∧ (¬ hp_in_l y w l → F_X2_laneOf_2 (N + 10) (n2 + 1) (nI w) (nI l) D = F_X2_laneOf_2 (N + 10) n2 (nI w) (nI (l + 1)) D) := fun D hX n2 l hl => by
    obtain ⟨x00, x01, x02, x03, x1, x2, x3, x4, x6, x8, x9, x12, x17⟩ := hp_Xf hw hX.1
    exact hp_laX0 (N + 10) n2 (by omega) hw x17 x12 w8 hl
  have M : ∀ D, hp_R (y, pu, yk, pk, fl, T, P, tp, pp, ls, lc) D → ∀ n2 l, l < 3 → (hp_in_l y w l → F_X9_whereIs_2 (N + 10) (n2 + 1) (nI w) (nI l) D = some (nI l, D)) ∧ (¬ hp_in_l y w l → F_X9_whereIs_2 (N + 10) (n2 + 1) (nI w) (nI l) D = F_X9_whereIs_2 (N + 10) n2 (nI w) (nI (l + 1)) D) := fun D hR n2 l hl => by
    obtain ⟨m00, m01, m02, m03, m4, m12, m20, m30, m28, m46, m70, m51, m67, m49⟩ := hp_Mf hw hR.1
    exact hp_waM0 (N + 10) n2 (by omega) hw m67 m70 w8 hl
  have M3 : ∀ D, hp_R (y, pu, yk, pk, fl, T, P, tp, pp, ls, lc) D → ∀ n2, (hp_in_l y w (3 + y 3 w) → F_X9_whereIs_2 (N + 10) (n2 + 1) (nI w) (nI 3) D = some (nI (10 + y 3 w), D)) ∧ (¬ hp_in_l y w (3 + y 3 w) → F_X9_whereIs_2 (N + 10) (n2 + 1) (nI w) (nI 3) D = some (-nI 5, D)) := fun D hR n2 => by
    obtain ⟨m00, m01, m02, m03, m4, m12, m20, m30, m28, m46, m70, m51, m67, m49⟩ := hp_Mf hw hR.1
    exact hp_waM660 (N + 10) (by omega) hw m20 m49 m51 n2 w8 ht
  have p3 : hp_in_l y w 3 → y 3 w = 0 := fun ⟨j, h1, h2⟩ => by
    have := (lan 3 (by omega) j h1).2 (by omega)
    rw [h2] at this
    omega
  have p4 : hp_in_l y w 4 → y 3 w = 1 := fun ⟨j, h1, h2⟩ => by
    have := (lan 4 (by omega) j h1).2 (by omega)
    rw [h2] at this
    omega
  by_cases c0 : hp_in_l y w 0
  · refine ⟨nI 0, fun D hX => ?_, fun D hR => ?_⟩
    · have e := (X D hX (N + 9) 0 (by omega)).1 c0
      rw [F_X8_whereIs_eq, F_X2_laneOf_eq]
      simp (disch := omega) only [hp_kN, nI_add, pk_mul, hp_isInN, hp_m1L, hp_l0, hp_l1, hp_l2, hp_l3, hp_l4, hp_l5, hp_l7, hp_l8, hp_l10, hp_l17, hp_l20, hp_l24, hp_l48, hp_l50, hp_l55, hp_l127, hp_lm1, hp_eqN, hp_ltN, hp_inN, hp_cl, if_pos, if_neg, if_true, if_false, Option.bind_some, e]
      rw [if_neg (by decide)]
    · rw [F_X9_whereIs_eq]
      exact (M D hR (N + 9) 0 (by omega)).1 c0
  by_cases c1 : hp_in_l y w 1
  · refine ⟨nI 1, fun D hX => ?_, fun D hR => ?_⟩
    · have e := ((X D hX (N + 9) 0 (by omega)).2 c0).trans ((X D hX (N + 8) 1 (by omega)).1 c1)
      rw [F_X8_whereIs_eq, F_X2_laneOf_eq]
      simp (disch := omega) only [hp_kN, nI_add, pk_mul, hp_isInN, hp_m1L, hp_l0, hp_l1, hp_l2, hp_l3, hp_l4, hp_l5, hp_l7, hp_l8, hp_l10, hp_l17, hp_l20, hp_l24, hp_l48, hp_l50, hp_l55, hp_l127, hp_lm1, hp_eqN, hp_ltN, hp_inN, hp_cl, if_pos, if_neg, if_true, if_false, Option.bind_some, e]
      rw [if_neg (by decide)]
    · rw [F_X9_whereIs_eq]
      exact ((M D hR (N + 9) 0 (by omega)).2 c0).trans ((M D hR (N + 8) 1 (by omega)).1 c1)
  by_cases c2 : hp_in_l y w 2
  · refine ⟨nI 2, fun D hX => ?_, fun D hR => ?_⟩
    · have e := (((X D hX (N + 9) 0 (by omega)).2 c0).trans ((X D hX (N + 8) 1 (by omega)).2 c1)).trans ((X D hX (N + 7) 2 (by omega)).1 c2)
      rw [F_X8_whereIs_eq, F_X2_laneOf_eq]
      simp (disch := omega) only [hp_kN, nI_add, pk_mul, hp_isInN, hp_m1L, hp_l0, hp_l1, hp_l2, hp_l3, hp_l4, hp_l5, hp_l7, hp_l8, hp_l10, hp_l17, hp_l20, hp_l24, hp_l48, hp_l50, hp_l55, hp_l127, hp_lm1, hp_eqN, hp_ltN, hp_inN, hp_cl, if_pos, if_neg, if_true, if_false, Option.bind_some, e]
      rw [if_neg (by decide)]
    · rw [F_X9_whereIs_eq]
      exact (((M D hR (N + 9) 0 (by omega)).2 c0).trans ((M D hR (N + 8) 1 (by omega)).2 c1)).trans ((M D hR (N + 7) 2 (by omega)).1 c2)
  have Mx : ∀ D, hp_R (y, pu, yk, pk, fl, T, P, tp, pp, ls, lc) D → F_X9_whereIs (N + 10) (nI w) D = F_X9_whereIs_2 (N + 10) (N + 7) (nI w) (nI 3) D := fun D hR => by
    rw [F_X9_whereIs_eq]
    exact (((M D hR (N + 9) 0 (by omega)).2 c0).trans ((M D hR (N + 8) 1 (by omega)).2 c1)).trans ((M D hR (N + 7) 2 (by omega)).2 c2)
  by_cases c3 : hp_in_l y w 3
  · have t0 := p3 c3
    refine ⟨nI (10 + y 3 w), fun D hX => ?_, fun D hR => ?_⟩
    · have e := ((((X D hX (N + 9) 0 (by omega)).2 c0).trans ((X D hX (N + 8) 1 (by omega)).2 c1)).trans ((X D hX (N + 7) 2 (by omega)).2 c2)).trans ((X D hX (N + 6) 3 (by omega)).1 c3)
      obtain ⟨x00, x01, x02, x03, x1, x2, x3, x4, x6, x8, x9, x12, x17⟩ := hp_Xf hw hX.1
      rw [F_X8_whereIs_eq, F_X2_laneOf_eq]
      simp (disch := omega) only [hp_kN, nI_add, pk_mul, hp_isInN, hp_m1L, hp_l0, hp_l1, hp_l2, hp_l3, hp_l4, hp_l5, hp_l7, hp_l8, hp_l10, hp_l17, hp_l20, hp_l24, hp_l48, hp_l50, hp_l55, hp_l127, hp_lm1, hp_eqN, hp_ltN, hp_inN, hp_cl, if_pos, if_neg, if_true, if_false, Option.bind_some, e, x3]
      rw [if_neg (by decide)]
    · rw [Mx D hR]
      exact (M3 D hR (N + 6)).1 (by rw [t0]; exact c3)
  by_cases c4 : hp_in_l y w 4
  · have t0 := p4 c4
    refine ⟨nI (10 + y 3 w), fun D hX => ?_, fun D hR => ?_⟩
    · have e := (((((X D hX (N + 9) 0 (by omega)).2 c0).trans ((X D hX (N + 8) 1 (by omega)).2 c1)).trans ((X D hX (N + 7) 2 (by omega)).2 c2)).trans ((X D hX (N + 6) 3 (by omega)).2 c3)).trans ((X D hX (N + 5) 4 (by omega)).1 c4)
      obtain ⟨x00, x01, x02, x03, x1, x2, x3, x4, x6, x8, x9, x12, x17⟩ := hp_Xf hw hX.1
      rw [F_X8_whereIs_eq, F_X2_laneOf_eq]
      simp (disch := omega) only [hp_kN, nI_add, pk_mul, hp_isInN, hp_m1L, hp_l0, hp_l1, hp_l2, hp_l3, hp_l4, hp_l5, hp_l7, hp_l8, hp_l10, hp_l17, hp_l20, hp_l24, hp_l48, hp_l50, hp_l55, hp_l127, hp_lm1, hp_eqN, hp_ltN, hp_inN, hp_cl, if_pos, if_neg, if_true, if_false, Option.bind_some, e, x3]
      rw [if_neg (by decide)]
    · rw [Mx D hR]
      exact (M3 D hR (N + 6)).1 (by rw [t0]; exact c4)
  refine ⟨-nI 5, fun D hX => ?_, fun D hR => ?_⟩
  · have e := (((((X D hX (N + 9) 0 (by omega)).2 c0).trans ((X D hX (N + 8) 1 (by omega)).2 c1)).trans ((X D hX (N + 7) 2 (by omega)).2 c2)).trans ((X D hX (N + 6) 3 (by omega)).2 c3)).trans ((X D hX (N + 5) 4 (by omega)).2 c4)
    have e5 : F_X2_laneOf_2 (N + 10) (N + 4 + 1) (nI w) (nI 5) D = some (-nI 1, D) := by
      clear e
      rw [F_X2_laneOf_2_eq]
      simp (disch := omega) only [hp_kN, nI_add, pk_mul, hp_isInN, hp_m1L, hp_l0, hp_l1, hp_l2, hp_l3, hp_l4, hp_l5, hp_l7, hp_l8, hp_l10, hp_l17, hp_l20, hp_l24, hp_l48, hp_l50, hp_l55, hp_l127, hp_lm1, hp_eqN, hp_ltN, hp_inN, hp_cl, if_pos, if_neg, if_true, if_false, Option.bind_some]
    have e6 := e.trans e5
    rw [F_X8_whereIs_eq, F_X2_laneOf_eq]
    clear e e5
    simp (disch := omega) only [hp_kN, nI_add, pk_mul, hp_isInN, hp_m1L, hp_l0, hp_l1, hp_l2, hp_l3, hp_l4, hp_l5, hp_l7, hp_l8, hp_l10, hp_l17, hp_l20, hp_l24, hp_l48, hp_l50, hp_l55, hp_l127, hp_lm1, hp_eqN, hp_ltN, hp_inN, hp_cl, if_pos, if_neg, if_true, if_false, Option.bind_some, e6]
  · rw [Mx D hR]
    refine (M3 D hR (N + 6)).2 ?_
    rcases (show y 3 w = 0 ∨ y 3 w = 1 by omega) with h | h
    · rw [h]
      exact c3
    · rw [h]
      exact c4
