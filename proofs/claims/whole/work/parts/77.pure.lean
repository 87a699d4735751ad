/-! ===== right, judge ===== -/
theorem hp_nne {k m : Nat} (h : k < 2147483648) (hm : 1 ≤ m) (hm2 : m < 1000) : (nI k = -nI m) = False := eq_false fun e => by
  have e1 := hp_ti h
  have e2 : (-nI m).toInt = -(m : Int) := by
    have := pk_sub_toInt (a := 0) (b := m) (by omega) (by omega)
    have z : nI 0 - nI m = -nI m := by
      rw [Int32.sub_eq_add_neg]
      exact Int32.zero_add _
    rw [z] at this
    simpa using this
  rw [e, e2] at e1
  omega
theorem hp_negl {m : Nat} (hm : 1 ≤ m) (hm2 : m < 1000) : (-nI m < nI 0) = True := eq_true (by
  have e2 : (-nI m).toInt = -(m : Int) := by
    have := pk_sub_toInt (a := 0) (b := m) (by omega) (by omega)
    have z : nI 0 - nI m = -nI m := by
      rw [Int32.sub_eq_add_neg]
      exact Int32.zero_add _
    rw [z] at this
    simpa using this
  rw [Int32.lt_iff_toInt_lt, e2, hp_ti (by omega)]
  omega)
theorem hp_tl_lt {y : Nat → Nat → Nat} {b : Nat → Nat} {t : Nat} (h : hp_tl y b = some t) : t < 3 := by
  unfold hp_tl at h
  repeat' split at h
  all_goals (try (injection h with h; omega))
  all_goals cases h
theorem hp_maM (N : Nat) (hN : 10 ≤ N) {y : Nat → Nat → Nat} (hw : hp_WF y) {D : hy_M} (m00 : D 68 0 = nI (y 0 0)) (m01 : D 68 1 = nI (y 0 1)) (m12 : ∀ j, j < 8 → D 68 (12 + j) = nI (y 2 j)) : F_X9_mayAllCodes N D = some (match hp_j1 (y 0 1) (y 0 0) (fun j => nI (y 2 j)) (y 0 0) 0 with | some _ => nI 0 | none => nI 1, D) := by
  have b0 := hw.1
  have l : ∀ m i n, i + m = y 0 0 → m < n → F_X9_mayAllCodes_2 N n (nI i) D = some (match hp_j1 (y 0 1) (y 0 0) (fun j => nI (y 2 j)) m i with | some _ => nI 0 | none => nI 1, D) := by
    intro m
    induction m with
    | zero =>
      intro i n e hm
      obtain ⟨n, rfl⟩ : ∃ n', n = n' + 1 := ⟨n - 1, by omega⟩
      rw [F_X9_mayAllCodes_2_eq]
      unfold hp_j1
      simp (disch := omega) only [hp_kN, nI_add, pk_mul, hp_isInN, hp_m1L, hp_l0, hp_l1, hp_l2, hp_l3, hp_l4, hp_l5, hp_l7, hp_l8, hp_l10, hp_l17, hp_l20, hp_l24, hp_l48, hp_l50, hp_l55, hp_l127, hp_lm1, hp_eqN, hp_ltN, hp_inN, hp_cl, if_pos, if_neg, if_true, if_false, Option.bind_some, m00]
    | succ m ih =>
      intro i n e hm
      obtain ⟨n, rfl⟩ : ∃ n', n = n' + 1 := ⟨n - 1, by omega⟩
      have h8 := (hw.2.2.2.1 i (by omega)).2.1
      have s : hp_jok (y 0 1) (y 0 0) (fun j => nI (y 2 j)) i ↔ hp_may (y 0 1) (y 2 i) = 1 := by
        unfold hp_jok
        simp only [hp_ti (show y 2 i < 2147483648 by omega), hp_cl (show y 2 i < 2147483648 by omega)]
        refine ⟨fun h => h.2.2.2, fun h => ⟨by omega, by omega, by omega, h⟩⟩
      rw [F_X9_mayAllCodes_2_eq]
      unfold hp_j1
      rcases hp_may01 (y 0 1) (y 2 i) with z | z
      · have ns : ¬ hp_jok (y 0 1) (y 0 0) (fun j => nI (y 2 j)) i := fun q => by have := s.mp q; omega
        rw [if_neg ns]
        clear ih s ns
        simp (disch := omega) only [hp_kN, nI_add, pk_mul, hp_isInN, hp_m1L, hp_l0, hp_l1, hp_l2, hp_l3, hp_l4, hp_l5, hp_l7, hp_l8, hp_l10, hp_l17, hp_l20, hp_l24, hp_l48, hp_l50, hp_l55, hp_l127, hp_lm1, hp_eqN, hp_ltN, hp_inN, hp_cl, if_pos, if_neg, if_true, if_false, Option.bind_some, m00, m01, m12, hp_mayM N hN hw.2.1, z]
      · rw [if_pos (s.mpr z), ← ih (i + 1) n (by omega) (by omega)]
        clear ih s
        simp (disch := omega) only [hp_kN, nI_add, pk_mul, hp_isInN, hp_m1L, hp_l0, hp_l1, hp_l2, hp_l3, hp_l4, hp_l5, hp_l7, hp_l8, hp_l10, hp_l17, hp_l20, hp_l24, hp_l48, hp_l50, hp_l55, hp_l127, hp_lm1, hp_eqN, hp_ltN, hp_inN, hp_cl, if_pos, if_neg, if_true, if_false, Option.bind_some, m00, m01, m12, hp_mayM N hN hw.2.1, z]
  rw [F_X9_mayAllCodes_eq]
  exact l (y 0 0) 0 N (by omega) (by omega)
theorem st_right (N : Nat) (hN : 10 ≤ N) (a : Int32) : hp_step (F_X8_right N a) (F_X9_right N a) := by
  rintro ⟨y, pu, yk, pk, fl, T, P, tp, pp, ls, lc⟩ ⟨hw, hw1⟩
  obtain ⟨b0, b1, b2, b8, b17, b9⟩ := hp_Wb hw
  have h8 : ∀ j, j < y 0 0 → y 2 j < 8 := fun j hj => (hw.2.2.2.1 j (by omega)).2.1
  by_cases c0 : a = nI 0
  · subst c0
    refine ⟨match hp_nr y (y 2) with | some _ => nI 0 | none => nI 1, _, ⟨hw, hw1⟩, hp_qx0 fun D hX => ?_, hp_qm0 fun D hR => ?_⟩
    · obtain ⟨x00, x01, x02, x03, x1, x2, x3, x4, x6, x8, x9, x12, x17⟩ := hp_Xf hw hX.1
      have k1 := hp_nrX N hN hw x6 x8 (b := y 2) (fun j hj => x2 j (by omega)) h8
      rw [F_X8_right_eq]
      cases e : hp_nr y (y 2) with
      | some w =>
        have := hp_nr_lt hw _ e
        rw [e] at k1
        have k1' : F_X7_firstNotRight N D = some (nI w, D) := k1
        simp (disch := omega) only [hp_kN, nI_add, pk_mul, hp_isInN, hp_m1L, hp_l0, hp_l1, hp_l2, hp_l3, hp_l4, hp_l5, hp_l7, hp_l8, hp_l10, hp_l17, hp_l20, hp_l24, hp_l48, hp_l50, hp_l55, hp_l127, hp_lm1, hp_eqN, hp_ltN, hp_inN, hp_cl, if_pos, if_neg, if_true, if_false, Option.bind_some, k1', hp_n5]
      | none =>
        rw [e] at k1
        have k1' : F_X7_firstNotRight N D = some (-nI 1, D) := k1
        simp (disch := omega) only [hp_kN, nI_add, pk_mul, hp_isInN, hp_m1L, hp_l0, hp_l1, hp_l2, hp_l3, hp_l4, hp_l5, hp_l7, hp_l8, hp_l10, hp_l17, hp_l20, hp_l24, hp_l48, hp_l50, hp_l55, hp_l127, hp_lm1, hp_eqN, hp_ltN, hp_inN, hp_cl, if_pos, if_neg, if_true, if_false, Option.bind_some, k1']
    · obtain ⟨m00, m01, m02, m03, m4, m12, m20, m30, m28, m46, m70, m51, m67, m49⟩ := hp_Mf hw hR.1
      have k1 := hp_nrM N hN hw m30 m28 (b := y 2) (fun j hj => m12 j (by omega)) h8
      rw [F_X9_right_eq]
      cases e : hp_nr y (y 2) with
      | some w =>
        have := hp_nr_lt hw _ e
        rw [e] at k1
        have k1' : F_X9_notRight N D = some (nI w, D) := k1
        simp (disch := omega) only [hp_kN, nI_add, pk_mul, hp_isInN, hp_m1L, hp_l0, hp_l1, hp_l2, hp_l3, hp_l4, hp_l5, hp_l7, hp_l8, hp_l10, hp_l17, hp_l20, hp_l24, hp_l48, hp_l50, hp_l55, hp_l127, hp_lm1, hp_eqN, hp_ltN, hp_inN, hp_cl, if_pos, if_neg, if_true, if_false, Option.bind_some, k1']
      | none =>
        rw [e] at k1
        have k1' : F_X9_notRight N D = some (-nI 1, D) := k1
        simp (disch := omega) only [hp_kN, nI_add, pk_mul, hp_isInN, hp_m1L, hp_l0, hp_l1, hp_l2, hp_l3, hp_l4, hp_l5, hp_l7, hp_l8, hp_l10, hp_l17, hp_l20, hp_l24, hp_l48, hp_l50, hp_l55, hp_l127, hp_lm1, hp_eqN, hp_ltN, hp_inN, hp_cl, if_pos, if_neg, if_true, if_false, Option.bind_some, k1', hp_n1]
  by_cases c1 : a = nI 1
  · subst c1
    have hc8 : ∀ j, j < y 0 0 → hp_jn (fun j => nI (y 2 j)) j = y 2 j := fun j hj => by
      have := h8 j hj
      exact hp_cl (by omega)
    refine ⟨if hp_jA y (y 0 0) (fun j => nI (y 2 j)) = -nI 5 then nI 1 else nI 0, _, ⟨hw, hw1⟩, hp_qx0 fun D hX => ?_, hp_qm0 fun D hR => ?_⟩
    · obtain ⟨x00, x01, x02, x03, x1, x2, x3, x4, x6, x8, x9, x12, x17⟩ := hp_Xf hw hX.1
      have k1 := hp_jX N hN hw (c := fun j => nI (y 2 j)) (told := y 0 0) x00 x01 x1 x6 x8 x9 (Nat.le_refl _) (fun j hj => x2 j (by omega))
      rw [F_X8_right_eq, x00]
      by_cases q : hp_jA y (y 0 0) (fun j => nI (y 2 j)) = -nI 5
      · rw [q] at k1
        simp (disch := omega) only [hp_kN, nI_add, pk_mul, hp_isInN, hp_m1L, hp_l0, hp_l1, hp_l2, hp_l3, hp_l4, hp_l5, hp_l7, hp_l8, hp_l10, hp_l17, hp_l20, hp_l24, hp_l48, hp_l50, hp_l55, hp_l127, hp_lm1, hp_eqN, hp_ltN, hp_inN, hp_cl, if_pos, if_neg, if_true, if_false, Option.bind_some, k1, q]
      · simp (disch := omega) only [hp_kN, nI_add, pk_mul, hp_isInN, hp_m1L, hp_l0, hp_l1, hp_l2, hp_l3, hp_l4, hp_l5, hp_l7, hp_l8, hp_l10, hp_l17, hp_l20, hp_l24, hp_l48, hp_l50, hp_l55, hp_l127, hp_lm1, hp_eqN, hp_ltN, hp_inN, hp_cl, if_pos, if_neg, if_true, if_false, Option.bind_some, k1, q]
    · obtain ⟨m00, m01, m02, m03, m4, m12, m20, m30, m28, m46, m70, m51, m67, m49⟩ := hp_Mf hw hR.1
      have hb : ∀ j, j < y 0 0 → D 68 (12 + j) = nI (hp_jn (fun j => nI (y 2 j)) j) := fun j hj => by rw [hc8 j hj]; exact m12 j (by omega)
      have hb8 : ∀ j, j < y 0 0 → hp_jn (fun j => nI (y 2 j)) j < 8 := fun j hj => by rw [hc8 j hj]; exact h8 j hj
      have k1 := hp_nrM N hN hw m30 m28 hb hb8
      have k2 := hp_maM N hN hw m00 m01 m12
      have k3 := hp_tlM N hN hw m00 m4 m46 hb hb8
      clear hb hb8 hc8 h8
      rw [F_X9_right_eq]
      unfold hp_jA
      cases e1 : hp_j1 (y 0 1) (y 0 0) (fun j => nI (y 2 j)) (y 0 0) 0 with
      | some v =>
        have v8 := hp_j1_lt _ _ _ e1
        rw [e1] at k2
        have k2' : F_X9_mayAllCodes N D = some (nI 0, D) := k2
        have nv : (nI v = -nI 5) = False := hp_nne (by omega) (by omega) (by omega)
        cases e : hp_nr y (hp_jn fun j => nI (y 2 j)) with
        | some w =>
          have := hp_nr_lt hw _ e
          rw [e] at k1
          have k1' : F_X9_notRight N D = some (nI w, D) := k1
          simp (disch := omega) only [hp_kN, nI_add, pk_mul, hp_isInN, hp_m1L, hp_l0, hp_l1, hp_l2, hp_l3, hp_l4, hp_l5, hp_l7, hp_l8, hp_l10, hp_l17, hp_l20, hp_l24, hp_l48, hp_l50, hp_l55, hp_l127, hp_lm1, hp_eqN, hp_ltN, hp_inN, hp_cl, if_pos, if_neg, if_true, if_false, Option.bind_some, k1', nv]
        | none =>
          rw [e] at k1
          have k1' : F_X9_notRight N D = some (-nI 1, D) := k1
          simp (disch := omega) only [hp_kN, nI_add, pk_mul, hp_isInN, hp_m1L, hp_l0, hp_l1, hp_l2, hp_l3, hp_l4, hp_l5, hp_l7, hp_l8, hp_l10, hp_l17, hp_l20, hp_l24, hp_l48, hp_l50, hp_l55, hp_l127, hp_lm1, hp_eqN, hp_ltN, hp_inN, hp_cl, if_pos, if_neg, if_true, if_false, Option.bind_some, k1', hp_n1, k2', nv]
      | none =>
        rw [e1] at k2
        have k2' : F_X9_mayAllCodes N D = some (nI 1, D) := k2
        cases e : hp_nr y (hp_jn fun j => nI (y 2 j)) with
        | some w =>
          have := hp_nr_lt hw _ e
          rw [e] at k1
          have k1' : F_X9_notRight N D = some (nI w, D) := k1
          have nv : (nI (100 + w) = -nI 5) = False := hp_nne (by omega) (by omega) (by omega)
          simp (disch := omega) only [hp_kN, nI_add, pk_mul, hp_isInN, hp_m1L, hp_l0, hp_l1, hp_l2, hp_l3, hp_l4, hp_l5, hp_l7, hp_l8, hp_l10, hp_l17, hp_l20, hp_l24, hp_l48, hp_l50, hp_l55, hp_l127, hp_lm1, hp_eqN, hp_ltN, hp_inN, hp_cl, if_pos, if_neg, if_true, if_false, Option.bind_some, k1', nv]
        | none =>
          rw [e] at k1
          have k1' : F_X9_notRight N D = some (-nI 1, D) := k1
          cases e3 : hp_tl y (hp_jn fun j => nI (y 2 j)) with
          | some t =>
            have := hp_tl_lt e3
            rw [e3] at k3
            have k3' : F_X9_tooLoaded N D = some (nI t, D) := k3
            have nv : (nI (200 + t) = -nI 5) = False := hp_nne (by omega) (by omega) (by omega)
            simp (disch := omega) only [hp_kN, nI_add, pk_mul, hp_isInN, hp_m1L, hp_l0, hp_l1, hp_l2, hp_l3, hp_l4, hp_l5, hp_l7, hp_l8, hp_l10, hp_l17, hp_l20, hp_l24, hp_l48, hp_l50, hp_l55, hp_l127, hp_lm1, hp_eqN, hp_ltN, hp_inN, hp_cl, if_pos, if_neg, if_true, if_false, Option.bind_some, k1', hp_n1, k2', k3', nv]
          | none =>
            rw [e3] at k3
            have k3' : F_X9_tooLoaded N D = some (-nI 1, D) := k3
            simp (disch := omega) only [hp_kN, nI_add, pk_mul, hp_isInN, hp_m1L, hp_l0, hp_l1, hp_l2, hp_l3, hp_l4, hp_l5, hp_l7, hp_l8, hp_l10, hp_l17, hp_l20, hp_l24, hp_l48, hp_l50, hp_l55, hp_l127, hp_lm1, hp_eqN, hp_ltN, hp_inN, hp_cl, if_pos, if_neg, if_true, if_false, Option.bind_some, k1', hp_n1, k2', k3']
  by_cases c2 : a = nI 2
  · subst c2
    refine ⟨nI (hp_wd (hp_or (y 2) (y 0 0))), _, ⟨hw, hw1⟩, hp_qx0 fun D hX => ?_, hp_qm0 fun D hR => ?_⟩
    · obtain ⟨x00, x01, x02, x03, x1, x2, x3, x4, x6, x8, x9, x12, x17⟩ := hp_Xf hw hX.1
      have k1 := hp_stX N hN b0 (by_ := y 2) x00 (fun j hj => x2 j (by omega)) h8
      rw [F_X8_right_eq]
      simp (disch := omega) only [hp_kN, nI_add, pk_mul, hp_isInN, hp_m1L, hp_l0, hp_l1, hp_l2, hp_l3, hp_l4, hp_l5, hp_l7, hp_l8, hp_l10, hp_l17, hp_l20, hp_l24, hp_l48, hp_l50, hp_l55, hp_l127, hp_lm1, hp_eqN, hp_ltN, hp_inN, hp_cl, if_pos, if_neg, if_true, if_false, Option.bind_some, k1]
    · obtain ⟨m00, m01, m02, m03, m4, m12, m20, m30, m28, m46, m70, m51, m67, m49⟩ := hp_Mf hw hR.1
      have k1 := hp_stMn N hN b0 (by_ := y 2) m00 (fun j hj => m12 j (by omega)) h8
      rw [F_X9_right_eq]
      simp (disch := omega) only [hp_kN, nI_add, pk_mul, hp_isInN, hp_m1L, hp_l0, hp_l1, hp_l2, hp_l3, hp_l4, hp_l5, hp_l7, hp_l8, hp_l10, hp_l17, hp_l20, hp_l24, hp_l48, hp_l50, hp_l55, hp_l127, hp_lm1, hp_eqN, hp_ltN, hp_inN, hp_cl, if_pos, if_neg, if_true, if_false, Option.bind_some, k1]
  by_cases c3 : a = nI 3
  · subst c3
    refine ⟨nI (y 0 0 + hp_sum (fun j => hp_pc (y 2 j)) (y 0 0)), _, ⟨hw, hw1⟩, hp_qx0 fun D hX => ?_, hp_qm0 fun D hR => ?_⟩
    · obtain ⟨x00, x01, x02, x03, x1, x2, x3, x4, x6, x8, x9, x12, x17⟩ := hp_Xf hw hX.1
      have k1 := hp_roX N hN b0 (by_ := y 2) x00 (fun j hj => x2 j (by omega)) h8
      rw [F_X8_right_eq]
      simp (disch := omega) only [hp_kN, nI_add, pk_mul, hp_isInN, hp_m1L, hp_l0, hp_l1, hp_l2, hp_l3, hp_l4, hp_l5, hp_l7, hp_l8, hp_l10, hp_l17, hp_l20, hp_l24, hp_l48, hp_l50, hp_l55, hp_l127, hp_lm1, hp_eqN, hp_ltN, hp_inN, hp_cl, if_pos, if_neg, if_true, if_false, Option.bind_some, k1]
    · obtain ⟨m00, m01, m02, m03, m4, m12, m20, m30, m28, m46, m70, m51, m67, m49⟩ := hp_Mf hw hR.1
      have k1 := hp_roMn N hN b0 (by_ := y 2) m00 (fun j hj => m12 j (by omega)) h8
      rw [F_X9_right_eq]
      simp (disch := omega) only [hp_kN, nI_add, pk_mul, hp_isInN, hp_m1L, hp_l0, hp_l1, hp_l2, hp_l3, hp_l4, hp_l5, hp_l7, hp_l8, hp_l10, hp_l17, hp_l20, hp_l24, hp_l48, hp_l50, hp_l55, hp_l127, hp_lm1, hp_eqN, hp_ltN, hp_inN, hp_cl, if_pos, if_neg, if_true, if_false, Option.bind_some, k1]
  refine ⟨-1, _, ⟨hw, hw1⟩, hp_qx0 fun D hX => ?_, hp_qm0 fun D hR => ?_⟩
  · rw [F_X8_right_eq]
    simp only [hp_kN, c0, c1, c2, c3, if_false]
  · rw [F_X9_right_eq]
    simp only [hp_kN, c0, c1, c2, c3, if_false]
