/-! ===== chains, fewest ===== -/
theorem hp_X1000 {q : hp_T} {D : hy_M} (h : hp_X q D) : ∀ j, j < 8 → D 1000 j = nI j := by
  obtain ⟨y, pu, yk, pk, fl, T, P, tp, pp, ls, lc⟩ := q
  obtain ⟨_, _, _, _, _, _, _, _, _, h9⟩ := h
  exact h9
theorem hp_sm_72 {D D1 : hy_M} (h : ∀ c, c ≠ 72 → D1 c = D c) : hp_sm D D1 := ⟨fun c a => h c (by omega), fun j _ => by rw [h 67 (by omega)]⟩
theorem hp_neX (N : Nat) (hN : 10 ≤ N) {y : Nat → Nat → Nat} {pu : Int32} {yk : Nat → Nat → Nat} {pk : Int32} {fl T P : Nat} {tp pp : Nat → Nat} {ls : Nat → Int32} {lc : Nat → Nat → Int32} (hw : hp_WF y) {D : hy_M} (hX : hp_X (y, pu, yk, pk, fl, T, P, tp, pp, ls, lc) D) : F_X7_needOf N D = some (nI (hp_need y fun j => j), D) := by
  obtain ⟨x00, x01, x02, x03, x1, x2, x3, x4, x6, x8, x9, x12, x17⟩ := hp_Xf hw hX.1
  exact hp_needX N hN hw x6 (hp_X1000 hX) (fun j hj => by omega) x8
theorem hp_neM (N : Nat) (hN : 10 ≤ N) {y : Nat → Nat → Nat} {pu : Int32} {yk : Nat → Nat → Nat} {pk : Int32} {fl T P : Nat} {tp pp : Nat → Nat} {ls : Nat → Int32} {lc : Nat → Nat → Int32} (hw : hp_WF y) {D : hy_M} (hR : hp_R (y, pu, yk, pk, fl, T, P, tp, pp, ls, lc) D) (h72 : ∀ j, j < 8 → D 72 j = nI j) : F_X9_need N D = some (nI (hp_need y fun j => j), D) := by
  obtain ⟨m00, m01, m02, m03, m4, m12, m20, m30, m28, m46, m70, m51, m67, m49⟩ := hp_Mf hw hR.1
  exact hp_needM N hN hw m30 h72 (fun j hj => by omega) m28
theorem st_chains (N : Nat) (hN : 10 ≤ N) (a : Int32) : hp_step (F_X8_chains N a) (F_X9_chains N a) := by
  rintro ⟨y, pu, yk, pk, fl, T, P, tp, pp, ls, lc⟩ ⟨hw, hw1⟩
  rcases hp_arg a with ⟨a0, a1, a2⟩ | ⟨k, hk, rfl⟩
  · have ne : (a = nI 2) = False := eq_false (fun q => by rw [q] at a2; exact absurd a2 (by decide))
    refine ⟨-1, _, ⟨hw, hw1⟩, hp_qx0 fun D hX => ?_, hp_qm fun D hR => ?_⟩
    · rw [F_X8_chains_eq]
      simp (disch := omega) only [hp_kN, nI_add, pk_mul, hp_isInN, hp_m1L, hp_l0, hp_l1, hp_l2, hp_l3, hp_l4, hp_l5, hp_l7, hp_l8, hp_l10, hp_l17, hp_l20, hp_l24, hp_l48, hp_l50, hp_l55, hp_l127, hp_lm1, hp_eqN, hp_ltN, hp_inN, hp_cl, if_pos, if_neg, if_true, if_false, Option.bind_some, hp_X_isTraing N a0, ne]
    · obtain ⟨D1, e1, f1, f2⟩ := hp_ata N hN D
      refine ⟨D1, ?_, hp_sm_72 f2⟩
      rw [F_X9_chains_eq]
      simp (disch := omega) only [hp_kN, nI_add, pk_mul, hp_isInN, hp_m1L, hp_l0, hp_l1, hp_l2, hp_l3, hp_l4, hp_l5, hp_l7, hp_l8, hp_l10, hp_l17, hp_l20, hp_l24, hp_l48, hp_l50, hp_l55, hp_l127, hp_lm1, hp_eqN, hp_ltN, hp_inN, hp_cl, if_pos, if_neg, if_true, if_false, Option.bind_some, e1, hp_M_isTraing N a2, ne]
  by_cases c2 : k = 2
  · subst c2
    refine ⟨nI (hp_need y fun j => j), _, ⟨hw, hw1⟩, hp_qx0 fun D hX => ?_, hp_qm fun D hR => ?_⟩
    · rw [F_X8_chains_eq]
      simp (disch := omega) only [hp_kN, nI_add, pk_mul, hp_isInN, hp_m1L, hp_l0, hp_l1, hp_l2, hp_l3, hp_l4, hp_l5, hp_l7, hp_l8, hp_l10, hp_l17, hp_l20, hp_l24, hp_l48, hp_l50, hp_l55, hp_l127, hp_lm1, hp_eqN, hp_ltN, hp_inN, hp_cl, if_pos, if_neg, if_true, if_false, Option.bind_some, hp_neX N hN hw hX]
    · obtain ⟨D1, e1, f1, f2⟩ := hp_ata N hN D
      refine ⟨D1, ?_, hp_sm_72 f2⟩
      have hR1 := hp_R_sm hR (hp_sm_72 f2)
      rw [F_X9_chains_eq]
      simp (disch := omega) only [hp_kN, nI_add, pk_mul, hp_isInN, hp_m1L, hp_l0, hp_l1, hp_l2, hp_l3, hp_l4, hp_l5, hp_l7, hp_l8, hp_l10, hp_l17, hp_l20, hp_l24, hp_l48, hp_l50, hp_l55, hp_l127, hp_lm1, hp_eqN, hp_ltN, hp_inN, hp_cl, if_pos, if_neg, if_true, if_false, Option.bind_some, e1, hp_M_isTrain, hp_neM N hN hw hR1 f1]
  by_cases c : k < 2
  · refine ⟨nI (hp_chs y (fun j => j) k), _, ⟨hw, hw1⟩, hp_qx0 fun D hX => ?_, hp_qm fun D hR => ?_⟩
    · obtain ⟨x00, x01, x02, x03, x1, x2, x3, x4, x6, x8, x9, x12, x17⟩ := hp_Xf hw hX.1
      rw [F_X8_chains_eq]
      simp (disch := omega) only [hp_kN, nI_add, pk_mul, hp_isInN, hp_m1L, hp_l0, hp_l1, hp_l2, hp_l3, hp_l4, hp_l5, hp_l7, hp_l8, hp_l10, hp_l17, hp_l20, hp_l24, hp_l48, hp_l50, hp_l55, hp_l127, hp_lm1, hp_eqN, hp_ltN, hp_inN, hp_cl, if_pos, if_neg, if_true, if_false, Option.bind_some, hp_X_isTrain, hp_chX N hN hw x6 (hp_X1000 hX) (fun j hj => by omega) c (x8 k c)]
    · obtain ⟨D1, e1, f1, f2⟩ := hp_ata N hN D
      refine ⟨D1, ?_, hp_sm_72 f2⟩
      have hR := hp_R_sm hR (hp_sm_72 f2)
      obtain ⟨m00, m01, m02, m03, m4, m12, m20, m30, m28, m46, m70, m51, m67, m49⟩ := hp_Mf hw hR.1
      rw [F_X9_chains_eq]
      simp (disch := omega) only [hp_kN, nI_add, pk_mul, hp_isInN, hp_m1L, hp_l0, hp_l1, hp_l2, hp_l3, hp_l4, hp_l5, hp_l7, hp_l8, hp_l10, hp_l17, hp_l20, hp_l24, hp_l48, hp_l50, hp_l55, hp_l127, hp_lm1, hp_eqN, hp_ltN, hp_inN, hp_cl, if_pos, if_neg, if_true, if_false, Option.bind_some, e1, hp_M_isTrain, hp_chM N hN hw m30 f1 (fun j hj => by omega) c (m28 k c)]
  · refine ⟨-1, _, ⟨hw, hw1⟩, hp_qx0 fun D hX => ?_, hp_qm fun D hR => ?_⟩
    · rw [F_X8_chains_eq]
      simp (disch := omega) only [hp_kN, nI_add, pk_mul, hp_isInN, hp_m1L, hp_l0, hp_l1, hp_l2, hp_l3, hp_l4, hp_l5, hp_l7, hp_l8, hp_l10, hp_l17, hp_l20, hp_l24, hp_l48, hp_l50, hp_l55, hp_l127, hp_lm1, hp_eqN, hp_ltN, hp_inN, hp_cl, if_pos, if_neg, if_true, if_false, Option.bind_some, hp_X_isTrain]
    · obtain ⟨D1, e1, f1, f2⟩ := hp_ata N hN D
      refine ⟨D1, ?_, hp_sm_72 f2⟩
      rw [F_X9_chains_eq]
      simp (disch := omega) only [hp_kN, nI_add, pk_mul, hp_isInN, hp_m1L, hp_l0, hp_l1, hp_l2, hp_l3, hp_l4, hp_l5, hp_l7, hp_l8, hp_l10, hp_l17, hp_l20, hp_l24, hp_l48, hp_l50, hp_l55, hp_l127, hp_lm1, hp_eqN, hp_ltN, hp_inN, hp_cl, if_pos, if_neg, if_true, if_false, Option.bind_some, e1, hp_M_isTrain]
def hp_fn (y : Nat → Nat → Nat) : Nat := hp_few (y 0 1) (hp_need y fun j => j)
theorem hp_fnX (N : Nat) (hN : 1000 ≤ N) {y : Nat → Nat → Nat} {pu : Int32} {yk : Nat → Nat → Nat} {pk : Int32} {fl T P : Nat} {tp pp : Nat → Nat} {ls : Nat → Int32} {lc : Nat → Nat → Int32} (hw : hp_WF y) {D : hy_M} (hX : hp_X (y, pu, yk, pk, fl, T, P, tp, pp, ls, lc) D) : F_X8_fewestNow N D = some (nI (hp_fn y), D) := by
  obtain ⟨x00, x01, x02, x03, x1, x2, x3, x4, x6, x8, x9, x12, x17⟩ := hp_Xf hw hX.1
  rw [F_X8_fewestNow_eq, x01]
  have := hp_need_le (fun j => j) hw
  simp (disch := omega) only [hp_kN, nI_add, pk_mul, hp_isInN, hp_m1L, hp_l0, hp_l1, hp_l2, hp_l3, hp_l4, hp_l5, hp_l7, hp_l8, hp_l10, hp_l17, hp_l20, hp_l24, hp_l48, hp_l50, hp_l55, hp_l127, hp_lm1, hp_eqN, hp_ltN, hp_inN, hp_cl, if_pos, if_neg, if_true, if_false, Option.bind_some, hp_neX N (by omega) hw hX, hp_fewX N (by omega) hw.2.1 this D]
  rfl
theorem hp_fnM (N : Nat) (hN : 1000 ≤ N) {y : Nat → Nat → Nat} {pu : Int32} {yk : Nat → Nat → Nat} {pk : Int32} {fl T P : Nat} {tp pp : Nat → Nat} {ls : Nat → Int32} {lc : Nat → Nat → Int32} (hw : hp_WF y) {D : hy_M} (hR : hp_R (y, pu, yk, pk, fl, T, P, tp, pp, ls, lc) D) : ∃ D1, F_X9_fewestNow N D = some (nI (hp_fn y), D1) ∧ (∀ c, c ≠ 72 → D1 c = D c) := by
  obtain ⟨D1, e1, f1, f2⟩ := hp_ata N (by omega) D
  refine ⟨D1, ?_, f2⟩
  have hR1 := hp_R_sm hR (hp_sm_72 f2)
  have hn := hp_neM N (by omega) hw hR1 f1
  have hR := hR1
  obtain ⟨m00, m01, m02, m03, m4, m12, m20, m30, m28, m46, m70, m51, m67, m49⟩ := hp_Mf hw hR.1
  have := hp_need_le (fun j => j) hw
  rw [F_X9_fewestNow_eq]
  simp (disch := omega) only [hp_kN, nI_add, pk_mul, hp_isInN, hp_m1L, hp_l0, hp_l1, hp_l2, hp_l3, hp_l4, hp_l5, hp_l7, hp_l8, hp_l10, hp_l17, hp_l20, hp_l24, hp_l48, hp_l50, hp_l55, hp_l127, hp_lm1, hp_eqN, hp_ltN, hp_inN, hp_cl, if_pos, if_neg, if_true, if_false, Option.bind_some, e1, hn, hp_fewM N hN hw.2.1 this D1 m01]
  rfl
theorem st_fewest (N : Nat) (hN : 1000 ≤ N) (a : Int32) : hp_step (F_X8_fewest N a) (F_X9_fewest N a) := by
  rintro ⟨y, pu, yk, pk, fl, T, P, tp, pp, ls, lc⟩ ⟨hw, hw1⟩
  rcases hp_arg a with ⟨a0, a1, a2⟩ | ⟨k, hk, rfl⟩
  · have ne0 : (a = nI 0) = False := eq_false (fun q => by rw [q] at a2; exact absurd a2 (by decide))
    have ne1 : (a = nI 1) = False := eq_false (fun q => by rw [q] at a2; exact absurd a2 (by decide))
    have lt : (a < nI 10) = True := eq_true (by rw [Int32.lt_iff_toInt_lt, hp_ti (by omega)]; omega)
    refine ⟨-1, _, ⟨hw, hw1⟩, hp_qx0 fun D hX => ?_, hp_qm0 fun D hR => ?_⟩
    · rw [F_X8_fewest_eq]
      simp (disch := omega) only [hp_kN, nI_add, pk_mul, hp_isInN, hp_m1L, hp_l0, hp_l1, hp_l2, hp_l3, hp_l4, hp_l5, hp_l7, hp_l8, hp_l10, hp_l17, hp_l20, hp_l24, hp_l48, hp_l50, hp_l55, hp_l127, hp_lm1, hp_eqN, hp_ltN, hp_inN, hp_cl, if_pos, if_neg, if_true, if_false, Option.bind_some, ne0, ne1, lt]
    · rw [F_X9_fewest_eq]
      simp (disch := omega) only [hp_kN, nI_add, pk_mul, hp_isInN, hp_m1L, hp_l0, hp_l1, hp_l2, hp_l3, hp_l4, hp_l5, hp_l7, hp_l8, hp_l10, hp_l17, hp_l20, hp_l24, hp_l48, hp_l50, hp_l55, hp_l127, hp_lm1, hp_eqN, hp_ltN, hp_inN, hp_cl, if_pos, if_neg, if_true, if_false, Option.bind_some, ne0, ne1, hp_isIng N a2 10 _ (by decide)]
  by_cases c0 : k = 0
  · subst c0
    refine ⟨nI (hp_fn y), _, ⟨hw, hw1⟩, hp_qx0 fun D hX => ?_, hp_qm fun D hR => ?_⟩
    · rw [F_X8_fewest_eq]
      simp (disch := omega) only [hp_kN, nI_add, pk_mul, hp_isInN, hp_m1L, hp_l0, hp_l1, hp_l2, hp_l3, hp_l4, hp_l5, hp_l7, hp_l8, hp_l10, hp_l17, hp_l20, hp_l24, hp_l48, hp_l50, hp_l55, hp_l127, hp_lm1, hp_eqN, hp_ltN, hp_inN, hp_cl, if_pos, if_neg, if_true, if_false, Option.bind_some, hp_fnX N hN hw hX]
    · obtain ⟨D1, e1, f1⟩ := hp_fnM N hN hw hR
      refine ⟨D1, ?_, hp_sm_72 f1⟩
      rw [F_X9_fewest_eq]
      simp (disch := omega) only [hp_kN, nI_add, pk_mul, hp_isInN, hp_m1L, hp_l0, hp_l1, hp_l2, hp_l3, hp_l4, hp_l5, hp_l7, hp_l8, hp_l10, hp_l17, hp_l20, hp_l24, hp_l48, hp_l50, hp_l55, hp_l127, hp_lm1, hp_eqN, hp_ltN, hp_inN, hp_cl, if_pos, if_neg, if_true, if_false, Option.bind_some, e1]
  by_cases c1 : k = 1
  · subst c1
    refine ⟨nI (hp_cnt (y 0 1) 8), _, ⟨hw, hw1⟩, hp_qx0 fun D hX => ?_, hp_qm0 fun D hR => ?_⟩
    · obtain ⟨x00, x01, x02, x03, x1, x2, x3, x4, x6, x8, x9, x12, x17⟩ := hp_Xf hw hX.1
      rw [F_X8_fewest_eq, x01]
      have := hp_hmX N hw.2.1 D 8 0 N rfl (by omega)
      have e0 : hp_cnt (y 0 1) 0 = 0 := rfl
      rw [e0] at this
      simp (disch := omega) only [hp_kN, nI_add, pk_mul, hp_isInN, hp_m1L, hp_l0, hp_l1, hp_l2, hp_l3, hp_l4, hp_l5, hp_l7, hp_l8, hp_l10, hp_l17, hp_l20, hp_l24, hp_l48, hp_l50, hp_l55, hp_l127, hp_lm1, hp_eqN, hp_ltN, hp_inN, hp_cl, if_pos, if_neg, if_true, if_false, Option.bind_some, F_X1_howMany_eq, this]
    · obtain ⟨m00, m01, m02, m03, m4, m12, m20, m30, m28, m46, m70, m51, m67, m49⟩ := hp_Mf hw hR.1
      rw [F_X9_fewest_eq]
      have := hp_hmM N (by omega) hw.2.1 D m01 8 0 N rfl (by omega)
      have e0 : hp_cnt (y 0 1) 0 = 0 := rfl
      rw [e0] at this
      simp (disch := omega) only [hp_kN, nI_add, pk_mul, hp_isInN, hp_m1L, hp_l0, hp_l1, hp_l2, hp_l3, hp_l4, hp_l5, hp_l7, hp_l8, hp_l10, hp_l17, hp_l20, hp_l24, hp_l48, hp_l50, hp_l55, hp_l127, hp_lm1, hp_eqN, hp_ltN, hp_inN, hp_cl, if_pos, if_neg, if_true, if_false, Option.bind_some, F_X9_mayAll_eq, this]
  by_cases c : 10 ≤ k ∧ k < 18
  · obtain ⟨j, rfl⟩ : ∃ j, k = j + 10 := ⟨k - 10, by omega⟩
    refine ⟨nI (hp_may (y 0 1) j), _, ⟨hw, hw1⟩, hp_qx0 fun D hX => ?_, hp_qm0 fun D hR => ?_⟩
    · obtain ⟨x00, x01, x02, x03, x1, x2, x3, x4, x6, x8, x9, x12, x17⟩ := hp_Xf hw hX.1
      rw [F_X8_fewest_eq, x01]
      rcases hp_may01 (y 0 1) j with h | h
      · simp (disch := omega) only [hp_kN, nI_add, pk_mul, hp_isInN, hp_m1L, hp_l0, hp_l1, hp_l2, hp_l3, hp_l4, hp_l5, hp_l7, hp_l8, hp_l10, hp_l17, hp_l20, hp_l24, hp_l48, hp_l50, hp_l55, hp_l127, hp_lm1, hp_eqN, hp_ltN, hp_inN, hp_cl, if_pos, if_neg, if_true, if_false, Option.bind_some, pk_sub, Nat.add_sub_cancel, hp_mayX N hw.2.1, h]
      · simp (disch := omega) only [hp_kN, nI_add, pk_mul, hp_isInN, hp_m1L, hp_l0, hp_l1, hp_l2, hp_l3, hp_l4, hp_l5, hp_l7, hp_l8, hp_l10, hp_l17, hp_l20, hp_l24, hp_l48, hp_l50, hp_l55, hp_l127, hp_lm1, hp_eqN, hp_ltN, hp_inN, hp_cl, if_pos, if_neg, if_true, if_false, Option.bind_some, pk_sub, Nat.add_sub_cancel, hp_mayX N hw.2.1, h]
    · obtain ⟨m00, m01, m02, m03, m4, m12, m20, m30, m28, m46, m70, m51, m67, m49⟩ := hp_Mf hw hR.1
      rw [F_X9_fewest_eq]
      rcases hp_may01 (y 0 1) j with h | h
      · simp (disch := omega) only [hp_kN, nI_add, pk_mul, hp_isInN, hp_m1L, hp_l0, hp_l1, hp_l2, hp_l3, hp_l4, hp_l5, hp_l7, hp_l8, hp_l10, hp_l17, hp_l20, hp_l24, hp_l48, hp_l50, hp_l55, hp_l127, hp_lm1, hp_eqN, hp_ltN, hp_inN, hp_cl, if_pos, if_neg, if_true, if_false, Option.bind_some, pk_sub, Nat.add_sub_cancel, m01, hp_mayM N (by omega) hw.2.1, h]
      · simp (disch := omega) only [hp_kN, nI_add, pk_mul, hp_isInN, hp_m1L, hp_l0, hp_l1, hp_l2, hp_l3, hp_l4, hp_l5, hp_l7, hp_l8, hp_l10, hp_l17, hp_l20, hp_l24, hp_l48, hp_l50, hp_l55, hp_l127, hp_lm1, hp_eqN, hp_ltN, hp_inN, hp_cl, if_pos, if_neg, if_true, if_false, Option.bind_some, pk_sub, Nat.add_sub_cancel, m01, hp_mayM N (by omega) hw.2.1, h]
  · refine ⟨-1, _, ⟨hw, hw1⟩, hp_qx0 fun D hX => ?_, hp_qm0 fun D hR => ?_⟩
    · rw [F_X8_fewest_eq]
      by_cases c3 : k < 10
      · simp (disch := omega) only [hp_kN, nI_add, pk_mul, hp_isInN, hp_m1L, hp_l0, hp_l1, hp_l2, hp_l3, hp_l4, hp_l5, hp_l7, hp_l8, hp_l10, hp_l17, hp_l20, hp_l24, hp_l48, hp_l50, hp_l55, hp_l127, hp_lm1, hp_eqN, hp_ltN, hp_inN, hp_cl, if_pos, if_neg, if_true, if_false, Option.bind_some]
      · simp (disch := omega) only [hp_kN, nI_add, pk_mul, hp_isInN, hp_m1L, hp_l0, hp_l1, hp_l2, hp_l3, hp_l4, hp_l5, hp_l7, hp_l8, hp_l10, hp_l17, hp_l20, hp_l24, hp_l48, hp_l50, hp_l55, hp_l127, hp_lm1, hp_eqN, hp_ltN, hp_inN, hp_cl, if_pos, if_neg, if_true, if_false, Option.bind_some]
    · rw [F_X9_fewest_eq]
      simp (disch := omega) only [hp_kN, nI_add, pk_mul, hp_isInN, hp_m1L, hp_l0, hp_l1, hp_l2, hp_l3, hp_l4, hp_l5, hp_l7, hp_l8, hp_l10, hp_l17, hp_l20, hp_l24, hp_l48, hp_l50, hp_l55, hp_l127, hp_lm1, hp_eqN, hp_ltN, hp_inN, hp_cl, if_pos, if_neg, if_true, if_false, Option.bind_some]
/-! ===== steps, rolls, loads ===== -/
def hp_or (by_ : Nat → Nat) : Nat → Nat
  | 0 => 0
  | i + 1 => hp_or by_ i ||| by_ i
theorem hp_or_t : ((List.range 8).all fun a => (List.range 8).all fun b => decide (nI a ||| nI b = nI (a ||| b)) && decide (a ||| b < 8)) = true := by decide +kernel
theorem hp_orI {a b : Nat} (ha : a < 8) (hb : b < 8) : nI a ||| nI b = nI (a ||| b) ∧ a ||| b < 8 := by
  have := hp_all1 (hp_all1 hp_or_t ha) hb
  simpa using this
theorem hp_or_lt {by_ : Nat → Nat} (n : Nat) (h : ∀ j, j < n → by_ j < 8) : hp_or by_ n < 8 := by
  induction n with
  | zero => show 0 < 8; omega
  | succ n ih => exact (hp_orI (ih (fun j hj => h j (by omega))) (h n (by omega))).2
theorem hp_orL {a b : Nat} (ha : a < 8) (hb : b < 8) : nI a ||| nI b = nI (a ||| b) := (hp_orI ha hb).1
def hp_sum (f : Nat → Nat) : Nat → Nat
  | 0 => 0
  | i + 1 => hp_sum f i + f i
theorem hp_sum_le (f : Nat → Nat) (n b : Nat) (h : ∀ j, j < n → f j ≤ b) : hp_sum f n ≤ n * b := by
  induction n with
  | zero => exact Nat.zero_le _
  | succ n ih =>
    have := ih (fun j hj => h j (by omega))
    have := h n (by omega)
    show hp_sum f n + f n ≤ (n + 1) * b
    rw [Nat.succ_mul]
    omega
theorem hp_stM_t : ((List.range 8).all fun c => decide (hp_wd c = if 3 < c then 3 else if 1 < c then 2 else c)) = true := by decide +kernel
theorem hp_stM (N : Nat) {c : Nat} (h : c < 8) (D : hy_M) : F_X9_stepsOf N (nI c) D = some (nI (hp_wd c), D) := by
  have := of_decide_eq_true (hp_all1 hp_stM_t h)
  rw [F_X9_stepsOf_eq, this]
  by_cases c1 : 3 < c
  · simp (disch := omega) only [hp_kN, nI_add, pk_mul, hp_isInN, hp_m1L, hp_l0, hp_l1, hp_l2, hp_l3, hp_l4, hp_l5, hp_l7, hp_l8, hp_l10, hp_l17, hp_l20, hp_l24, hp_l48, hp_l50, hp_l55, hp_l127, hp_lm1, hp_eqN, hp_ltN, hp_inN, hp_cl, if_pos, if_neg, if_true, if_false, Option.bind_some]
  · by_cases c2 : 1 < c
    · simp (disch := omega) only [hp_kN, nI_add, pk_mul, hp_isInN, hp_m1L, hp_l0, hp_l1, hp_l2, hp_l3, hp_l4, hp_l5, hp_l7, hp_l8, hp_l10, hp_l17, hp_l20, hp_l24, hp_l48, hp_l50, hp_l55, hp_l127, hp_lm1, hp_eqN, hp_ltN, hp_inN, hp_cl, if_pos, if_neg, if_true, if_false, Option.bind_some]
    · simp (disch := omega) only [hp_kN, nI_add, pk_mul, hp_isInN, hp_m1L, hp_l0, hp_l1, hp_l2, hp_l3, hp_l4, hp_l5, hp_l7, hp_l8, hp_l10, hp_l17, hp_l20, hp_l24, hp_l48, hp_l50, hp_l55, hp_l127, hp_lm1, hp_eqN, hp_ltN, hp_inN, hp_cl, if_pos, if_neg, if_true, if_false, Option.bind_some]
theorem hp_stX (N : Nat) (hN : 10 ≤ N) {k : Nat} (hk : k ≤ 8) {by_ : Nat → Nat} {D : hy_M} (h0 : D 1 0 = nI k) (hb : ∀ j, j < k → D 3 j = nI (by_ j)) (h8 : ∀ j, j < k → by_ j < 8) : F_X7_stepsOf N D = some (nI (hp_wd (hp_or by_ k)), D) := by
  have l : ∀ m i n, i + m = k → m < n → F_X7_stepsOf_4 N n (nI (hp_or by_ i)) (nI i) D = some (nI (hp_wd (hp_or by_ k)), D) := by
    intro m
    induction m with
    | zero =>
      intro i n e hm
      obtain ⟨n, rfl⟩ : ∃ n', n = n' + 1 := ⟨n - 1, by omega⟩
      have e : i = k := by omega
      have := hp_or_lt k h8
      rw [F_X7_stepsOf_4_eq, e]
      simp (disch := omega) only [hp_kN, nI_add, pk_mul, hp_isInN, hp_m1L, hp_l0, hp_l1, hp_l2, hp_l3, hp_l4, hp_l5, hp_l7, hp_l8, hp_l10, hp_l17, hp_l20, hp_l24, hp_l48, hp_l50, hp_l55, hp_l127, hp_lm1, hp_eqN, hp_ltN, hp_inN, hp_cl, if_pos, if_neg, if_true, if_false, Option.bind_some, h0, hp_wdX N hN]
    | succ m ih =>
      intro i n e hm
      obtain ⟨n, rfl⟩ : ∃ n', n = n' + 1 := ⟨n - 1, by omega⟩
      have := hp_or_lt i (fun j hj => h8 j (by omega))
      have h8i := h8 i (by omega)
      have hi := ih (i + 1) n (by omega) (by omega)
      have e3 : hp_or by_ (i + 1) = hp_or by_ i ||| by_ i := rfl
      rw [← hi, F_X7_stepsOf_4_eq, e3]
      simp (disch := omega) only [hp_kN, nI_add, pk_mul, hp_isInN, hp_m1L, hp_l0, hp_l1, hp_l2, hp_l3, hp_l4, hp_l5, hp_l7, hp_l8, hp_l10, hp_l17, hp_l20, hp_l24, hp_l48, hp_l50, hp_l55, hp_l127, hp_lm1, hp_eqN, hp_ltN, hp_inN, hp_cl, if_pos, if_neg, if_true, if_false, Option.bind_some, h0, hb, hp_orL]
  rw [F_X7_stepsOf_eq]
  exact l k 0 N (by omega) (by omega)
theorem hp_roX (N : Nat) (hN : 10 ≤ N) {k : Nat} (hk : k ≤ 8) {by_ : Nat → Nat} {D : hy_M} (h0 : D 1 0 = nI k) (hb : ∀ j, j < k → D 3 j = nI (by_ j)) (h8 : ∀ j, j < k → by_ j < 8) : F_X7_rollsOf N D = some (nI (k + hp_sum (fun j => hp_pc (by_ j)) k), D) := by
  have l : ∀ m i n, i + m = k → m < n → F_X7_rollsOf_7 N n (nI (k + hp_sum (fun j => hp_pc (by_ j)) i)) (nI i) D = some (nI (k + hp_sum (fun j => hp_pc (by_ j)) k), D) := by
    intro m
    induction m with
    | zero =>
      intro i n e hm
      obtain ⟨n, rfl⟩ : ∃ n', n = n' + 1 := ⟨n - 1, by omega⟩
      have e : i = k := by omega
      rw [F_X7_rollsOf_7_eq, e]
      simp (disch := omega) only [hp_kN, nI_add, pk_mul, hp_isInN, hp_m1L, hp_l0, hp_l1, hp_l2, hp_l3, hp_l4, hp_l5, hp_l7, hp_l8, hp_l10, hp_l17, hp_l20, hp_l24, hp_l48, hp_l50, hp_l55, hp_l127, hp_lm1, hp_eqN, hp_ltN, hp_inN, hp_cl, if_pos, if_neg, if_true, if_false, Option.bind_some, h0]
    | succ m ih =>
      intro i n e hm
      obtain ⟨n, rfl⟩ : ∃ n', n = n' + 1 := ⟨n - 1, by omega⟩
      have h8i := h8 i (by omega)
      have hi := ih (i + 1) n (by omega) (by omega)
      have e3 : hp_sum (fun j => hp_pc (by_ j)) (i + 1) = hp_sum (fun j => hp_pc (by_ j)) i + hp_pc (by_ i) := rfl
      rw [← hi, F_X7_rollsOf_7_eq, e3, ← Nat.add_assoc]
      simp (disch := omega) only [hp_kN, nI_add, pk_mul, hp_isInN, hp_m1L, hp_l0, hp_l1, hp_l2, hp_l3, hp_l4, hp_l5, hp_l7, hp_l8, hp_l10, hp_l17, hp_l20, hp_l24, hp_l48, hp_l50, hp_l55, hp_l127, hp_lm1, hp_eqN, hp_ltN, hp_inN, hp_cl, if_pos, if_neg, if_true, if_false, Option.bind_some, h0, hb, hp_bc]
  rw [F_X7_rollsOf_eq, h0]
  exact l k 0 N (by omega) (by omega)
theorem hp_stX_1_54 (N : Nat) (hN : 10 ≤ N) {k : Nat} (hk : k ≤ 8) {by_ : Nat → Nat} {D : hy_M} (h0 : D 1 0 = nI k) (hb : ∀ j, j < k → D 54 j = nI (by_ j)) (h8 : ∀ j, j < k → by_ j < 8) : F_X7_stepsOf_1_54 N D = some (nI (hp_wd (hp_or by_ k)), D) := by
  have l : ∀ m i n, i + m = k → m < n → F_X7_stepsOf_1_54_4 N n (nI (hp_or by_ i)) (nI i) D = some (nI (hp_wd (hp_or by_ k)), D) := by
    intro m
    induction m with
    | zero =>
      intro i n e hm
      obtain ⟨n, rfl⟩ : ∃ n', n = n' + 1 := ⟨n - 1, by omega⟩
      have e : i = k := by omega
      have := hp_or_lt k h8
      rw [F_X7_stepsOf_1_54_4_eq, e]
      simp (disch := omega) only [hp_kN, nI_add, pk_mul, hp_isInN, hp_m1L, hp_l0, hp_l1, hp_l2, hp_l3, hp_l4, hp_l5, hp_l7, hp_l8, hp_l10, hp_l17, hp_l20, hp_l24, hp_l48, hp_l50, hp_l55, hp_l127, hp_lm1, hp_eqN, hp_ltN, hp_inN, hp_cl, if_pos, if_neg, if_true, if_false, Option.bind_some, h0, hp_wdX N hN]
    | succ m ih =>
      intro i n e hm
      obtain ⟨n, rfl⟩ : ∃ n', n = n' + 1 := ⟨n - 1, by omega⟩
      have := hp_or_lt i (fun j hj => h8 j (by omega))
      have h8i := h8 i (by omega)
      have hi := ih (i + 1) n (by omega) (by omega)
      have e3 : hp_or by_ (i + 1) = hp_or by_ i ||| by_ i := rfl
      rw [← hi, F_X7_stepsOf_1_54_4_eq, e3]
      simp (disch := omega) only [hp_kN, nI_add, pk_mul, hp_isInN, hp_m1L, hp_l0, hp_l1, hp_l2, hp_l3, hp_l4, hp_l5, hp_l7, hp_l8, hp_l10, hp_l17, hp_l20, hp_l24, hp_l48, hp_l50, hp_l55, hp_l127, hp_lm1, hp_eqN, hp_ltN, hp_inN, hp_cl, if_pos, if_neg, if_true, if_false, Option.bind_some, h0, hb, hp_orL]
  rw [F_X7_stepsOf_1_54_eq]
  exact l k 0 N (by omega) (by omega)
theorem hp_roX_1_54 (N : Nat) (hN : 10 ≤ N) {k : Nat} (hk : k ≤ 8) {by_ : Nat → Nat} {D : hy_M} (h0 : D 1 0 = nI k) (hb : ∀ j, j < k → D 54 j = nI (by_ j)) (h8 : ∀ j, j < k → by_ j < 8) : F_X7_rollsOf_1_54 N D = some (nI (k + hp_sum (fun j => hp_pc (by_ j)) k), D) := by
  have l : ∀ m i n, i + m = k → m < n → F_X7_rollsOf_1_54_7 N n (nI (k + hp_sum (fun j => hp_pc (by_ j)) i)) (nI i) D = some (nI (k + hp_sum (fun j => hp_pc (by_ j)) k), D) := by
    intro m
    induction m with
    | zero =>
      intro i n e hm
      obtain ⟨n, rfl⟩ : ∃ n', n = n' + 1 := ⟨n - 1, by omega⟩
      have e : i = k := by omega
      rw [F_X7_rollsOf_1_54_7_eq, e]
      simp (disch := omega) only [hp_kN, nI_add, pk_mul, hp_isInN, hp_m1L, hp_l0, hp_l1, hp_l2, hp_l3, hp_l4, hp_l5, hp_l7, hp_l8, hp_l10, hp_l17, hp_l20, hp_l24, hp_l48, hp_l50, hp_l55, hp_l127, hp_lm1, hp_eqN, hp_ltN, hp_inN, hp_cl, if_pos, if_neg, if_true, if_false, Option.bind_some, h0]
    | succ m ih =>
      intro i n e hm
      obtain ⟨n, rfl⟩ : ∃ n', n = n' + 1 := ⟨n - 1, by omega⟩
      have h8i := h8 i (by omega)
      have hi := ih (i + 1) n (by omega) (by omega)
      have e3 : hp_sum (fun j => hp_pc (by_ j)) (i + 1) = hp_sum (fun j => hp_pc (by_ j)) i + hp_pc (by_ i) := rfl
      rw [← hi, F_X7_rollsOf_1_54_7_eq, e3, ← Nat.add_assoc]
      simp (disch := omega) only [hp_kN, nI_add, pk_mul, hp_isInN, hp_m1L, hp_l0, hp_l1, hp_l2, hp_l3, hp_l4, hp_l5, hp_l7, hp_l8, hp_l10, hp_l17, hp_l20, hp_l24, hp_l48, hp_l50, hp_l55, hp_l127, hp_lm1, hp_eqN, hp_ltN, hp_inN, hp_cl, if_pos, if_neg, if_true, if_false, Option.bind_some, h0, hb, hp_bc]
  rw [F_X7_rollsOf_1_54_eq, h0]
  exact l k 0 N (by omega) (by omega)
theorem hp_stMn (N : Nat) (hN : 10 ≤ N) {k : Nat} (hk : k ≤ 8) {by_ : Nat → Nat} {D : hy_M} (h0 : D 68 0 = nI k) (hb : ∀ j, j < k → D 68 (12 + j) = nI (by_ j)) (h8 : ∀ j, j < k → by_ j < 8) : F_X9_stepsNow N D = some (nI (hp_wd (hp_or by_ k)), D) := by
  have l : ∀ m i n, i + m = k → m < n → F_X9_stepsNow_4 N n (nI (hp_or by_ i)) (nI i) D = some (nI (hp_wd (hp_or by_ k)), D) := by
    intro m
    induction m with
    | zero =>
      intro i n e hm
      obtain ⟨n, rfl⟩ : ∃ n', n = n' + 1 := ⟨n - 1, by omega⟩
      have e : i = k := by omega
      have := hp_or_lt k h8
      rw [F_X9_stepsNow_4_eq, e]
      simp (disch := omega) only [hp_kN, nI_add, pk_mul, hp_isInN, hp_m1L, hp_l0, hp_l1, hp_l2, hp_l3, hp_l4, hp_l5, hp_l7, hp_l8, hp_l10, hp_l17, hp_l20, hp_l24, hp_l48, hp_l50, hp_l55, hp_l127, hp_lm1, hp_eqN, hp_ltN, hp_inN, hp_cl, if_pos, if_neg, if_true, if_false, Option.bind_some, h0, hp_stM N]
    | succ m ih =>
      intro i n e hm
      obtain ⟨n, rfl⟩ : ∃ n', n = n' + 1 := ⟨n - 1, by omega⟩
      have := hp_or_lt i (fun j hj => h8 j (by omega))
      have h8i := h8 i (by omega)
      have hi := ih (i + 1) n (by omega) (by omega)
      have e3 : hp_or by_ (i + 1) = hp_or by_ i ||| by_ i := rfl
      rw [← hi, F_X9_stepsNow_4_eq, e3]
      simp (disch := omega) only [hp_kN, nI_add, pk_mul, hp_isInN, hp_m1L, hp_l0, hp_l1, hp_l2, hp_l3, hp_l4, hp_l5, hp_l7, hp_l8, hp_l10, hp_l17, hp_l20, hp_l24, hp_l48, hp_l50, hp_l55, hp_l127, hp_lm1, hp_eqN, hp_ltN, hp_inN, hp_cl, if_pos, if_neg, if_true, if_false, Option.bind_some, h0, hb, hp_orL]
  rw [F_X9_stepsNow_eq]
  exact l k 0 N (by omega) (by omega)
theorem hp_roMn (N : Nat) (hN : 10 ≤ N) {k : Nat} (hk : k ≤ 8) {by_ : Nat → Nat} {D : hy_M} (h0 : D 68 0 = nI k) (hb : ∀ j, j < k → D 68 (12 + j) = nI (by_ j)) (h8 : ∀ j, j < k → by_ j < 8) : F_X9_rollsNow N D = some (nI (k + hp_sum (fun j => hp_pc (by_ j)) k), D) := by
  have l : ∀ m i n, i + m = k → m < n → F_X9_rollsNow_9 N n (nI (k + hp_sum (fun j => hp_pc (by_ j)) i)) (nI i) D = some (nI (k + hp_sum (fun j => hp_pc (by_ j)) k), D) := by
    intro m
    induction m with
    | zero =>
      intro i n e hm
      obtain ⟨n, rfl⟩ : ∃ n', n = n' + 1 := ⟨n - 1, by omega⟩
      have e : i = k := by omega
      rw [F_X9_rollsNow_9_eq, e]
      simp (disch := omega) only [hp_kN, nI_add, pk_mul, hp_isInN, hp_m1L, hp_l0, hp_l1, hp_l2, hp_l3, hp_l4, hp_l5, hp_l7, hp_l8, hp_l10, hp_l17, hp_l20, hp_l24, hp_l48, hp_l50, hp_l55, hp_l127, hp_lm1, hp_eqN, hp_ltN, hp_inN, hp_cl, if_pos, if_neg, if_true, if_false, Option.bind_some, h0]
    | succ m ih =>
      intro i n e hm
      obtain ⟨n, rfl⟩ : ∃ n', n = n' + 1 := ⟨n - 1, by omega⟩
      have h8i := h8 i (by omega)
      have hi := ih (i + 1) n (by omega) (by omega)
      have e3 : hp_sum (fun j => hp_pc (by_ j)) (i + 1) = hp_sum (fun j => hp_pc (by_ j)) i + hp_pc (by_ i) := rfl
      rw [← hi, F_X9_rollsNow_9_eq, e3, ← Nat.add_assoc]
      simp (disch := omega) only [hp_kN, nI_add, pk_mul, hp_isInN, hp_m1L, hp_l0, hp_l1, hp_l2, hp_l3, hp_l4, hp_l5, hp_l7, hp_l8, hp_l10, hp_l17, hp_l20, hp_l24, hp_l48, hp_l50, hp_l55, hp_l127, hp_lm1, hp_eqN, hp_ltN, hp_inN, hp_cl, if_pos, if_neg, if_true, if_false, Option.bind_some, h0, hb, hp_on N hN]
  rw [F_X9_rollsNow_eq, h0]
  exact l k 0 N (by omega) (by omega)
