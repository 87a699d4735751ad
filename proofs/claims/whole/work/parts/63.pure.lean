/-! ===== set, feed ===== -/
theorem st_set (N : Nat) (a b v : Int32) : hp_step (F_X8_set N a b v) (F_X9_set N a b v) := by
  rintro ⟨y, pu, yk, pk, fl, T, P, tp, pp, ls, lc⟩ ⟨hw, hw1⟩
  obtain ⟨b0, b1, b2, b8, b17, b9⟩ := hp_Wb hw
  rcases hp_arg a with ⟨a0, a1, a2⟩ | ⟨k, hk, rfl⟩
  · refine ⟨-1, _, ⟨hw, hw1⟩, hp_qx0 fun D hX => ?_, hp_qm0 fun D hR => ?_⟩
    · rw [F_X8_set_eq, hp_X_hasWagong N a0]
      rfl
    · rw [F_X9_set_eq, hp_M_isWagong N a2]
      rfl
  · by_cases c : k < y 0 0
    · rcases hp_arg b with ⟨w0, w1, w2⟩ | ⟨i, hi, rfl⟩
      · refine ⟨-1, _, ⟨hw, hw1⟩, hp_qx0 fun D hX => ?_, hp_qm0 fun D hR => ?_⟩
        · obtain ⟨x00, x01, x02, x03, x1, x2, x3, x4, x6, x8, x9, x12, x17⟩ := hp_Xf hw hX.1
          rw [F_X8_set_eq]
          simp (disch := omega) only [hp_kN, nI_add, pk_mul, hp_isInN, hp_m1L, hp_l0, hp_l1, hp_l2, hp_l3, hp_l4, hp_l5, hp_l7, hp_l8, hp_l10, hp_l17, hp_l20, hp_l24, hp_l48, hp_l50, hp_l55, hp_l127, hp_lm1, hp_eqN, hp_ltN, hp_inN, hp_cl, if_pos, if_neg, if_true, if_false, Option.bind_some, hp_X_hasWagon N hk b0 D x00, w1]
        · obtain ⟨m00, m01, m02, m03, m4, m12, m20, m30, m28, m46, m70, m51, m67, m49⟩ := hp_Mf hw hR.1
          rw [F_X9_set_eq]
          simp (disch := omega) only [hp_kN, nI_add, pk_mul, hp_isInN, hp_m1L, hp_l0, hp_l1, hp_l2, hp_l3, hp_l4, hp_l5, hp_l7, hp_l8, hp_l10, hp_l17, hp_l20, hp_l24, hp_l48, hp_l50, hp_l55, hp_l127, hp_lm1, hp_eqN, hp_ltN, hp_inN, hp_cl, if_pos, if_neg, if_true, if_false, Option.bind_some, hp_M_isWagon N hk b0 D m00, hp_isIng N w2 0 _ (by decide)]
      · by_cases ci : i < 2
        · have hbad : ∀ (hq : ¬ ∃ u, v = nI u ∧ ((i = 0 ∧ 1 ≤ u ∧ u ≤ 3) ∨ (i = 1 ∧ u < 8))), ∃ r q', hp_V q' ∧ hp_cx (F_X8_set N (nI k) (nI i) v) (y, pu, yk, pk, fl, T, P, tp, pp, ls, lc) r q' ∧ hp_cm (F_X9_set N (nI k) (nI i) v) (y, pu, yk, pk, fl, T, P, tp, pp, ls, lc) r q' := fun hq => by
            refine ⟨-2, _, ⟨hw, hw1⟩, hp_qx0 fun D hX => ?_, hp_qm0 fun D hR => ?_⟩
            · obtain ⟨x00, x01, x02, x03, x1, x2, x3, x4, x6, x8, x9, x12, x17⟩ := hp_Xf hw hX.1
              rw [F_X8_set_eq]
              simp (disch := omega) only [hp_kN, nI_add, pk_mul, hp_isInN, hp_m1L, hp_l0, hp_l1, hp_l2, hp_l3, hp_l4, hp_l5, hp_l7, hp_l8, hp_l10, hp_l17, hp_l20, hp_l24, hp_l48, hp_l50, hp_l55, hp_l127, hp_lm1, hp_eqN, hp_ltN, hp_inN, hp_cl, if_pos, if_neg, if_true, if_false, Option.bind_some, hp_X_hasWagon N hk b0 D x00]
              rcases hp_arg v with ⟨v0, v1, v2⟩ | ⟨u, hu, rfl⟩
              · have v1' : v < nI 1 := by
                  rw [Int32.lt_iff_toInt_lt]
                  have : (nI 1).toInt = 1 := rfl
                  omega
                rcases (show i = 0 ∨ i = 1 by omega) with rfl | rfl
                · simp (disch := omega) only [hp_kN, nI_add, pk_mul, hp_isInN, hp_m1L, hp_l0, hp_l1, hp_l2, hp_l3, hp_l4, hp_l5, hp_l7, hp_l8, hp_l10, hp_l17, hp_l20, hp_l24, hp_l48, hp_l50, hp_l55, hp_l127, hp_lm1, hp_eqN, hp_ltN, hp_inN, hp_cl, if_pos, if_neg, if_true, if_false, Option.bind_some, v1', F_X8_set_59_eq]
                · simp (disch := omega) only [hp_kN, nI_add, pk_mul, hp_isInN, hp_m1L, hp_l0, hp_l1, hp_l2, hp_l3, hp_l4, hp_l5, hp_l7, hp_l8, hp_l10, hp_l17, hp_l20, hp_l24, hp_l48, hp_l50, hp_l55, hp_l127, hp_lm1, hp_eqN, hp_ltN, hp_inN, hp_cl, if_pos, if_neg, if_true, if_false, Option.bind_some, v1, F_X8_set_59_eq]
              · rcases (show i = 0 ∨ i = 1 by omega) with rfl | rfl
                · have hn : ¬ (1 ≤ u ∧ u ≤ 3) := fun q => hq ⟨u, rfl, Or.inl ⟨rfl, q⟩⟩
                  by_cases c1 : u < 1
                  · simp (disch := omega) only [hp_kN, nI_add, pk_mul, hp_isInN, hp_m1L, hp_l0, hp_l1, hp_l2, hp_l3, hp_l4, hp_l5, hp_l7, hp_l8, hp_l10, hp_l17, hp_l20, hp_l24, hp_l48, hp_l50, hp_l55, hp_l127, hp_lm1, hp_eqN, hp_ltN, hp_inN, hp_cl, if_pos, if_neg, if_true, if_false, Option.bind_some, F_X8_set_59_eq]
                  · simp (disch := omega) only [hp_kN, nI_add, pk_mul, hp_isInN, hp_m1L, hp_l0, hp_l1, hp_l2, hp_l3, hp_l4, hp_l5, hp_l7, hp_l8, hp_l10, hp_l17, hp_l20, hp_l24, hp_l48, hp_l50, hp_l55, hp_l127, hp_lm1, hp_eqN, hp_ltN, hp_inN, hp_cl, if_pos, if_neg, if_true, if_false, Option.bind_some, F_X8_set_59_eq]
                · have hn : ¬ u < 8 := fun q => hq ⟨u, rfl, Or.inr ⟨rfl, q⟩⟩
                  simp (disch := omega) only [hp_kN, nI_add, pk_mul, hp_isInN, hp_m1L, hp_l0, hp_l1, hp_l2, hp_l3, hp_l4, hp_l5, hp_l7, hp_l8, hp_l10, hp_l17, hp_l20, hp_l24, hp_l48, hp_l50, hp_l55, hp_l127, hp_lm1, hp_eqN, hp_ltN, hp_inN, hp_cl, if_pos, if_neg, if_true, if_false, Option.bind_some, F_X8_set_59_eq]
            · obtain ⟨m00, m01, m02, m03, m4, m12, m20, m30, m28, m46, m70, m51, m67, m49⟩ := hp_Mf hw hR.1
              rw [F_X9_set_eq]
              simp (disch := omega) only [hp_kN, nI_add, pk_mul, hp_isInN, hp_m1L, hp_l0, hp_l1, hp_l2, hp_l3, hp_l4, hp_l5, hp_l7, hp_l8, hp_l10, hp_l17, hp_l20, hp_l24, hp_l48, hp_l50, hp_l55, hp_l127, hp_lm1, hp_eqN, hp_ltN, hp_inN, hp_cl, if_pos, if_neg, if_true, if_false, Option.bind_some, hp_M_isWagon N hk b0 D m00]
              rcases hp_arg v with ⟨v0, v1, v2⟩ | ⟨u, hu, rfl⟩
              · rcases (show i = 0 ∨ i = 1 by omega) with rfl | rfl
                · simp (disch := omega) only [hp_kN, nI_add, pk_mul, hp_isInN, hp_m1L, hp_l0, hp_l1, hp_l2, hp_l3, hp_l4, hp_l5, hp_l7, hp_l8, hp_l10, hp_l17, hp_l20, hp_l24, hp_l48, hp_l50, hp_l55, hp_l127, hp_lm1, hp_eqN, hp_ltN, hp_inN, hp_cl, if_pos, if_neg, if_true, if_false, Option.bind_some, hp_isIng N v2 1 _ (by decide)]
                · simp (disch := omega) only [hp_kN, nI_add, pk_mul, hp_isInN, hp_m1L, hp_l0, hp_l1, hp_l2, hp_l3, hp_l4, hp_l5, hp_l7, hp_l8, hp_l10, hp_l17, hp_l20, hp_l24, hp_l48, hp_l50, hp_l55, hp_l127, hp_lm1, hp_eqN, hp_ltN, hp_inN, hp_cl, if_pos, if_neg, if_true, if_false, Option.bind_some, hp_isIng N v2 0 _ (by decide)]
              · rcases (show i = 0 ∨ i = 1 by omega) with rfl | rfl
                · have hn : ¬ (1 ≤ u ∧ u ≤ 3) := fun q => hq ⟨u, rfl, Or.inl ⟨rfl, q⟩⟩
                  simp (disch := omega) only [hp_kN, nI_add, pk_mul, hp_isInN, hp_m1L, hp_l0, hp_l1, hp_l2, hp_l3, hp_l4, hp_l5, hp_l7, hp_l8, hp_l10, hp_l17, hp_l20, hp_l24, hp_l48, hp_l50, hp_l55, hp_l127, hp_lm1, hp_eqN, hp_ltN, hp_inN, hp_cl, if_pos, if_neg, if_true, if_false, Option.bind_some]
                · have hn : ¬ u < 8 := fun q => hq ⟨u, rfl, Or.inr ⟨rfl, q⟩⟩
                  simp (disch := omega) only [hp_kN, nI_add, pk_mul, hp_isInN, hp_m1L, hp_l0, hp_l1, hp_l2, hp_l3, hp_l4, hp_l5, hp_l7, hp_l8, hp_l10, hp_l17, hp_l20, hp_l24, hp_l48, hp_l50, hp_l55, hp_l127, hp_lm1, hp_eqN, hp_ltN, hp_inN, hp_cl, if_pos, if_neg, if_true, if_false, Option.bind_some]
          by_cases hq : ∃ u, v = nI u ∧ ((i = 0 ∧ 1 ≤ u ∧ u ≤ 3) ∨ (i = 1 ∧ u < 8))
          · clear hbad
            obtain ⟨u, rfl, hu⟩ := hq
            by_cases c3 : y 0 2 = 0
            · refine ⟨nI (y (1 + i) k), (hp_yw y (1 + i) k u, pu, yk, pk, fl, T, P, tp, pp, ls, lc), ⟨hp_WF_w hw (by omega), hw1⟩, fun D hX => ?_, fun D hR => ?_⟩
              · refine ⟨hy_w D (2 + i) k (nI u), ?_, ⟨?_, hp_C1_fr hX.2 (fun c a => ?_)⟩, fun c a b => ?_⟩
                · obtain ⟨x00, x01, x02, x03, x1, x2, x3, x4, x6, x8, x9, x12, x17⟩ := hp_Xf hw hX.1
                  rw [F_X8_set_eq]
                  simp (disch := omega) only [hp_kN, nI_add, pk_mul, hp_isInN, hp_m1L, hp_l0, hp_l1, hp_l2, hp_l3, hp_l4, hp_l5, hp_l7, hp_l8, hp_l10, hp_l17, hp_l20, hp_l24, hp_l48, hp_l50, hp_l55, hp_l127, hp_lm1, hp_eqN, hp_ltN, hp_inN, hp_cl, if_pos, if_neg, if_true, if_false, Option.bind_some, hp_X_hasWagon N hk b0 D x00]
                  rcases (show i = 0 ∨ i = 1 by omega) with rfl | rfl
                  · simp (disch := omega) only [hp_kN, nI_add, pk_mul, hp_isInN, hp_m1L, hp_l0, hp_l1, hp_l2, hp_l3, hp_l4, hp_l5, hp_l7, hp_l8, hp_l10, hp_l17, hp_l20, hp_l24, hp_l48, hp_l50, hp_l55, hp_l127, hp_lm1, hp_eqN, hp_ltN, hp_inN, hp_cl, if_pos, if_neg, if_true, if_false, Option.bind_some, F_X8_set_59_eq, x02, c3, F_X8_set_103_eq, hp_alc, hp_wlc, x1]
                  · simp (disch := omega) only [hp_kN, nI_add, pk_mul, hp_isInN, hp_m1L, hp_l0, hp_l1, hp_l2, hp_l3, hp_l4, hp_l5, hp_l7, hp_l8, hp_l10, hp_l17, hp_l20, hp_l24, hp_l48, hp_l50, hp_l55, hp_l127, hp_lm1, hp_eqN, hp_ltN, hp_inN, hp_cl, if_pos, if_neg, if_true, if_false, Option.bind_some, F_X8_set_59_eq, x02, c3, F_X8_set_103_eq, hp_alc, hp_wlc, x2]
                · rcases (show i = 0 ∨ i = 1 by omega) with rfl | rfl
                  · exact hp_CY_w 1 k u hX.1 (by omega) (show k < 8 by omega)
                  · exact hp_CY_w 2 k u hX.1 (by omega) (show k < 8 by omega)
                · simp (disch := omega) only [hy_w_ne]
                · simp (disch := omega) only [hy_w_ne]
              · refine ⟨hy_w D 68 (4 + 8 * i + k) (nI u), ?_, ⟨?_, hp_M1_fr hR.2 (fun c a => ?_) (fun j a => ?_)⟩, fun c a => ?_⟩
                · obtain ⟨m00, m01, m02, m03, m4, m12, m20, m30, m28, m46, m70, m51, m67, m49⟩ := hp_Mf hw hR.1
                  rw [F_X9_set_eq]
                  simp (disch := omega) only [hp_kN, nI_add, pk_mul, hp_isInN, hp_m1L, hp_l0, hp_l1, hp_l2, hp_l3, hp_l4, hp_l5, hp_l7, hp_l8, hp_l10, hp_l17, hp_l20, hp_l24, hp_l48, hp_l50, hp_l55, hp_l127, hp_lm1, hp_eqN, hp_ltN, hp_inN, hp_cl, if_pos, if_neg, if_true, if_false, Option.bind_some, hp_M_isWagon N hk b0 D m00]
                  rcases (show i = 0 ∨ i = 1 by omega) with rfl | rfl
                  · simp (disch := omega) only [hp_kN, nI_add, pk_mul, hp_isInN, hp_m1L, hp_l0, hp_l1, hp_l2, hp_l3, hp_l4, hp_l5, hp_l7, hp_l8, hp_l10, hp_l17, hp_l20, hp_l24, hp_l48, hp_l50, hp_l55, hp_l127, hp_lm1, hp_eqN, hp_ltN, hp_inN, hp_cl, if_pos, if_neg, if_true, if_false, Option.bind_some, F_X9_set_54_eq, m02, c3, F_X9_set_77_eq, m4]
                  · simp (disch := omega) only [hp_kN, nI_add, pk_mul, hp_isInN, hp_m1L, hp_l0, hp_l1, hp_l2, hp_l3, hp_l4, hp_l5, hp_l7, hp_l8, hp_l10, hp_l17, hp_l20, hp_l24, hp_l48, hp_l50, hp_l55, hp_l127, hp_lm1, hp_eqN, hp_ltN, hp_inN, hp_cl, if_pos, if_neg, if_true, if_false, Option.bind_some, F_X9_set_54_eq, m02, c3, F_X9_set_77_eq, m12]
                · rcases (show i = 0 ∨ i = 1 by omega) with rfl | rfl
                  · have e : hp_pos 1 k = 4 + 8 * 0 + k := by simp [hp_pos]
                    rw [← e]
                    exact hp_MY_w 1 k u hR.1 (by omega) (by omega) (show k < 8 by omega)
                  · have e : hp_pos 2 k = 4 + 8 * 1 + k := by simp [hp_pos]
                    rw [← e]
                    exact hp_MY_w 2 k u hR.1 (by omega) (by omega) (show k < 8 by omega)
                · simp (disch := omega) only [hy_w_ne]
                · simp (disch := omega) only [hy_w_ne]
                · simp (disch := omega) only [hy_w_ne]
            · have c3' : y 0 2 = 1 := by omega
              refine ⟨-3, _, ⟨hw, hw1⟩, hp_qx0 fun D hX => ?_, hp_qm0 fun D hR => ?_⟩
              · obtain ⟨x00, x01, x02, x03, x1, x2, x3, x4, x6, x8, x9, x12, x17⟩ := hp_Xf hw hX.1
                rw [F_X8_set_eq]
                simp (disch := omega) only [hp_kN, nI_add, pk_mul, hp_isInN, hp_m1L, hp_l0, hp_l1, hp_l2, hp_l3, hp_l4, hp_l5, hp_l7, hp_l8, hp_l10, hp_l17, hp_l20, hp_l24, hp_l48, hp_l50, hp_l55, hp_l127, hp_lm1, hp_eqN, hp_ltN, hp_inN, hp_cl, if_pos, if_neg, if_true, if_false, Option.bind_some, hp_X_hasWagon N hk b0 D x00]
                rcases (show i = 0 ∨ i = 1 by omega) with rfl | rfl
                · simp (disch := omega) only [hp_kN, nI_add, pk_mul, hp_isInN, hp_m1L, hp_l0, hp_l1, hp_l2, hp_l3, hp_l4, hp_l5, hp_l7, hp_l8, hp_l10, hp_l17, hp_l20, hp_l24, hp_l48, hp_l50, hp_l55, hp_l127, hp_lm1, hp_eqN, hp_ltN, hp_inN, hp_cl, if_pos, if_neg, if_true, if_false, Option.bind_some, F_X8_set_59_eq, x02, c3']
                · simp (disch := omega) only [hp_kN, nI_add, pk_mul, hp_isInN, hp_m1L, hp_l0, hp_l1, hp_l2, hp_l3, hp_l4, hp_l5, hp_l7, hp_l8, hp_l10, hp_l17, hp_l20, hp_l24, hp_l48, hp_l50, hp_l55, hp_l127, hp_lm1, hp_eqN, hp_ltN, hp_inN, hp_cl, if_pos, if_neg, if_true, if_false, Option.bind_some, F_X8_set_59_eq, x02, c3']
              · obtain ⟨m00, m01, m02, m03, m4, m12, m20, m30, m28, m46, m70, m51, m67, m49⟩ := hp_Mf hw hR.1
                rw [F_X9_set_eq]
                simp (disch := omega) only [hp_kN, nI_add, pk_mul, hp_isInN, hp_m1L, hp_l0, hp_l1, hp_l2, hp_l3, hp_l4, hp_l5, hp_l7, hp_l8, hp_l10, hp_l17, hp_l20, hp_l24, hp_l48, hp_l50, hp_l55, hp_l127, hp_lm1, hp_eqN, hp_ltN, hp_inN, hp_cl, if_pos, if_neg, if_true, if_false, Option.bind_some, hp_M_isWagon N hk b0 D m00]
                rcases (show i = 0 ∨ i = 1 by omega) with rfl | rfl
                · simp (disch := omega) only [hp_kN, nI_add, pk_mul, hp_isInN, hp_m1L, hp_l0, hp_l1, hp_l2, hp_l3, hp_l4, hp_l5, hp_l7, hp_l8, hp_l10, hp_l17, hp_l20, hp_l24, hp_l48, hp_l50, hp_l55, hp_l127, hp_lm1, hp_eqN, hp_ltN, hp_inN, hp_cl, if_pos, if_neg, if_true, if_false, Option.bind_some, F_X9_set_54_eq, m02, c3']
                · simp (disch := omega) only [hp_kN, nI_add, pk_mul, hp_isInN, hp_m1L, hp_l0, hp_l1, hp_l2, hp_l3, hp_l4, hp_l5, hp_l7, hp_l8, hp_l10, hp_l17, hp_l20, hp_l24, hp_l48, hp_l50, hp_l55, hp_l127, hp_lm1, hp_eqN, hp_ltN, hp_inN, hp_cl, if_pos, if_neg, if_true, if_false, Option.bind_some, F_X9_set_54_eq, m02, c3']
          · exact hbad hq
        · refine ⟨-1, _, ⟨hw, hw1⟩, hp_qx0 fun D hX => ?_, hp_qm0 fun D hR => ?_⟩
          · obtain ⟨x00, x01, x02, x03, x1, x2, x3, x4, x6, x8, x9, x12, x17⟩ := hp_Xf hw hX.1
            rw [F_X8_set_eq]
            simp (disch := omega) only [hp_kN, nI_add, pk_mul, hp_isInN, hp_m1L, hp_l0, hp_l1, hp_l2, hp_l3, hp_l4, hp_l5, hp_l7, hp_l8, hp_l10, hp_l17, hp_l20, hp_l24, hp_l48, hp_l50, hp_l55, hp_l127, hp_lm1, hp_eqN, hp_ltN, hp_inN, hp_cl, if_pos, if_neg, if_true, if_false, Option.bind_some, hp_X_hasWagon N hk b0 D x00]
          · obtain ⟨m00, m01, m02, m03, m4, m12, m20, m30, m28, m46, m70, m51, m67, m49⟩ := hp_Mf hw hR.1
            rw [F_X9_set_eq]
            simp (disch := omega) only [hp_kN, nI_add, pk_mul, hp_isInN, hp_m1L, hp_l0, hp_l1, hp_l2, hp_l3, hp_l4, hp_l5, hp_l7, hp_l8, hp_l10, hp_l17, hp_l20, hp_l24, hp_l48, hp_l50, hp_l55, hp_l127, hp_lm1, hp_eqN, hp_ltN, hp_inN, hp_cl, if_pos, if_neg, if_true, if_false, Option.bind_some, hp_M_isWagon N hk b0 D m00]
    · refine ⟨-1, _, ⟨hw, hw1⟩, hp_qx0 fun D hX => ?_, hp_qm0 fun D hR => ?_⟩
      · obtain ⟨x00, x01, x02, x03, x1, x2, x3, x4, x6, x8, x9, x12, x17⟩ := hp_Xf hw hX.1
        rw [F_X8_set_eq]
        simp (disch := omega) only [hp_kN, nI_add, pk_mul, hp_isInN, hp_m1L, hp_l0, hp_l1, hp_l2, hp_l3, hp_l4, hp_l5, hp_l7, hp_l8, hp_l10, hp_l17, hp_l20, hp_l24, hp_l48, hp_l50, hp_l55, hp_l127, hp_lm1, hp_eqN, hp_ltN, hp_inN, hp_cl, if_pos, if_neg, if_true, if_false, Option.bind_some, hp_X_hasWagon N hk b0 D x00]
      · obtain ⟨m00, m01, m02, m03, m4, m12, m20, m30, m28, m46, m70, m51, m67, m49⟩ := hp_Mf hw hR.1
        rw [F_X9_set_eq]
        simp (disch := omega) only [hp_kN, nI_add, pk_mul, hp_isInN, hp_m1L, hp_l0, hp_l1, hp_l2, hp_l3, hp_l4, hp_l5, hp_l7, hp_l8, hp_l10, hp_l17, hp_l20, hp_l24, hp_l48, hp_l50, hp_l55, hp_l127, hp_lm1, hp_eqN, hp_ltN, hp_inN, hp_cl, if_pos, if_neg, if_true, if_false, Option.bind_some, hp_M_isWagon N hk b0 D m00]
/-! the tape -/
def hp_ta (tp : Nat → Nat) (T v : Nat) : Nat → Nat := fun j => if j = T then v else tp j
theorem hp_ta_w {D : hy_M} {c T : Nat} {tp : Nat → Nat} (v : Nat) (h : ∀ j, j < T → D c j = nI (tp j)) : ∀ j, j < T + 1 → hy_w D c T (nI v) c j = nI (hp_ta tp T v j) := fun j hj => by
  rw [hp_w]
  unfold hp_ta
  by_cases e : j = T
  · rw [if_pos ⟨rfl, e⟩, if_pos e]
  · rw [if_neg (fun q => e q.2), if_neg e]
    exact h j (by omega)
theorem hp_ta_b {T : Nat} {tp : Nat → Nat} {v : Nat} (h : ∀ j, j < T → 1 ≤ tp j ∧ tp j ≤ 127) (hv : 1 ≤ v ∧ v ≤ 127) : ∀ j, j < T + 1 → 1 ≤ hp_ta tp T v j ∧ hp_ta tp T v j ≤ 127 := fun j hj => by
  unfold hp_ta
  by_cases e : j = T
  · rw [if_pos e]
    exact hv
  · rw [if_neg e]
    exact h j (by omega)
theorem hp_C1_tape {yk : Nat → Nat → Nat} {pk : Int32} {fl T P : Nat} {tp pp : Nat → Nat} {ls : Nat → Int32} {lc : Nat → Nat → Int32} {D D' : hy_M} {T' : Nat} {tp' : Nat → Nat} (h : hp_C1 yk pk fl T P tp pp ls lc D) (hf : ∀ c, (c = 0 ∨ (19 ≤ c ∧ c < 37) ∨ (39 ≤ c ∧ c < 48) ∨ c = 52 ∨ c = 1000) → D' c = D c) (e1 : D' 37 1 = nI T') (e2 : ∀ j, j < T' → D' 38 j = nI (tp' j)) : hp_C1 yk pk fl T' P tp' pp ls lc D' := by
  obtain ⟨h1, h2, h3, h4, h5, h6, h7, h8, h9⟩ := h
  exact ⟨by rw [hf 0 (by omega)]; exact h1, fun e => hp_CY_fr (h2 e) (fun c a b => hf c (by omega)), e1, e2, by rw [hf 39 (by omega)]; exact h5, fun j hj => by rw [hf 40 (by omega)]; exact h6 j hj, fun l hl => ⟨by rw [hf 47 (by omega)]; exact (h7 l hl).1, fun j hj => by rw [hf (43 + l) (by omega)]; exact (h7 l hl).2 j hj⟩, fun t ht => by rw [hf 52 (by omega)]; exact h8 t ht, fun j hj => by rw [hf 1000 (by omega)]; exact h9 j hj⟩
theorem hp_M1_tape {yk : Nat → Nat → Nat} {pk : Int32} {fl T P : Nat} {tp pp : Nat → Nat} {ls : Nat → Int32} {lc : Nat → Nat → Int32} {D D' : hy_M} {T' : Nat} {tp' : Nat → Nat} (h : hp_M1 yk pk fl T P tp pp ls lc D) (hf : ∀ c, (c = 69 ∨ c = 77 ∨ c = 79 ∨ c = 80) → D' c = D c) (h67 : ∀ j, (j = 3 ∨ j = 14 ∨ j = 16) → D' 67 j = D 67 j) (e1 : D' 67 5 = nI T') (e2 : ∀ j, j < T' → D' 71 j = nI (tp' j)) : hp_M1 yk pk fl T' P tp' pp ls lc D' := by
  obtain ⟨h1, h2, h3, h4, h5, h6, h7, h8⟩ := h
  exact ⟨by rw [h67 3 (by omega)]; exact h1, fun e => hp_MY_fr (h2 e) (hf 69 (by omega)), e1, e2, by rw [h67 16 (by omega)]; exact h5, fun j hj => by rw [hf 77 (by omega)]; exact h6 j hj, fun l hl => ⟨by rw [hf 80 (by omega)]; exact (h7 l hl).1, fun j hj => by rw [hf 79 (by omega)]; exact (h7 l hl).2 j hj⟩, by rw [h67 14 (by omega)]; exact h8⟩
theorem hp_tk (a : Int32) : (∀ N D, F_X6_takes N a D = some (nI 0, D) ∧ F_X9_isIn N a.toInt64 1 127 D = some (nI 0, D)) ∨ ∃ u, a = nI u ∧ 1 ≤ u ∧ u ≤ 127 ∧ ∀ N D, F_X6_takes N a D = some (nI 1, D) ∧ F_X9_isIn N a.toInt64 1 127 D = some (nI 1, D) := by
  rcases hp_arg a with ⟨a0, a1, a2⟩ | ⟨k, hk, rfl⟩
  · left
    intro N D
    have v1' : a < nI 1 := by
      rw [Int32.lt_iff_toInt_lt]
      have : (nI 1).toInt = 1 := rfl
      omega
    refine ⟨?_, hp_isIng N a2 1 _ (by decide) D⟩
    rw [F_X6_takes_eq]
    simp (disch := omega) only [hp_kN, nI_add, pk_mul, hp_isInN, hp_m1L, hp_l0, hp_l1, hp_l2, hp_l3, hp_l4, hp_l5, hp_l7, hp_l8, hp_l10, hp_l17, hp_l20, hp_l24, hp_l48, hp_l50, hp_l55, hp_l127, hp_lm1, hp_eqN, hp_ltN, hp_inN, hp_cl, if_pos, if_neg, if_true, if_false, Option.bind_some, v1']
  · by_cases c : 1 ≤ k ∧ k ≤ 127
    · right
      refine ⟨k, rfl, c.1, c.2, fun N D => ⟨?_, ?_⟩⟩
      · rw [F_X6_takes_eq]
        simp (disch := omega) only [hp_kN, nI_add, pk_mul, hp_isInN, hp_m1L, hp_l0, hp_l1, hp_l2, hp_l3, hp_l4, hp_l5, hp_l7, hp_l8, hp_l10, hp_l17, hp_l20, hp_l24, hp_l48, hp_l50, hp_l55, hp_l127, hp_lm1, hp_eqN, hp_ltN, hp_inN, hp_cl, if_pos, if_neg, if_true, if_false, Option.bind_some]
      · simp (disch := omega) only [hp_kN, nI_add, pk_mul, hp_isInN, hp_m1L, hp_l0, hp_l1, hp_l2, hp_l3, hp_l4, hp_l5, hp_l7, hp_l8, hp_l10, hp_l17, hp_l20, hp_l24, hp_l48, hp_l50, hp_l55, hp_l127, hp_lm1, hp_eqN, hp_ltN, hp_inN, hp_cl, if_pos, if_neg, if_true, if_false, Option.bind_some]
    · left
      intro N D
      refine ⟨?_, ?_⟩
      · rw [F_X6_takes_eq]
        by_cases c1 : k < 1
        · simp (disch := omega) only [hp_kN, nI_add, pk_mul, hp_isInN, hp_m1L, hp_l0, hp_l1, hp_l2, hp_l3, hp_l4, hp_l5, hp_l7, hp_l8, hp_l10, hp_l17, hp_l20, hp_l24, hp_l48, hp_l50, hp_l55, hp_l127, hp_lm1, hp_eqN, hp_ltN, hp_inN, hp_cl, if_pos, if_neg, if_true, if_false, Option.bind_some]
        · simp (disch := omega) only [hp_kN, nI_add, pk_mul, hp_isInN, hp_m1L, hp_l0, hp_l1, hp_l2, hp_l3, hp_l4, hp_l5, hp_l7, hp_l8, hp_l10, hp_l17, hp_l20, hp_l24, hp_l48, hp_l50, hp_l55, hp_l127, hp_lm1, hp_eqN, hp_ltN, hp_inN, hp_cl, if_pos, if_neg, if_true, if_false, Option.bind_some]
      · simp (disch := omega) only [hp_kN, nI_add, pk_mul, hp_isInN, hp_m1L, hp_l0, hp_l1, hp_l2, hp_l3, hp_l4, hp_l5, hp_l7, hp_l8, hp_l10, hp_l17, hp_l20, hp_l24, hp_l48, hp_l50, hp_l55, hp_l127, hp_lm1, hp_eqN, hp_ltN, hp_inN, hp_cl, if_pos, if_neg, if_true, if_false, Option.bind_some]
theorem hp_X_app (N : Nat) {T v : Nat} (hT : T < 40) (D : hy_M) (h : D 37 1 = nI T) : F_X6_append N (nI v) D = some (hy_w (hy_w D 38 T (nI v)) 37 1 (nI (T + 1))) := by
  rw [F_X6_append_eq]
  simp (disch := omega) only [hp_kN, nI_add, pk_mul, hp_isInN, hp_m1L, hp_l0, hp_l1, hp_l2, hp_l3, hp_l4, hp_l5, hp_l7, hp_l8, hp_l10, hp_l17, hp_l20, hp_l24, hp_l48, hp_l50, hp_l55, hp_l127, hp_lm1, hp_eqN, hp_ltN, hp_inN, hp_cl, if_pos, if_neg, if_true, if_false, Option.bind_some, h, hp_wn]
def hp_pick (a b c d i : Nat) : Nat := if i = 0 then a else if i = 1 then b else if i = 2 then c else d
def hp_fd (tp : Nat → Nat) (a b c d T j : Nat) : Nat := if j < T then tp j else hp_pick a b c d (j - T)
theorem hp_fd_w {D : hy_M} {r T i : Nat} {tp : Nat → Nat} {a b c d : Nat} (h : ∀ j, j < T + i → D r j = nI (hp_fd tp a b c d T j)) : ∀ j, j < T + (i + 1) → hy_w D r (T + i) (nI (hp_pick a b c d i)) r j = nI (hp_fd tp a b c d T j) := fun j hj => by
  rw [hp_w]
  by_cases e : j = T + i
  · subst e
    rw [if_pos ⟨rfl, rfl⟩]
    unfold hp_fd
    rw [if_neg (by omega), show T + i - T = i by omega]
  · rw [if_neg (fun q => e q.2)]
    exact h j (by omega)
theorem hp_fd_b {T k : Nat} {tp : Nat → Nat} {a b c d : Nat} (h : ∀ j, j < T → 1 ≤ tp j ∧ tp j ≤ 127) (ha : 1 ≤ a ∧ a ≤ 127) (hb : 1 ≤ b ∧ b ≤ 127) (hc : 1 ≤ c ∧ c ≤ 127) (hd : 1 ≤ d ∧ d ≤ 127) : ∀ j, j < T + k → 1 ≤ hp_fd tp a b c d T j ∧ hp_fd tp a b c d T j ≤ 127 := fun j hj => by
  unfold hp_fd
  by_cases e : j < T
  · rw [if_pos e]
    exact h j e
  · rw [if_neg e]
    unfold hp_pick
    split
    · exact ha
    · split
      · exact hb
      · split
        · exact hc
        · exact hd
theorem hp_f82_s (N n k i T a b c d : Nat) (D : hy_M) (hT : D 67 5 = nI T) (hk : k ≤ 4) (hi : i < k) (hTk : T + k ≤ 40) : F_X9_feed_82 N (n + 1) (nI k) (nI a) (nI b) (nI c) (nI d) (nI i) D = F_X9_feed_82 N n (nI k) (nI a) (nI b) (nI c) (nI d) (nI (i + 1)) (hy_w D 71 (T + i) (nI (hp_pick a b c d i))) := by
  rw [F_X9_feed_82_eq, hT]
  rcases (show i = 0 ∨ i = 1 ∨ i = 2 ∨ i = 3 by omega) with rfl | rfl | rfl | rfl
  · simp (disch := omega) only [hp_kN, nI_add, pk_mul, hp_isInN, hp_m1L, hp_l0, hp_l1, hp_l2, hp_l3, hp_l4, hp_l5, hp_l7, hp_l8, hp_l10, hp_l17, hp_l20, hp_l24, hp_l48, hp_l50, hp_l55, hp_l127, hp_lm1, hp_eqN, hp_ltN, hp_inN, hp_cl, if_pos, if_neg, if_true, if_false, Option.bind_some]
    rfl
  · simp (disch := omega) only [hp_kN, nI_add, pk_mul, hp_isInN, hp_m1L, hp_l0, hp_l1, hp_l2, hp_l3, hp_l4, hp_l5, hp_l7, hp_l8, hp_l10, hp_l17, hp_l20, hp_l24, hp_l48, hp_l50, hp_l55, hp_l127, hp_lm1, hp_eqN, hp_ltN, hp_inN, hp_cl, if_pos, if_neg, if_true, if_false, Option.bind_some]
    rfl
  · simp (disch := omega) only [hp_kN, nI_add, pk_mul, hp_isInN, hp_m1L, hp_l0, hp_l1, hp_l2, hp_l3, hp_l4, hp_l5, hp_l7, hp_l8, hp_l10, hp_l17, hp_l20, hp_l24, hp_l48, hp_l50, hp_l55, hp_l127, hp_lm1, hp_eqN, hp_ltN, hp_inN, hp_cl, if_pos, if_neg, if_true, if_false, Option.bind_some]
    rfl
  · simp (disch := omega) only [hp_kN, nI_add, pk_mul, hp_isInN, hp_m1L, hp_l0, hp_l1, hp_l2, hp_l3, hp_l4, hp_l5, hp_l7, hp_l8, hp_l10, hp_l17, hp_l20, hp_l24, hp_l48, hp_l50, hp_l55, hp_l127, hp_lm1, hp_eqN, hp_ltN, hp_inN, hp_cl, if_pos, if_neg, if_true, if_false, Option.bind_some]
    rfl
theorem hp_f82 (N k T a b c d : Nat) (tp : Nat → Nat) (hk : k ≤ 4) (hTk : T + k ≤ 40) : ∀ m i n D, i + m = k → m < n → D 67 5 = nI T → (∀ j, j < T + i → D 71 j = nI (hp_fd tp a b c d T j)) → ∃ D1, F_X9_feed_82 N n (nI k) (nI a) (nI b) (nI c) (nI d) (nI i) D = some (nI (T + k), D1) ∧ D1 67 5 = nI (T + k) ∧ (∀ j, j < T + k → D1 71 j = nI (hp_fd tp a b c d T j)) ∧ (∀ c, c ≠ 67 → c ≠ 71 → D1 c = D c) ∧ ∀ j, j ≠ 5 → D1 67 j = D 67 j := by
  intro m
  induction m with
  | zero =>
    intro i n D e hn hT hB
    obtain ⟨n, rfl⟩ : ∃ n', n = n' + 1 := ⟨n - 1, by omega⟩
    have e : i = k := by omega
    subst e
    refine ⟨hy_w D 67 5 (nI (T + i)), ?_, hp_ws _ _ _ _, fun j hj => ?_, fun c h1 h2 => hy_w_ne h1, fun j hj => hp_wn (Or.inr hj)⟩
    · rw [F_X9_feed_82_eq, hT]
      simp (disch := omega) only [hp_kN, nI_add, pk_mul, hp_isInN, hp_m1L, hp_l0, hp_l1, hp_l2, hp_l3, hp_l4, hp_l5, hp_l7, hp_l8, hp_l10, hp_l17, hp_l20, hp_l24, hp_l48, hp_l50, hp_l55, hp_l127, hp_lm1, hp_eqN, hp_ltN, hp_inN, hp_cl, if_pos, if_neg, if_true, if_false, Option.bind_some, hp_ws]
    · rw [hp_wn (Or.inl (by omega))]
      exact hB j hj
  | succ m ih =>
    intro i n D e hn hT hB
    obtain ⟨n, rfl⟩ : ∃ n', n = n' + 1 := ⟨n - 1, by omega⟩
    rw [hp_f82_s N n k i T a b c d D hT hk (by omega) hTk]
    obtain ⟨D1, e1, e2, e3, e4, e5⟩ := ih (i + 1) n (hy_w D 71 (T + i) (nI (hp_pick a b c d i))) (by omega) (by omega) (by rw [hp_wn (Or.inl (by omega))]; exact hT) (hp_fd_w hB)
    exact ⟨D1, e1, e2, e3, fun c h1 h2 => by rw [e4 c h1 h2, hy_w_ne h2], fun j hj => by rw [e5 j hj, hp_wn (Or.inl (by omega))]⟩
theorem hp_app_s (N T i : Nat) (tp : Nat → Nat) (a b c d : Nat) (D : hy_M) (hT : D 37 1 = nI (T + i)) (h40 : T + i < 40) (hB : ∀ j, j < T + i → D 38 j = nI (hp_fd tp a b c d T j)) : ∃ D1, F_X6_append N (nI (hp_pick a b c d i)) D = some D1 ∧ D1 37 1 = nI (T + (i + 1)) ∧ (∀ j, j < T + (i + 1) → D1 38 j = nI (hp_fd tp a b c d T j)) ∧ ∀ c, c ≠ 37 → c ≠ 38 → D1 c = D c := by
  refine ⟨_, hp_X_app N h40 D hT, hp_ws _ _ _ _, fun j hj => ?_, fun c h1 h2 => by rw [hy_w_ne h1, hy_w_ne h2]⟩
  rw [hp_wn (Or.inl (by omega))]
  exact hp_fd_w hB j hj
theorem st_feed (N : Nat) (hN : 10 ≤ N) (n a b c d : Int32) : hp_step (F_X8_feed N n a b c d) (F_X9_feed N n a b c d) := by
  rintro ⟨y, pu, yk, pk, fl, T, P, tp, pp, ls, lc⟩ ⟨hw, hw1⟩
  obtain ⟨w1, w2, w3, w4, w5, w6, w7⟩ := hw1
  obtain ⟨N, rfl⟩ : ∃ n, N = n + 10 := ⟨N - 10, by omega⟩
  have hn : (∀ D, F_X8_feed (N + 10) n a b c d D = some (-2, D) ∧ F_X9_feed (N + 10) n a b c d D = some (-2, D)) ∨ ∃ k, n = nI k ∧ 1 ≤ k ∧ k ≤ 4 := by
    rcases hp_arg n with ⟨a0, a1, a2⟩ | ⟨k, hk, rfl⟩
    · left
      intro D
      have v1' : n < nI 1 := by
        rw [Int32.lt_iff_toInt_lt]
        have : (nI 1).toInt = 1 := rfl
        omega
      refine ⟨?_, ?_⟩
      · rw [F_X8_feed_eq]
        simp (disch := omega) only [hp_kN, nI_add, pk_mul, hp_isInN, hp_m1L, hp_l0, hp_l1, hp_l2, hp_l3, hp_l4, hp_l5, hp_l7, hp_l8, hp_l10, hp_l17, hp_l20, hp_l24, hp_l48, hp_l50, hp_l55, hp_l127, hp_lm1, hp_eqN, hp_ltN, hp_inN, hp_cl, if_pos, if_neg, if_true, if_false, Option.bind_some, v1']
      · rw [F_X9_feed_eq]
        simp (disch := omega) only [hp_kN, nI_add, pk_mul, hp_isInN, hp_m1L, hp_l0, hp_l1, hp_l2, hp_l3, hp_l4, hp_l5, hp_l7, hp_l8, hp_l10, hp_l17, hp_l20, hp_l24, hp_l48, hp_l50, hp_l55, hp_l127, hp_lm1, hp_eqN, hp_ltN, hp_inN, hp_cl, if_pos, if_neg, if_true, if_false, Option.bind_some, hp_isIng (N + 10) a2 1 _ (by decide)]
    · by_cases c : 1 ≤ k ∧ k ≤ 4
      · right
        exact ⟨k, rfl, c⟩
      · left
        intro D
        refine ⟨?_, ?_⟩
        · rw [F_X8_feed_eq]
          by_cases c1 : k < 1
          · simp (disch := omega) only [hp_kN, nI_add, pk_mul, hp_isInN, hp_m1L, hp_l0, hp_l1, hp_l2, hp_l3, hp_l4, hp_l5, hp_l7, hp_l8, hp_l10, hp_l17, hp_l20, hp_l24, hp_l48, hp_l50, hp_l55, hp_l127, hp_lm1, hp_eqN, hp_ltN, hp_inN, hp_cl, if_pos, if_neg, if_true, if_false, Option.bind_some]
          · simp (disch := omega) only [hp_kN, nI_add, pk_mul, hp_isInN, hp_m1L, hp_l0, hp_l1, hp_l2, hp_l3, hp_l4, hp_l5, hp_l7, hp_l8, hp_l10, hp_l17, hp_l20, hp_l24, hp_l48, hp_l50, hp_l55, hp_l127, hp_lm1, hp_eqN, hp_ltN, hp_inN, hp_cl, if_pos, if_neg, if_true, if_false, Option.bind_some]
        · rw [F_X9_feed_eq]
          simp (disch := omega) only [hp_kN, nI_add, pk_mul, hp_isInN, hp_m1L, hp_l0, hp_l1, hp_l2, hp_l3, hp_l4, hp_l5, hp_l7, hp_l8, hp_l10, hp_l17, hp_l20, hp_l24, hp_l48, hp_l50, hp_l55, hp_l127, hp_lm1, hp_eqN, hp_ltN, hp_inN, hp_cl, if_pos, if_neg, if_true, if_false, Option.bind_some]
  rcases hn with hn | ⟨k, rfl, hk⟩
  · exact ⟨-2, _, ⟨hw, ⟨w1, w2, w3, w4, w5, w6, w7⟩⟩, hp_qx0 fun D hX => (hn D).1, hp_qm0 fun D hR => (hn D).2⟩
  rcases hp_tk a with ta | ⟨a, rfl, ha1, ha2, ta⟩
  · refine ⟨-2, _, ⟨hw, ⟨w1, w2, w3, w4, w5, w6, w7⟩⟩, hp_qx0 fun D hX => ?_, hp_qm0 fun D hR => ?_⟩
    · rw [F_X8_feed_eq]
      simp (disch := omega) only [hp_kN, nI_add, pk_mul, hp_isInN, hp_m1L, hp_l0, hp_l1, hp_l2, hp_l3, hp_l4, hp_l5, hp_l7, hp_l8, hp_l10, hp_l17, hp_l20, hp_l24, hp_l48, hp_l50, hp_l55, hp_l127, hp_lm1, hp_eqN, hp_ltN, hp_inN, hp_cl, if_pos, if_neg, if_true, if_false, Option.bind_some, (ta _ _).1]
    · rw [F_X9_feed_eq]
      simp (disch := omega) only [hp_kN, nI_add, pk_mul, hp_isInN, hp_m1L, hp_l0, hp_l1, hp_l2, hp_l3, hp_l4, hp_l5, hp_l7, hp_l8, hp_l10, hp_l17, hp_l20, hp_l24, hp_l48, hp_l50, hp_l55, hp_l127, hp_lm1, hp_eqN, hp_ltN, hp_inN, hp_cl, if_pos, if_neg, if_true, if_false, Option.bind_some, (ta _ _).2]
  rcases hp_tk b with tb | ⟨b, rfl, hb1, hb2, tb⟩
  · refine ⟨-2, _, ⟨hw, ⟨w1, w2, w3, w4, w5, w6, w7⟩⟩, hp_qx0 fun D hX => ?_, hp_qm0 fun D hR => ?_⟩
    · rw [F_X8_feed_eq]
      simp (disch := omega) only [hp_kN, nI_add, pk_mul, hp_isInN, hp_m1L, hp_l0, hp_l1, hp_l2, hp_l3, hp_l4, hp_l5, hp_l7, hp_l8, hp_l10, hp_l17, hp_l20, hp_l24, hp_l48, hp_l50, hp_l55, hp_l127, hp_lm1, hp_eqN, hp_ltN, hp_inN, hp_cl, if_pos, if_neg, if_true, if_false, Option.bind_some, (ta _ _).1, (tb _ _).1]
    · rw [F_X9_feed_eq]
      simp (disch := omega) only [hp_kN, nI_add, pk_mul, hp_isInN, hp_m1L, hp_l0, hp_l1, hp_l2, hp_l3, hp_l4, hp_l5, hp_l7, hp_l8, hp_l10, hp_l17, hp_l20, hp_l24, hp_l48, hp_l50, hp_l55, hp_l127, hp_lm1, hp_eqN, hp_ltN, hp_inN, hp_cl, if_pos, if_neg, if_true, if_false, Option.bind_some, (ta _ _).2, (tb _ _).2]
  rcases hp_tk c with tc | ⟨c, rfl, hc1, hc2, tc⟩
  · refine ⟨-2, _, ⟨hw, ⟨w1, w2, w3, w4, w5, w6, w7⟩⟩, hp_qx0 fun D hX => ?_, hp_qm0 fun D hR => ?_⟩
    · rw [F_X8_feed_eq]
      simp (disch := omega) only [hp_kN, nI_add, pk_mul, hp_isInN, hp_m1L, hp_l0, hp_l1, hp_l2, hp_l3, hp_l4, hp_l5, hp_l7, hp_l8, hp_l10, hp_l17, hp_l20, hp_l24, hp_l48, hp_l50, hp_l55, hp_l127, hp_lm1, hp_eqN, hp_ltN, hp_inN, hp_cl, if_pos, if_neg, if_true, if_false, Option.bind_some, (ta _ _).1, (tb _ _).1, (tc _ _).1]
    · rw [F_X9_feed_eq]
      simp (disch := omega) only [hp_kN, nI_add, pk_mul, hp_isInN, hp_m1L, hp_l0, hp_l1, hp_l2, hp_l3, hp_l4, hp_l5, hp_l7, hp_l8, hp_l10, hp_l17, hp_l20, hp_l24, hp_l48, hp_l50, hp_l55, hp_l127, hp_lm1, hp_eqN, hp_ltN, hp_inN, hp_cl, if_pos, if_neg, if_true, if_false, Option.bind_some, (ta _ _).2, (tb _ _).2, (tc _ _).2]
  rcases hp_tk d with td | ⟨d, rfl, hd1, hd2, td⟩
  · refine ⟨-2, _, ⟨hw, ⟨w1, w2, w3, w4, w5, w6, w7⟩⟩, hp_qx0 fun D hX => ?_, hp_qm0 fun D hR => ?_⟩
    · rw [F_X8_feed_eq]
      simp (disch := omega) only [hp_kN, nI_add, pk_mul, hp_isInN, hp_m1L, hp_l0, hp_l1, hp_l2, hp_l3, hp_l4, hp_l5, hp_l7, hp_l8, hp_l10, hp_l17, hp_l20, hp_l24, hp_l48, hp_l50, hp_l55, hp_l127, hp_lm1, hp_eqN, hp_ltN, hp_inN, hp_cl, if_pos, if_neg, if_true, if_false, Option.bind_some, (ta _ _).1, (tb _ _).1, (tc _ _).1, (td _ _).1]
    · rw [F_X9_feed_eq]
      simp (disch := omega) only [hp_kN, nI_add, pk_mul, hp_isInN, hp_m1L, hp_l0, hp_l1, hp_l2, hp_l3, hp_l4, hp_l5, hp_l7, hp_l8, hp_l10, hp_l17, hp_l20, hp_l24, hp_l48, hp_l50, hp_l55, hp_l127, hp_lm1, hp_eqN, hp_ltN, hp_inN, hp_cl, if_pos, if_neg, if_true, if_false, Option.bind_some, (ta _ _).2, (tb _ _).2, (tc _ _).2, (td _ _).2]
  by_cases cf : 40 < T + k
  · refine ⟨-4, _, ⟨hw, ⟨w1, w2, w3, w4, w5, w6, w7⟩⟩, hp_qx0 fun D hX => ?_, hp_qm0 fun D hR => ?_⟩
    · have hT : D 37 1 = nI T := hX.2.2.2.1
      rw [F_X8_feed_eq]
      simp (disch := omega) only [hp_kN, nI_add, pk_mul, hp_isInN, hp_m1L, hp_l0, hp_l1, hp_l2, hp_l3, hp_l4, hp_l5, hp_l7, hp_l8, hp_l10, hp_l17, hp_l20, hp_l24, hp_l48, hp_l50, hp_l55, hp_l127, hp_lm1, hp_eqN, hp_ltN, hp_inN, hp_cl, if_pos, if_neg, if_true, if_false, Option.bind_some, (ta _ _).1, (tb _ _).1, (tc _ _).1, (td _ _).1, hT]
    · have hT : D 67 5 = nI T := hR.2.2.2.1
      rw [F_X9_feed_eq]
      simp (disch := omega) only [hp_kN, nI_add, pk_mul, hp_isInN, hp_m1L, hp_l0, hp_l1, hp_l2, hp_l3, hp_l4, hp_l5, hp_l7, hp_l8, hp_l10, hp_l17, hp_l20, hp_l24, hp_l48, hp_l50, hp_l55, hp_l127, hp_lm1, hp_eqN, hp_ltN, hp_inN, hp_cl, if_pos, if_neg, if_true, if_false, Option.bind_some, (ta _ _).2, (tb _ _).2, (tc _ _).2, (td _ _).2, hT]
  refine ⟨nI (T + k), (y, pu, yk, pk, fl, T + k, P, hp_fd tp a b c d T, pp, ls, lc), ⟨hw, ⟨w1, w2, by omega, hp_fd_b w4 ⟨ha1, ha2⟩ ⟨hb1, hb2⟩ ⟨hc1, hc2⟩ ⟨hd1, hd2⟩, w5, w6, w7⟩⟩, fun D hX => ?_, fun D hR => ?_⟩
  · have hT : D 37 1 = nI (T + 0) := hX.2.2.2.1
    have hB : ∀ j, j < T + 0 → D 38 j = nI (hp_fd tp a b c d T j) := fun j hj => by
      unfold hp_fd
      rw [if_pos (show j < T from hj)]
      exact hX.2.2.2.2.1 j hj
    have hT0 : D 37 1 = nI T := hT
    have key : ∃ D1, F_X8_feed (N + 10) (nI k) (nI a) (nI b) (nI c) (nI d) D = some (nI (T + k), D1) ∧ D1 37 1 = nI (T + k) ∧ (∀ j, j < T + k → D1 38 j = nI (hp_fd tp a b c d T j)) ∧ ∀ c, c ≠ 37 → c ≠ 38 → D1 c = D c := by
      obtain ⟨D1, e1, hT1, hB1, f1⟩ := hp_app_s (N + 10) T 0 tp a b c d D hT (by omega) hB
      have e1' : F_X6_append (N + 10) (nI a) D = some D1 := e1
      rcases (show k = 1 ∨ 1 < k by omega) with rfl | k1
      · refine ⟨D1, ?_, hT1, hB1, f1⟩
        rw [F_X8_feed_eq]
        simp (disch := omega) only [hp_kN, nI_add, pk_mul, hp_isInN, hp_m1L, hp_l0, hp_l1, hp_l2, hp_l3, hp_l4, hp_l5, hp_l7, hp_l8, hp_l10, hp_l17, hp_l20, hp_l24, hp_l48, hp_l50, hp_l55, hp_l127, hp_lm1, hp_eqN, hp_ltN, hp_inN, hp_cl, if_pos, if_neg, if_true, if_false, Option.bind_some, (ta _ _).1, (tb _ _).1, (tc _ _).1, (td _ _).1, hT0, e1', F_X8_feed_81_eq, F_X8_feed_95_eq, hT1, Nat.zero_add]
      · obtain ⟨D2, e2, hT2, hB2, f2⟩ := hp_app_s (N + 10) T 1 tp a b c d D1 hT1 (by omega) hB1
        have e2' : F_X6_append (N + 10) (nI b) D1 = some D2 := e2
        rcases (show k = 2 ∨ 2 < k by omega) with rfl | k2
        · refine ⟨D2, ?_, hT2, hB2, fun c h1 h2 => by rw [f2 c h1 h2, f1 c h1 h2]⟩
          rw [F_X8_feed_eq]
          simp (disch := omega) only [hp_kN, nI_add, pk_mul, hp_isInN, hp_m1L, hp_l0, hp_l1, hp_l2, hp_l3, hp_l4, hp_l5, hp_l7, hp_l8, hp_l10, hp_l17, hp_l20, hp_l24, hp_l48, hp_l50, hp_l55, hp_l127, hp_lm1, hp_eqN, hp_ltN, hp_inN, hp_cl, if_pos, if_neg, if_true, if_false, Option.bind_some, (ta _ _).1, (tb _ _).1, (tc _ _).1, (td _ _).1, hT0, e1', e2', F_X8_feed_81_eq, F_X8_feed_95_eq, hT2, Nat.reduceAdd]
        · obtain ⟨D3, e3, hT3, hB3, f3⟩ := hp_app_s (N + 10) T 2 tp a b c d D2 hT2 (by omega) hB2
          have e3' : F_X6_append (N + 10) (nI c) D2 = some D3 := e3
          rcases (show k = 3 ∨ k = 4 by omega) with rfl | rfl
          · refine ⟨D3, ?_, hT3, hB3, fun c h1 h2 => by rw [f3 c h1 h2, f2 c h1 h2, f1 c h1 h2]⟩
            rw [F_X8_feed_eq]
            simp (disch := omega) only [hp_kN, nI_add, pk_mul, hp_isInN, hp_m1L, hp_l0, hp_l1, hp_l2, hp_l3, hp_l4, hp_l5, hp_l7, hp_l8, hp_l10, hp_l17, hp_l20, hp_l24, hp_l48, hp_l50, hp_l55, hp_l127, hp_lm1, hp_eqN, hp_ltN, hp_inN, hp_cl, if_pos, if_neg, if_true, if_false, Option.bind_some, (ta _ _).1, (tb _ _).1, (tc _ _).1, (td _ _).1, hT0, e1', e2', e3', F_X8_feed_81_eq, F_X8_feed_95_eq, hT3, Nat.reduceAdd]
          · obtain ⟨D4, e4, hT4, hB4, f4⟩ := hp_app_s (N + 10) T 3 tp a b c d D3 hT3 (by omega) hB3
            have e4' : F_X6_append (N + 10) (nI d) D3 = some D4 := e4
            refine ⟨D4, ?_, hT4, hB4, fun c h1 h2 => by rw [f4 c h1 h2, f3 c h1 h2, f2 c h1 h2, f1 c h1 h2]⟩
            rw [F_X8_feed_eq]
            simp (disch := omega) only [hp_kN, nI_add, pk_mul, hp_isInN, hp_m1L, hp_l0, hp_l1, hp_l2, hp_l3, hp_l4, hp_l5, hp_l7, hp_l8, hp_l10, hp_l17, hp_l20, hp_l24, hp_l48, hp_l50, hp_l55, hp_l127, hp_lm1, hp_eqN, hp_ltN, hp_inN, hp_cl, if_pos, if_neg, if_true, if_false, Option.bind_some, (ta _ _).1, (tb _ _).1, (tc _ _).1, (td _ _).1, hT0, e1', e2', e3', e4', F_X8_feed_81_eq, F_X8_feed_95_eq, hT4, Nat.reduceAdd]
    obtain ⟨D1, e1, hT1, hB1, f1⟩ := key
    exact ⟨D1, e1, ⟨hp_CY_fr hX.1 (fun c a b => f1 c (by omega) (by omega)), hp_C1_tape hX.2 (fun c a => f1 c (by omega) (by omega)) hT1 hB1⟩, fun c a b => f1 c (by omega) (by omega)⟩
  · have hT : D 67 5 = nI T := hR.2.2.2.1
    have hB : ∀ j, j < T + 0 → D 71 j = nI (hp_fd tp a b c d T j) := fun j hj => by
      unfold hp_fd
      rw [if_pos (show j < T from hj)]
      exact hR.2.2.2.2.1 j hj
    obtain ⟨D1, e1, hT1, hB1, f1, f2⟩ := hp_f82 (N + 10) k T a b c d tp (by omega) (by omega) k 0 (N + 10) D (by omega) (by omega) hT hB
    refine ⟨D1, ?_, ⟨hp_MY_fr hR.1 (f1 68 (by omega) (by omega)), hp_M1_tape hR.2 (fun c a => f1 c (by omega) (by omega)) (fun j a => f2 j (by omega)) hT1 hB1⟩, fun c a => f1 c (by omega) (by omega)⟩
    rw [F_X9_feed_eq]
    simp (disch := omega) only [hp_kN, nI_add, pk_mul, hp_isInN, hp_m1L, hp_l0, hp_l1, hp_l2, hp_l3, hp_l4, hp_l5, hp_l7, hp_l8, hp_l10, hp_l17, hp_l20, hp_l24, hp_l48, hp_l50, hp_l55, hp_l127, hp_lm1, hp_eqN, hp_ltN, hp_inN, hp_cl, if_pos, if_neg, if_true, if_false, Option.bind_some, (ta _ _).2, (tb _ _).2, (tc _ _).2, (td _ _).2, hT]
    exact e1
