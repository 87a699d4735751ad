/-! ===== wagon, presort ===== -/
theorem hp_n5 {k : Nat} (h : k < 2147483648) : (nI k = -nI 1) = False := eq_false (hp_nI_neg h)
theorem hp_few8_t : ((List.range 4).all fun b => (List.range 9).all fun n => !(decide (hp_few b n ≤ 3)) || (List.range 8).all fun r => !(decide (r < n)) || decide (hp_cor b r < 8)) = true := by decide +kernel
theorem hp_few8 {b n r : Nat} (hb : b < 4) (hn : n ≤ 8) (h3 : hp_few b n ≤ 3) (hr : r < n) : hp_cor b r < 8 := by
  have h := hp_all1 (hp_all1 hp_few8_t hb) (show n < 9 by omega)
  simp only [h3, decide_true, Bool.not_true, Bool.false_or] at h
  have h2 := hp_all1 h (show r < 8 by omega)
  simpa [hr] using h2
theorem hp_chn_mono (y : Nat → Nat → Nat) (num : Nat → Nat) (t a b : Nat) (h : a ≤ b) : hp_chn y num t a ≤ hp_chn y num t b := by
  induction b with
  | zero =>
    have : a = 0 := by omega
    subst this
    exact Nat.le_refl _
  | succ b ih =>
    by_cases c : a = b + 1
    · subst c
      exact Nat.le_refl _
    · have := ih (by omega)
      show hp_chn y num t a ≤ hp_chn y num t b + hp_cut y num t b
      omega
theorem hp_ch_need {y : Nat → Nat → Nat} (hw : hp_WF y) {w : Nat} (h : w < y 0 0) : hp_ch y w < hp_need y fun j => j := by
  have w8 : w < 8 := by have := hw.1; omega
  have ht := (hw.2.2.2.1 w w8).2.2
  have hp := hw.2.2.2.2.2.2.2.1 w h
  have hc : hp_ch y w < hp_chs y (fun j => j) (y 3 w) := by
    unfold hp_ch hp_chs
    rw [if_neg (by omega)]
    have := hp_chn_mono y (fun j => j) (y 3 w) (y 4 w) (y 8 (y 3 w) - 1) (by omega)
    omega
  have : hp_chs y (fun j => j) (y 3 w) ≤ hp_need y fun j => j := by
    unfold hp_need
    rcases (show y 3 w = 0 ∨ y 3 w = 1 by omega) with e | e
    · rw [e]
      split <;> omega
    · rw [e]
      split <;> omega
  omega
theorem hp_psX (N : Nat) (hN : 1000 ≤ N) {y : Nat → Nat → Nat} (hw : hp_WF y) {D : hy_M} (x01 : D 1 1 = nI (y 0 1)) (x6 : ∀ t, t < 2 → ∀ j, j < 8 → D (7 + t) j = nI (y (6 + t) j)) (x3 : ∀ j, j < 8 → D 4 j = nI (y 3 j)) (x4 : ∀ j, j < 8 → D 5 j = nI (y 4 j)) (hn : ∀ j, j < 8 → D 1000 j = nI j) {w : Nat} (h : w < y 0 0) : F_X8_presortedCode N (nI w) D = some (nI (hp_cor (y 0 1) (hp_ch y w)), D) := by
  have k1 := hp_chwX N (by omega) hw x6 x3 x4 hn h
  have k2 := hp_corX N (by omega) hw.2.1 (hp_ch_lt hw h) D
  rw [F_X8_presortedCode_eq, x01]
  simp (disch := omega) only [hp_kN, nI_add, pk_mul, hp_isInN, hp_m1L, hp_l0, hp_l1, hp_l2, hp_l3, hp_l4, hp_l5, hp_l7, hp_l8, hp_l10, hp_l17, hp_l20, hp_l24, hp_l48, hp_l50, hp_l55, hp_l127, hp_lm1, hp_eqN, hp_ltN, hp_inN, hp_cl, if_pos, if_neg, if_true, if_false, Option.bind_some, k1, k2]
theorem st_wagon (N : Nat) (hN : 1000 ≤ N) (a v : Int32) : hp_step (F_X8_wagon N a v) (F_X9_wagon N a v) := by
  rintro ⟨y, pu, yk, pk, fl, T, P, tp, pp, ls, lc⟩ ⟨hw, hw1⟩
  obtain ⟨b0, b1, b2, b8, b17, b9⟩ := hp_Wb hw
  rcases hp_arg a with ⟨a0, a1, a2⟩ | ⟨k, hk, rfl⟩
  · refine ⟨-1, _, ⟨hw, hw1⟩, hp_qx0 fun D hX => ?_, hp_qm0 fun D hR => ?_⟩
    · rw [F_X8_wagon_eq, hp_X_hasWagong N a0]
      rfl
    · rw [F_X9_wagon_eq, hp_M_isWagong N a2]
      rfl
  by_cases c : k < y 0 0
  case neg =>
    refine ⟨-1, _, ⟨hw, hw1⟩, hp_qx0 fun D hX => ?_, hp_qm0 fun D hR => ?_⟩
    · obtain ⟨x00, x01, x02, x03, x1, x2, x3, x4, x6, x8, x9, x12, x17⟩ := hp_Xf hw hX.1
      rw [F_X8_wagon_eq, hp_X_hasWagon N hk b0 D x00, if_neg c]
      rfl
    · obtain ⟨m00, m01, m02, m03, m4, m12, m20, m30, m28, m46, m70, m51, m67, m49⟩ := hp_Mf hw hR.1
      rw [F_X9_wagon_eq, hp_M_isWagon N hk b0 D m00, if_neg c]
      rfl
  have hp := hw.2.2.2.2.2.2.2.1 k c
  have hcode := (hw.2.2.2.1 k (by omega)).2.1
  rcases hp_arg8 v with rfl | rfl | rfl | rfl | rfl | rfl | rfl | rfl | ⟨h0, h1, h2, h3, h4, h5, h6, h7⟩
  · refine ⟨nI (y 1 k), _, ⟨hw, hw1⟩, hp_qx0 fun D hX => ?_, hp_qm0 fun D hR => ?_⟩
    · obtain ⟨x00, x01, x02, x03, x1, x2, x3, x4, x6, x8, x9, x12, x17⟩ := hp_Xf hw hX.1
      rw [F_X8_wagon_eq]
      simp (disch := omega) only [hp_kN, nI_add, pk_mul, hp_isInN, hp_m1L, hp_l0, hp_l1, hp_l2, hp_l3, hp_l4, hp_l5, hp_l7, hp_l8, hp_l10, hp_l17, hp_l20, hp_l24, hp_l48, hp_l50, hp_l55, hp_l127, hp_lm1, hp_eqN, hp_ltN, hp_inN, hp_cl, if_pos, if_neg, if_true, if_false, Option.bind_some, hp_X_hasWagon N hk b0 D x00, x1]
    · obtain ⟨m00, m01, m02, m03, m4, m12, m20, m30, m28, m46, m70, m51, m67, m49⟩ := hp_Mf hw hR.1
      rw [F_X9_wagon_eq]
      simp (disch := omega) only [hp_kN, nI_add, pk_mul, hp_isInN, hp_m1L, hp_l0, hp_l1, hp_l2, hp_l3, hp_l4, hp_l5, hp_l7, hp_l8, hp_l10, hp_l17, hp_l20, hp_l24, hp_l48, hp_l50, hp_l55, hp_l127, hp_lm1, hp_eqN, hp_ltN, hp_inN, hp_cl, if_pos, if_neg, if_true, if_false, Option.bind_some, hp_M_isWagon N hk b0 D m00, m4]
  · refine ⟨nI (y 2 k), _, ⟨hw, hw1⟩, hp_qx0 fun D hX => ?_, hp_qm0 fun D hR => ?_⟩
    · obtain ⟨x00, x01, x02, x03, x1, x2, x3, x4, x6, x8, x9, x12, x17⟩ := hp_Xf hw hX.1
      rw [F_X8_wagon_eq]
      simp (disch := omega) only [hp_kN, nI_add, pk_mul, hp_isInN, hp_m1L, hp_l0, hp_l1, hp_l2, hp_l3, hp_l4, hp_l5, hp_l7, hp_l8, hp_l10, hp_l17, hp_l20, hp_l24, hp_l48, hp_l50, hp_l55, hp_l127, hp_lm1, hp_eqN, hp_ltN, hp_inN, hp_cl, if_pos, if_neg, if_true, if_false, Option.bind_some, hp_X_hasWagon N hk b0 D x00, x2]
    · obtain ⟨m00, m01, m02, m03, m4, m12, m20, m30, m28, m46, m70, m51, m67, m49⟩ := hp_Mf hw hR.1
      rw [F_X9_wagon_eq]
      simp (disch := omega) only [hp_kN, nI_add, pk_mul, hp_isInN, hp_m1L, hp_l0, hp_l1, hp_l2, hp_l3, hp_l4, hp_l5, hp_l7, hp_l8, hp_l10, hp_l17, hp_l20, hp_l24, hp_l48, hp_l50, hp_l55, hp_l127, hp_lm1, hp_eqN, hp_ltN, hp_inN, hp_cl, if_pos, if_neg, if_true, if_false, Option.bind_some, hp_M_isWagon N hk b0 D m00, m12]
  · refine ⟨nI (y 3 k), _, ⟨hw, hw1⟩, hp_qx0 fun D hX => ?_, hp_qm0 fun D hR => ?_⟩
    · obtain ⟨x00, x01, x02, x03, x1, x2, x3, x4, x6, x8, x9, x12, x17⟩ := hp_Xf hw hX.1
      rw [F_X8_wagon_eq]
      simp (disch := omega) only [hp_kN, nI_add, pk_mul, hp_isInN, hp_m1L, hp_l0, hp_l1, hp_l2, hp_l3, hp_l4, hp_l5, hp_l7, hp_l8, hp_l10, hp_l17, hp_l20, hp_l24, hp_l48, hp_l50, hp_l55, hp_l127, hp_lm1, hp_eqN, hp_ltN, hp_inN, hp_cl, if_pos, if_neg, if_true, if_false, Option.bind_some, hp_X_hasWagon N hk b0 D x00, x3]
    · obtain ⟨m00, m01, m02, m03, m4, m12, m20, m30, m28, m46, m70, m51, m67, m49⟩ := hp_Mf hw hR.1
      rw [F_X9_wagon_eq]
      simp (disch := omega) only [hp_kN, nI_add, pk_mul, hp_isInN, hp_m1L, hp_l0, hp_l1, hp_l2, hp_l3, hp_l4, hp_l5, hp_l7, hp_l8, hp_l10, hp_l17, hp_l20, hp_l24, hp_l48, hp_l50, hp_l55, hp_l127, hp_lm1, hp_eqN, hp_ltN, hp_inN, hp_cl, if_pos, if_neg, if_true, if_false, Option.bind_some, hp_M_isWagon N hk b0 D m00, m20]
  · refine ⟨nI (y 4 k), _, ⟨hw, hw1⟩, hp_qx0 fun D hX => ?_, hp_qm0 fun D hR => ?_⟩
    · obtain ⟨x00, x01, x02, x03, x1, x2, x3, x4, x6, x8, x9, x12, x17⟩ := hp_Xf hw hX.1
      rw [F_X8_wagon_eq]
      simp (disch := omega) only [hp_kN, nI_add, pk_mul, hp_isInN, hp_m1L, hp_l0, hp_l1, hp_l2, hp_l3, hp_l4, hp_l5, hp_l7, hp_l8, hp_l10, hp_l17, hp_l20, hp_l24, hp_l48, hp_l50, hp_l55, hp_l127, hp_lm1, hp_eqN, hp_ltN, hp_inN, hp_cl, if_pos, if_neg, if_true, if_false, Option.bind_some, hp_X_hasWagon N hk b0 D x00, x4]
    · obtain ⟨m00, m01, m02, m03, m4, m12, m20, m30, m28, m46, m70, m51, m67, m49⟩ := hp_Mf hw hR.1
      have k1 := hp_plM N (by omega) hw m30 m20 c
      rw [F_X9_wagon_eq]
      simp (disch := omega) only [hp_kN, nI_add, pk_mul, hp_isInN, hp_m1L, hp_l0, hp_l1, hp_l2, hp_l3, hp_l4, hp_l5, hp_l7, hp_l8, hp_l10, hp_l17, hp_l20, hp_l24, hp_l48, hp_l50, hp_l55, hp_l127, hp_lm1, hp_eqN, hp_ltN, hp_inN, hp_cl, if_pos, if_neg, if_true, if_false, Option.bind_some, hp_M_isWagon N hk b0 D m00, k1]
  · refine ⟨nI (hp_ch y k), _, ⟨hw, hw1⟩, hp_qx0 fun D hX => ?_, hp_qm0 fun D hR => ?_⟩
    · obtain ⟨x00, x01, x02, x03, x1, x2, x3, x4, x6, x8, x9, x12, x17⟩ := hp_Xf hw hX.1
      have k1 := hp_chwX N (by omega) hw x6 x3 x4 (hp_X1000 hX) c
      rw [F_X8_wagon_eq]
      simp (disch := omega) only [hp_kN, nI_add, pk_mul, hp_isInN, hp_m1L, hp_l0, hp_l1, hp_l2, hp_l3, hp_l4, hp_l5, hp_l7, hp_l8, hp_l10, hp_l17, hp_l20, hp_l24, hp_l48, hp_l50, hp_l55, hp_l127, hp_lm1, hp_eqN, hp_ltN, hp_inN, hp_cl, if_pos, if_neg, if_true, if_false, Option.bind_some, hp_X_hasWagon N hk b0 D x00, k1]
    · obtain ⟨m00, m01, m02, m03, m4, m12, m20, m30, m28, m46, m70, m51, m67, m49⟩ := hp_Mf hw hR.1
      have k1 := hp_chwM N (by omega) hw m30 m20 c
      rw [F_X9_wagon_eq]
      simp (disch := omega) only [hp_kN, nI_add, pk_mul, hp_isInN, hp_m1L, hp_l0, hp_l1, hp_l2, hp_l3, hp_l4, hp_l5, hp_l7, hp_l8, hp_l10, hp_l17, hp_l20, hp_l24, hp_l48, hp_l50, hp_l55, hp_l127, hp_lm1, hp_eqN, hp_ltN, hp_inN, hp_cl, if_pos, if_neg, if_true, if_false, Option.bind_some, hp_M_isWagon N hk b0 D m00, k1]
  · obtain ⟨r, r1, r2⟩ := hp_wa N (by omega) (pu := pu) (yk := yk) (pk := pk) (fl := fl) (T := T) (P := P) (tp := tp) (pp := pp) (ls := ls) (lc := lc) hw c
    refine ⟨r, _, ⟨hw, hw1⟩, hp_qx0 fun D hX => ?_, hp_qm0 fun D hR => ?_⟩
    · have k1 := r1 D hX
      obtain ⟨x00, x01, x02, x03, x1, x2, x3, x4, x6, x8, x9, x12, x17⟩ := hp_Xf hw hX.1
      clear r1 r2
      rw [F_X8_wagon_eq]
      simp (disch := omega) only [hp_kN, nI_add, pk_mul, hp_isInN, hp_m1L, hp_l0, hp_l1, hp_l2, hp_l3, hp_l4, hp_l5, hp_l7, hp_l8, hp_l10, hp_l17, hp_l20, hp_l24, hp_l48, hp_l50, hp_l55, hp_l127, hp_lm1, hp_eqN, hp_ltN, hp_inN, hp_cl, if_pos, if_neg, if_true, if_false, Option.bind_some, hp_X_hasWagon N hk b0 D x00, k1]
    · have k1 := r2 D hR
      obtain ⟨m00, m01, m02, m03, m4, m12, m20, m30, m28, m46, m70, m51, m67, m49⟩ := hp_Mf hw hR.1
      clear r1 r2
      rw [F_X9_wagon_eq]
      simp (disch := omega) only [hp_kN, nI_add, pk_mul, hp_isInN, hp_m1L, hp_l0, hp_l1, hp_l2, hp_l3, hp_l4, hp_l5, hp_l7, hp_l8, hp_l10, hp_l17, hp_l20, hp_l24, hp_l48, hp_l50, hp_l55, hp_l127, hp_lm1, hp_eqN, hp_ltN, hp_inN, hp_cl, if_pos, if_neg, if_true, if_false, Option.bind_some, hp_M_isWagon N hk b0 D m00, k1]
  · refine ⟨nI (hp_pc (y 2 k)), _, ⟨hw, hw1⟩, hp_qx0 fun D hX => ?_, hp_qm0 fun D hR => ?_⟩
    · obtain ⟨x00, x01, x02, x03, x1, x2, x3, x4, x6, x8, x9, x12, x17⟩ := hp_Xf hw hX.1
      rw [F_X8_wagon_eq]
      simp (disch := omega) only [hp_kN, nI_add, pk_mul, hp_isInN, hp_m1L, hp_l0, hp_l1, hp_l2, hp_l3, hp_l4, hp_l5, hp_l7, hp_l8, hp_l10, hp_l17, hp_l20, hp_l24, hp_l48, hp_l50, hp_l55, hp_l127, hp_lm1, hp_eqN, hp_ltN, hp_inN, hp_cl, if_pos, if_neg, if_true, if_false, Option.bind_some, hp_X_hasWagon N hk b0 D x00, x2, hp_bc]
    · obtain ⟨m00, m01, m02, m03, m4, m12, m20, m30, m28, m46, m70, m51, m67, m49⟩ := hp_Mf hw hR.1
      rw [F_X9_wagon_eq]
      simp (disch := omega) only [hp_kN, nI_add, pk_mul, hp_isInN, hp_m1L, hp_l0, hp_l1, hp_l2, hp_l3, hp_l4, hp_l5, hp_l7, hp_l8, hp_l10, hp_l17, hp_l20, hp_l24, hp_l48, hp_l50, hp_l55, hp_l127, hp_lm1, hp_eqN, hp_ltN, hp_inN, hp_cl, if_pos, if_neg, if_true, if_false, Option.bind_some, hp_M_isWagon N hk b0 D m00, m12, hp_on]
  · have hf8 := (hp_few_f hw.2.1 (hp_need_le (fun j => j) hw)).1
    have hf8' : hp_fn y < 8 := hf8
    by_cases c3 : 3 < hp_fn y
    · refine ⟨-5, _, ⟨hw, hw1⟩, hp_qx0 fun D hX => ?_, hp_qm fun D hR => ?_⟩
      · have k1 := hp_fnX N hN hw hX
        obtain ⟨x00, x01, x02, x03, x1, x2, x3, x4, x6, x8, x9, x12, x17⟩ := hp_Xf hw hX.1
        rw [F_X8_wagon_eq]
        simp (disch := omega) only [hp_kN, nI_add, pk_mul, hp_isInN, hp_m1L, hp_l0, hp_l1, hp_l2, hp_l3, hp_l4, hp_l5, hp_l7, hp_l8, hp_l10, hp_l17, hp_l20, hp_l24, hp_l48, hp_l50, hp_l55, hp_l127, hp_lm1, hp_eqN, hp_ltN, hp_inN, hp_cl, if_pos, if_neg, if_true, if_false, Option.bind_some, hp_X_hasWagon N hk b0 D x00, k1]
      · obtain ⟨D1, e1, f1⟩ := hp_fnM N hN hw hR
        refine ⟨D1, ?_, hp_sm_72 f1⟩
        obtain ⟨m00, m01, m02, m03, m4, m12, m20, m30, m28, m46, m70, m51, m67, m49⟩ := hp_Mf hw hR.1
        rw [F_X9_wagon_eq]
        simp (disch := omega) only [hp_kN, nI_add, pk_mul, hp_isInN, hp_m1L, hp_l0, hp_l1, hp_l2, hp_l3, hp_l4, hp_l5, hp_l7, hp_l8, hp_l10, hp_l17, hp_l20, hp_l24, hp_l48, hp_l50, hp_l55, hp_l127, hp_lm1, hp_eqN, hp_ltN, hp_inN, hp_cl, if_pos, if_neg, if_true, if_false, Option.bind_some, hp_M_isWagon N hk b0 D m00, e1]
    · refine ⟨nI (hp_cor (y 0 1) (hp_ch y k)), _, ⟨hw, hw1⟩, hp_qx0 fun D hX => ?_, hp_qm fun D hR => ?_⟩
      · have k1 := hp_fnX N hN hw hX
        obtain ⟨x00, x01, x02, x03, x1, x2, x3, x4, x6, x8, x9, x12, x17⟩ := hp_Xf hw hX.1
        have k2 := hp_psX N hN hw x01 x6 x3 x4 (hp_X1000 hX) c
        rw [F_X8_wagon_eq]
        simp (disch := omega) only [hp_kN, nI_add, pk_mul, hp_isInN, hp_m1L, hp_l0, hp_l1, hp_l2, hp_l3, hp_l4, hp_l5, hp_l7, hp_l8, hp_l10, hp_l17, hp_l20, hp_l24, hp_l48, hp_l50, hp_l55, hp_l127, hp_lm1, hp_eqN, hp_ltN, hp_inN, hp_cl, if_pos, if_neg, if_true, if_false, Option.bind_some, hp_X_hasWagon N hk b0 D x00, k1, k2]
      · obtain ⟨D1, e1, f1⟩ := hp_fnM N hN hw hR
        refine ⟨D1, ?_, hp_sm_72 f1⟩
        have m00 : D 68 0 = nI (y 0 0) := (hp_Mf hw hR.1).1
        have w1 := hp_M_isWagon N hk b0 D m00
        have hR := hp_R_sm hR (hp_sm_72 f1)
        clear m00
        obtain ⟨m00, m01, m02, m03, m4, m12, m20, m30, m28, m46, m70, m51, m67, m49⟩ := hp_Mf hw hR.1
        have k1 := hp_chwM N (by omega) hw m30 m20 c
        have k2 := hp_corM N (by omega) hw.2.1 (hp_ch_lt hw c) D1 m01
        rw [F_X9_wagon_eq]
        simp (disch := omega) only [hp_kN, nI_add, pk_mul, hp_isInN, hp_m1L, hp_l0, hp_l1, hp_l2, hp_l3, hp_l4, hp_l5, hp_l7, hp_l8, hp_l10, hp_l17, hp_l20, hp_l24, hp_l48, hp_l50, hp_l55, hp_l127, hp_lm1, hp_eqN, hp_ltN, hp_inN, hp_cl, if_pos, if_neg, if_true, if_false, Option.bind_some, w1, e1, k1, k2]
  · refine ⟨-1, _, ⟨hw, hw1⟩, hp_qx0 fun D hX => ?_, hp_qm0 fun D hR => ?_⟩
    · obtain ⟨x00, x01, x02, x03, x1, x2, x3, x4, x6, x8, x9, x12, x17⟩ := hp_Xf hw hX.1
      rw [F_X8_wagon_eq]
      simp (disch := omega) only [hp_kN, nI_add, pk_mul, hp_isInN, hp_m1L, hp_l0, hp_l1, hp_l2, hp_l3, hp_l4, hp_l5, hp_l7, hp_l8, hp_l10, hp_l17, hp_l20, hp_l24, hp_l48, hp_l50, hp_l55, hp_l127, hp_lm1, hp_eqN, hp_ltN, hp_inN, hp_cl, if_pos, if_neg, if_true, if_false, Option.bind_some, hp_X_hasWagon N hk b0 D x00, h0, h1, h2, h3, h4, h5, h6, h7]
    · obtain ⟨m00, m01, m02, m03, m4, m12, m20, m30, m28, m46, m70, m51, m67, m49⟩ := hp_Mf hw hR.1
      rw [F_X9_wagon_eq]
      simp (disch := omega) only [hp_kN, nI_add, pk_mul, hp_isInN, hp_m1L, hp_l0, hp_l1, hp_l2, hp_l3, hp_l4, hp_l5, hp_l7, hp_l8, hp_l10, hp_l17, hp_l20, hp_l24, hp_l48, hp_l50, hp_l55, hp_l127, hp_lm1, hp_eqN, hp_ltN, hp_inN, hp_cl, if_pos, if_neg, if_true, if_false, Option.bind_some, hp_M_isWagon N hk b0 D m00, h0, h1, h2, h3, h4, h5, h6, h7]
/-- the presorted yard, so far -/
def hp_ps (y : Nat → Nat → Nat) : Nat → Nat → Nat → Nat
  | 0 => y
  | i + 1 => hp_yw (hp_ps y i) 2 i (hp_cor (y 0 1) (hp_ch y i))
theorem hp_ps_n (y : Nat → Nat → Nat) (n i j : Nat) (h : i ≠ 2) : hp_ps y n i j = y i j := by
  induction n with
  | zero => rfl
  | succ n ih =>
    show hp_yw (hp_ps y n) 2 n _ i j = y i j
    rw [hp_yw_n (Or.inl h)]
    exact ih
theorem hp_ps_WF {y : Nat → Nat → Nat} (hw : hp_WF y) (h3 : hp_fn y ≤ 3) : ∀ n, n ≤ y 0 0 → hp_WF (hp_ps y n) := by
  intro n
  induction n with
  | zero => intro _; exact hw
  | succ n ih =>
    intro hn
    exact hp_WF_w (ih (by omega)) (Or.inr (Or.inr (Or.inl ⟨rfl, hp_few8 hw.2.1 (hp_need_le (fun j => j) hw) h3 (hp_ch_need hw (by omega))⟩)))
def hp_psA (y : Nat → Nat → Nat) : Nat := hp_wd (hp_or (hp_ps y (y 0 0) 2) (y 0 0))
theorem hp_prX (N : Nat) (hN : 1000 ≤ N) {y : Nat → Nat → Nat} {pu : Int32} {yk : Nat → Nat → Nat} {pk : Int32} {fl T P : Nat} {tp pp : Nat → Nat} {ls : Nat → Int32} {lc : Nat → Nat → Int32} (hw : hp_WF y) (h3 : hp_fn y ≤ 3) : ∀ m i n D, i + m = y 0 0 → m < n → hp_X (hp_ps y i, pu, yk, pk, fl, T, P, tp, pp, ls, lc) D → ∃ D1, F_X8_presort_26 N n (nI i) D = some (nI (hp_psA y), D1) ∧ hp_X (hp_ps y (y 0 0), pu, yk, pk, fl, T, P, tp, pp, ls, lc) D1 ∧ ∀ c, c ≠ 3 → D1 c = D c := by
  have b0 := hw.1
  intro m
  induction m with
  | zero =>
    intro i n D e hm hX
    obtain ⟨n, rfl⟩ : ∃ n', n = n' + 1 := ⟨n - 1, by omega⟩
    have e : i = y 0 0 := by omega
    rw [e] at hX
    refine ⟨D, ?_, hX, fun _ _ => rfl⟩
    have hw' := hp_ps_WF hw h3 (y 0 0) (Nat.le_refl _)
    have h8 : ∀ j, j < y 0 0 → hp_ps y (y 0 0) 2 j < 8 := fun j hj => (hw'.2.2.2.1 j (by omega)).2.1
    have hw := hw'
    obtain ⟨x00, x01, x02, x03, x1, x2, x3, x4, x6, x8, x9, x12, x17⟩ := hp_Xf hw hX.1
    rw [hp_ps_n _ _ _ _ (by omega)] at x00
    have k1 := hp_stX N (by omega) b0 (by_ := hp_ps y (y 0 0) 2) x00 (fun j hj => x2 j (by omega)) h8
    rw [F_X8_presort_26_eq, e]
    simp (disch := omega) only [hp_kN, nI_add, pk_mul, hp_isInN, hp_m1L, hp_l0, hp_l1, hp_l2, hp_l3, hp_l4, hp_l5, hp_l7, hp_l8, hp_l10, hp_l17, hp_l20, hp_l24, hp_l48, hp_l50, hp_l55, hp_l127, hp_lm1, hp_eqN, hp_ltN, hp_inN, hp_cl, if_pos, if_neg, if_true, if_false, Option.bind_some, x00, k1]
    rfl
  | succ m ih =>
    intro i n D e hm hX
    obtain ⟨n, rfl⟩ : ∃ n', n = n' + 1 := ⟨n - 1, by omega⟩
    have hX' : hp_X (hp_ps y (i + 1), pu, yk, pk, fl, T, P, tp, pp, ls, lc) (hy_w D 3 i (nI (hp_cor (y 0 1) (hp_ch y i)))) := ⟨hp_CY_w 2 i _ hX.1 (by omega) (show i < 8 by omega), hp_C1_fr hX.2 (fun c a => hy_w_ne (by omega))⟩
    obtain ⟨D1, q1, q2, q3⟩ := ih (i + 1) n _ (by omega) (by omega) hX'
    refine ⟨D1, ?_, q2, fun c a => by rw [q3 c a, hy_w_ne a]⟩
    rw [← q1]
    have hn := hp_X1000 hX
    have hwo := hw
    have hw' := hp_ps_WF hw h3 i (by omega)
    have hw := hw'
    clear ih q1 q2 q3
    obtain ⟨x00, x01, x02, x03, x1, x2, x3, x4, x6, x8, x9, x12, x17⟩ := hp_Xf hw hX.1
    rw [hp_ps_n _ _ _ _ (by omega)] at x00 x01
    have k2 := hp_psX N hN hwo x01 (fun t ht j hj => by rw [x6 t ht j hj, hp_ps_n _ _ _ _ (by omega)]) (fun j hj => by rw [x3 j hj, hp_ps_n _ _ _ _ (by omega)]) (fun j hj => by rw [x4 j hj, hp_ps_n _ _ _ _ (by omega)]) hn (w := i) (by omega)
    rw [F_X8_presort_26_eq]
    simp (disch := omega) only [hp_kN, nI_add, pk_mul, hp_isInN, hp_m1L, hp_l0, hp_l1, hp_l2, hp_l3, hp_l4, hp_l5, hp_l7, hp_l8, hp_l10, hp_l17, hp_l20, hp_l24, hp_l48, hp_l50, hp_l55, hp_l127, hp_lm1, hp_eqN, hp_ltN, hp_inN, hp_cl, if_pos, if_neg, if_true, if_false, Option.bind_some, x00, k2]
theorem hp_prM (N : Nat) (hN : 1000 ≤ N) {y : Nat → Nat → Nat} {pu : Int32} {yk : Nat → Nat → Nat} {pk : Int32} {fl T P : Nat} {tp pp : Nat → Nat} {ls : Nat → Int32} {lc : Nat → Nat → Int32} (hw : hp_WF y) (h3 : hp_fn y ≤ 3) : ∀ m i n D, i + m = y 0 0 → m < n → hp_R (hp_ps y i, pu, yk, pk, fl, T, P, tp, pp, ls, lc) D → ∃ D1, F_X9_presort_26 N n (nI i) D = some (nI (hp_psA y), D1) ∧ hp_R (hp_ps y (y 0 0), pu, yk, pk, fl, T, P, tp, pp, ls, lc) D1 ∧ ∀ c, c ≠ 68 → D1 c = D c := by
  have b0 := hw.1
  intro m
  induction m with
  | zero =>
    intro i n D e hm hR
    obtain ⟨n, rfl⟩ : ∃ n', n = n' + 1 := ⟨n - 1, by omega⟩
    have e : i = y 0 0 := by omega
    rw [e] at hR
    refine ⟨D, ?_, hR, fun _ _ => rfl⟩
    have hw' := hp_ps_WF hw h3 (y 0 0) (Nat.le_refl _)
    have h8 : ∀ j, j < y 0 0 → hp_ps y (y 0 0) 2 j < 8 := fun j hj => (hw'.2.2.2.1 j (by omega)).2.1
    have hw := hw'
    obtain ⟨m00, m01, m02, m03, m4, m12, m20, m30, m28, m46, m70, m51, m67, m49⟩ := hp_Mf hw hR.1
    rw [hp_ps_n _ _ _ _ (by omega)] at m00
    have k1 := hp_stMn N (by omega) b0 (by_ := hp_ps y (y 0 0) 2) m00 (fun j hj => m12 j (by omega)) h8
    rw [F_X9_presort_26_eq, e]
    simp (disch := omega) only [hp_kN, nI_add, pk_mul, hp_isInN, hp_m1L, hp_l0, hp_l1, hp_l2, hp_l3, hp_l4, hp_l5, hp_l7, hp_l8, hp_l10, hp_l17, hp_l20, hp_l24, hp_l48, hp_l50, hp_l55, hp_l127, hp_lm1, hp_eqN, hp_ltN, hp_inN, hp_cl, if_pos, if_neg, if_true, if_false, Option.bind_some, m00, k1]
    rfl
  | succ m ih =>
    intro i n D e hm hR
    obtain ⟨n, rfl⟩ : ∃ n', n = n' + 1 := ⟨n - 1, by omega⟩
    have ep : hp_pos 2 i = 12 + i := by simp [hp_pos]
    have hR' : hp_R (hp_ps y (i + 1), pu, yk, pk, fl, T, P, tp, pp, ls, lc) (hy_w D 68 (12 + i) (nI (hp_cor (y 0 1) (hp_ch y i)))) := ⟨by rw [← ep]; exact hp_MY_w 2 i _ hR.1 (by omega) (by omega) (show i < 8 by omega), hp_M1_fr hR.2 (fun c a => hy_w_ne (by omega)) (fun j a => by rw [hy_w_ne (by omega)])⟩
    obtain ⟨D1, q1, q2, q3⟩ := ih (i + 1) n _ (by omega) (by omega) hR'
    refine ⟨D1, ?_, q2, fun c a => by rw [q3 c a, hy_w_ne a]⟩
    rw [← q1]
    have hwo := hw
    have hw' := hp_ps_WF hw h3 i (by omega)
    have hw := hw'
    clear ih q1 q2 q3
    obtain ⟨m00, m01, m02, m03, m4, m12, m20, m30, m28, m46, m70, m51, m67, m49⟩ := hp_Mf hw hR.1
    rw [hp_ps_n _ _ _ _ (by omega)] at m00 m01
    have k1 := hp_chwM N (by omega) hwo (D := D) (fun t ht j hj => by rw [m30 t ht j hj, hp_ps_n _ _ _ _ (by omega)]) (fun j hj => by rw [m20 j hj, hp_ps_n _ _ _ _ (by omega)]) (w := i) (by omega)
    have k2 := hp_corM N (by omega) hwo.2.1 (hp_ch_lt hwo (w := i) (by omega)) D m01
    rw [F_X9_presort_26_eq]
    simp (disch := omega) only [hp_kN, nI_add, pk_mul, hp_isInN, hp_m1L, hp_l0, hp_l1, hp_l2, hp_l3, hp_l4, hp_l5, hp_l7, hp_l8, hp_l10, hp_l17, hp_l20, hp_l24, hp_l48, hp_l50, hp_l55, hp_l127, hp_lm1, hp_eqN, hp_ltN, hp_inN, hp_cl, if_pos, if_neg, if_true, if_false, Option.bind_some, m00, k1, k2]
theorem st_presort (N : Nat) (hN : 1000 ≤ N) : hp_step (F_X8_presort N) (F_X9_presort N) := by
  rintro ⟨y, pu, yk, pk, fl, T, P, tp, pp, ls, lc⟩ ⟨hw, hw1⟩
  obtain ⟨b0, b1, b2, b8, b17, b9⟩ := hp_Wb hw
  have hf8 : hp_fn y < 8 := (hp_few_f hw.2.1 (hp_need_le (fun j => j) hw)).1
  by_cases c3 : y 0 2 = 0
  case neg =>
    have c3' : y 0 2 = 1 := by omega
    refine ⟨-3, _, ⟨hw, hw1⟩, hp_qx0 fun D hX => ?_, hp_qm0 fun D hR => ?_⟩
    · obtain ⟨x00, x01, x02, x03, x1, x2, x3, x4, x6, x8, x9, x12, x17⟩ := hp_Xf hw hX.1
      rw [F_X8_presort_eq]
      simp (disch := omega) only [hp_kN, nI_add, pk_mul, hp_isInN, hp_m1L, hp_l0, hp_l1, hp_l2, hp_l3, hp_l4, hp_l5, hp_l7, hp_l8, hp_l10, hp_l17, hp_l20, hp_l24, hp_l48, hp_l50, hp_l55, hp_l127, hp_lm1, hp_eqN, hp_ltN, hp_inN, hp_cl, if_pos, if_neg, if_true, if_false, Option.bind_some, x02, c3']
    · obtain ⟨m00, m01, m02, m03, m4, m12, m20, m30, m28, m46, m70, m51, m67, m49⟩ := hp_Mf hw hR.1
      rw [F_X9_presort_eq]
      simp (disch := omega) only [hp_kN, nI_add, pk_mul, hp_isInN, hp_m1L, hp_l0, hp_l1, hp_l2, hp_l3, hp_l4, hp_l5, hp_l7, hp_l8, hp_l10, hp_l17, hp_l20, hp_l24, hp_l48, hp_l50, hp_l55, hp_l127, hp_lm1, hp_eqN, hp_ltN, hp_inN, hp_cl, if_pos, if_neg, if_true, if_false, Option.bind_some, m02, c3']
  by_cases c : 3 < hp_fn y
  · refine ⟨-5, _, ⟨hw, hw1⟩, hp_qx0 fun D hX => ?_, hp_qm fun D hR => ?_⟩
    · have k1 := hp_fnX N hN hw hX
      obtain ⟨x00, x01, x02, x03, x1, x2, x3, x4, x6, x8, x9, x12, x17⟩ := hp_Xf hw hX.1
      rw [F_X8_presort_eq]
      simp (disch := omega) only [hp_kN, nI_add, pk_mul, hp_isInN, hp_m1L, hp_l0, hp_l1, hp_l2, hp_l3, hp_l4, hp_l5, hp_l7, hp_l8, hp_l10, hp_l17, hp_l20, hp_l24, hp_l48, hp_l50, hp_l55, hp_l127, hp_lm1, hp_eqN, hp_ltN, hp_inN, hp_cl, if_pos, if_neg, if_true, if_false, Option.bind_some, x02, c3, k1]
    · obtain ⟨D1, e1, f1⟩ := hp_fnM N hN hw hR
      refine ⟨D1, ?_, hp_sm_72 f1⟩
      obtain ⟨m00, m01, m02, m03, m4, m12, m20, m30, m28, m46, m70, m51, m67, m49⟩ := hp_Mf hw hR.1
      rw [F_X9_presort_eq]
      simp (disch := omega) only [hp_kN, nI_add, pk_mul, hp_isInN, hp_m1L, hp_l0, hp_l1, hp_l2, hp_l3, hp_l4, hp_l5, hp_l7, hp_l8, hp_l10, hp_l17, hp_l20, hp_l24, hp_l48, hp_l50, hp_l55, hp_l127, hp_lm1, hp_eqN, hp_ltN, hp_inN, hp_cl, if_pos, if_neg, if_true, if_false, Option.bind_some, m02, c3, e1]
  · refine ⟨nI (hp_psA y), (hp_ps y (y 0 0), pu, yk, pk, fl, T, P, tp, pp, ls, lc), ⟨hp_ps_WF hw (by omega) _ (Nat.le_refl _), hw1⟩, fun D hX => ?_, fun D hR => ?_⟩
    · have k1 := hp_fnX N hN hw hX
      obtain ⟨D1, q1, q2, q3⟩ := hp_prX N hN hw (by omega) (y 0 0) 0 N D (by omega) (by omega) hX
      refine ⟨D1, ?_, q2, fun c a b => q3 c (by omega)⟩
      obtain ⟨x00, x01, x02, x03, x1, x2, x3, x4, x6, x8, x9, x12, x17⟩ := hp_Xf hw hX.1
      rw [F_X8_presort_eq]
      simp (disch := omega) only [hp_kN, nI_add, pk_mul, hp_isInN, hp_m1L, hp_l0, hp_l1, hp_l2, hp_l3, hp_l4, hp_l5, hp_l7, hp_l8, hp_l10, hp_l17, hp_l20, hp_l24, hp_l48, hp_l50, hp_l55, hp_l127, hp_lm1, hp_eqN, hp_ltN, hp_inN, hp_cl, if_pos, if_neg, if_true, if_false, Option.bind_some, x02, c3, k1, q1]
    · obtain ⟨D1, e1, f1⟩ := hp_fnM N hN hw hR
      obtain ⟨D2, q1, q2, q3⟩ := hp_prM N hN hw (by omega) (y 0 0) 0 N D1 (by omega) (by omega) (hp_R_sm hR (hp_sm_72 f1))
      refine ⟨D2, ?_, q2, fun c a => by rw [q3 c (by omega), f1 c (by omega)]⟩
      obtain ⟨m00, m01, m02, m03, m4, m12, m20, m30, m28, m46, m70, m51, m67, m49⟩ := hp_Mf hw hR.1
      rw [F_X9_presort_eq]
      simp (disch := omega) only [hp_kN, nI_add, pk_mul, hp_isInN, hp_m1L, hp_l0, hp_l1, hp_l2, hp_l3, hp_l4, hp_l5, hp_l7, hp_l8, hp_l10, hp_l17, hp_l20, hp_l24, hp_l48, hp_l50, hp_l55, hp_l127, hp_lm1, hp_eqN, hp_ltN, hp_inN, hp_cl, if_pos, if_neg, if_true, if_false, Option.bind_some, m02, c3, e1, q1]
