/-! ===== drawn, odds, elsewhere ===== -/
section
variable {y : Nat → Nat → Nat} {pu : Int32} {yk : Nat → Nat → Nat} {pk : Int32} {fl T P : Nat} {tp pp : Nat → Nat} {ls : Nat → Int32} {lc : Nat → Nat → Int32}
/-- a draw, the need behind it -/
theorem hp_dnX (N : Nat) (hN : 10 ≤ N) (hw : hp_WF y) (seed : Int32) {D D0 : hy_M} (hX : hp_X (y, pu, yk, pk, fl, T, P, tp, pp, ls, lc) D0) (hs : ∀ c, c ≠ 56 → c ≠ 57 → D c = D0 c) : ∃ D1, F_X5_drawRow N (nI (y 0 0)) seed D = some D1 ∧ F_X7_needOf_1_57 N D1 = some (nI (hp_need y (hp_inv (hp_row (y 0 0) seed) (y 0 0))), D1) ∧ (∀ w, w < y 0 0 → D1 57 w = nI (hp_inv (hp_row (y 0 0) seed) (y 0 0) w)) ∧ ∀ c, c ≠ 56 → c ≠ 57 → D1 c = D0 c := by
  have b0 := hw.1
  have h1000 := hp_X1000 hX
  obtain ⟨x00, x01, x02, x03, x1, x2, x3, x4, x6, x8, x9, x12, x17⟩ := hp_Xf hw hX.1
  obtain ⟨D1, e1, f1, f2⟩ := hp_drX N hN b0 seed (D := D) (fun j hj => by rw [hs 1000 (by omega) (by omega)]; exact h1000 j hj)
  have hf : ∀ c, c ≠ 56 → c ≠ 57 → D1 c = D0 c := fun c a b => by rw [f2 c a b, hs c a b]
  exact ⟨D1, e1, hp_needXn N hN hw (fun t ht j hj => by rw [hf (7 + t) (by omega) (by omega)]; exact x6 t ht j hj) f1 (fun j _ => by have := hp_inv_le (hp_row (y 0 0) seed) (y 0 0) j; omega) (fun t ht => by rw [hf 9 (by omega) (by omega)]; exact x8 t ht), f1, hf⟩
theorem hp_dnM (N : Nat) (hN : 10 ≤ N) (hw : hp_WF y) (seed : Int32) {D D0 : hy_M} (hR : hp_R (y, pu, yk, pk, fl, T, P, tp, pp, ls, lc) D0) (hs : ∀ c, c ≠ 72 → c ≠ 78 → D c = D0 c) : ∃ D1, F_X9_draws N seed D = some D1 ∧ F_X9_need N D1 = some (nI (hp_need y (hp_inv (hp_row (y 0 0) seed) (y 0 0))), D1) ∧ (∀ w, w < y 0 0 → D1 72 w = nI (hp_inv (hp_row (y 0 0) seed) (y 0 0) w)) ∧ ∀ c, c ≠ 72 → c ≠ 78 → D1 c = D0 c := by
  have b0 := hw.1
  obtain ⟨m00, m01, m02, m03, m4, m12, m20, m30, m28, m46, m70, m51, m67, m49⟩ := hp_Mf hw hR.1
  obtain ⟨D1, e1, f1, f2⟩ := hp_drM N hN b0 seed (D := D) (by rw [hs 68 (by omega) (by omega)]; exact m00)
  have hf : ∀ c, c ≠ 72 → c ≠ 78 → D1 c = D0 c := fun c a b => by rw [f2 c a b, hs c a b]
  exact ⟨D1, e1, hp_needMn N hN hw (fun t ht j hj => by rw [hf 68 (by omega) (by omega)]; exact m30 t ht j hj) f1 (fun j _ => by have := hp_inv_le (hp_row (y 0 0) seed) (y 0 0) j; omega) (fun t ht => by rw [hf 68 (by omega) (by omega)]; exact m28 t ht), f1, hf⟩
end
theorem hp_scD {D D1 : hy_M} (h : ∀ c, c ≠ 56 → c ≠ 57 → D1 c = D c) : hp_sc D D1 := fun c hc => h c (by omega) (by omega)
theorem hp_smD {D D1 : hy_M} (h : ∀ c, c ≠ 72 → c ≠ 78 → D1 c = D c) : hp_sm D D1 := ⟨fun c a => h c (by omega) (by omega), fun j _ => by rw [h 67 (by omega) (by omega)]⟩
theorem st_drawn (N : Nat) (hN : 1000 ≤ N) (a v : Int32) : hp_step (F_X8_drawn N a v) (F_X9_drawn N a v) := by
  rintro ⟨y, pu, yk, pk, fl, T, P, tp, pp, ls, lc⟩ ⟨hw, hw1⟩
  obtain ⟨b0, b1, b2, b8, b17, b9⟩ := hp_Wb hw
  have hnl := hp_need_le (y := y) (hp_inv (hp_row (y 0 0) a) (y 0 0)) hw
  rcases hp_arg v with ⟨a0, a1, a2⟩ | ⟨k, hk, rfl⟩
  · refine ⟨-1, _, ⟨hw, hw1⟩, hp_qx0 fun D hX => ?_, hp_qm0 fun D hR => ?_⟩
    · have z1 : v < (10 : Int32) := by
        rw [Int32.lt_iff_toInt_lt]
        have : (10 : Int32).toInt = 10 := rfl
        omega
      have z2 : v ≠ 0 := fun e => by rw [e] at a2; exact absurd a2 (by decide)
      have z3 : v ≠ 1 := fun e => by rw [e] at a2; exact absurd a2 (by decide)
      rw [F_X8_drawn_eq, if_pos z1, F_X8_drawn_25_eq, if_neg z2, if_neg z3, if_pos rfl]
    · obtain ⟨m00, m01, m02, m03, m4, m12, m20, m30, m28, m46, m70, m51, m67, m49⟩ := hp_Mf hw hR.1
      rw [F_X9_drawn_eq, hp_isIng N a2 0 _ (by decide), Option.bind_some, if_pos (show nI 0 = 0 from rfl), hp_isIng N a2 10 _ (by decide)]
      rfl
  by_cases c0 : k = 0
  · subst c0
    refine ⟨nI (hp_need y (hp_inv (hp_row (y 0 0) a) (y 0 0))), _, ⟨hw, hw1⟩, hp_qx fun D hX => ?_, hp_qm fun D hR => ?_⟩
    · obtain ⟨D1, e1, e2, f1, f2⟩ := hp_dnX N (by omega) hw a (D := D) hX (fun _ _ _ => rfl)
      refine ⟨D1, ?_, hp_scD f2⟩
      obtain ⟨x00, x01, x02, x03, x1, x2, x3, x4, x6, x8, x9, x12, x17⟩ := hp_Xf hw hX.1
      rw [F_X8_drawn_eq]
      clear f1 f2 x1 x2 x3 x4 x6 x8 x9 x12 x17
      simp (disch := omega) only [hp_kN, nI_add, pk_mul, hp_isInN, hp_m1L, hp_l0, hp_l1, hp_l2, hp_l3, hp_l4, hp_l5, hp_l7, hp_l8, hp_l10, hp_l17, hp_l20, hp_l24, hp_l48, hp_l50, hp_l55, hp_l127, hp_lm1, hp_eqN, hp_ltN, hp_inN, hp_cl, if_pos, if_neg, if_true, if_false, Option.bind_some, F_X8_drawn_25_eq, F_X8_drawn_41_eq, x00, e1, e2]
    · obtain ⟨D1, e1, e2, f1, f2⟩ := hp_dnM N (by omega) hw a (D := D) hR (fun _ _ _ => rfl)
      refine ⟨D1, ?_, hp_smD f2⟩
      rw [F_X9_drawn_eq]
      clear f1 f2
      simp (disch := omega) only [hp_kN, nI_add, pk_mul, hp_isInN, hp_m1L, hp_l0, hp_l1, hp_l2, hp_l3, hp_l4, hp_l5, hp_l7, hp_l8, hp_l10, hp_l17, hp_l20, hp_l24, hp_l48, hp_l50, hp_l55, hp_l127, hp_lm1, hp_eqN, hp_ltN, hp_inN, hp_cl, if_pos, if_neg, if_true, if_false, Option.bind_some, F_X9_drawn_33_eq, e1, e2]
  by_cases c1 : k = 1
  · subst c1
    refine ⟨nI (hp_few (y 0 1) (hp_need y (hp_inv (hp_row (y 0 0) a) (y 0 0)))), _, ⟨hw, hw1⟩, hp_qx fun D hX => ?_, hp_qm fun D hR => ?_⟩
    · obtain ⟨D1, e1, e2, f1, f2⟩ := hp_dnX N (by omega) hw a (D := D) hX (fun _ _ _ => rfl)
      refine ⟨D1, ?_, hp_scD f2⟩
      obtain ⟨x00, x01, x02, x03, x1, x2, x3, x4, x6, x8, x9, x12, x17⟩ := hp_Xf hw hX.1
      have z : D1 1 1 = nI (y 0 1) := by rw [f2 1 (by omega) (by omega)]; exact x01
      have k3 := hp_fewX N (by omega) b1 hnl D1
      rw [F_X8_drawn_eq]
      clear f1 f2 x1 x2 x3 x4 x6 x8 x9 x12 x17
      simp (disch := omega) only [hp_kN, nI_add, pk_mul, hp_isInN, hp_m1L, hp_l0, hp_l1, hp_l2, hp_l3, hp_l4, hp_l5, hp_l7, hp_l8, hp_l10, hp_l17, hp_l20, hp_l24, hp_l48, hp_l50, hp_l55, hp_l127, hp_lm1, hp_eqN, hp_ltN, hp_inN, hp_cl, if_pos, if_neg, if_true, if_false, Option.bind_some, F_X8_drawn_25_eq, F_X8_drawn_41_eq, x00, e1, e2, z, k3]
    · obtain ⟨D1, e1, e2, f1, f2⟩ := hp_dnM N (by omega) hw a (D := D) hR (fun _ _ _ => rfl)
      refine ⟨D1, ?_, hp_smD f2⟩
      obtain ⟨m00, m01, m02, m03, m4, m12, m20, m30, m28, m46, m70, m51, m67, m49⟩ := hp_Mf hw hR.1
      have k3 := hp_fewM N hN b1 hnl D1 (by rw [f2 68 (by omega) (by omega)]; exact m01)
      rw [F_X9_drawn_eq]
      clear f1 f2 m4 m12 m20 m30 m28 m46 m70 m51 m67 m49
      simp (disch := omega) only [hp_kN, nI_add, pk_mul, hp_isInN, hp_m1L, hp_l0, hp_l1, hp_l2, hp_l3, hp_l4, hp_l5, hp_l7, hp_l8, hp_l10, hp_l17, hp_l20, hp_l24, hp_l48, hp_l50, hp_l55, hp_l127, hp_lm1, hp_eqN, hp_ltN, hp_inN, hp_cl, if_pos, if_neg, if_true, if_false, Option.bind_some, F_X9_drawn_33_eq, e1, e2, k3]
  by_cases c2 : 10 ≤ k ∧ k - 10 < y 0 0
  · obtain ⟨c2, c3⟩ := c2
    refine ⟨nI (hp_inv (hp_row (y 0 0) a) (y 0 0) (k - 10)), _, ⟨hw, hw1⟩, hp_qx fun D hX => ?_, hp_qm fun D hR => ?_⟩
    · obtain ⟨D1, e1, e2, f1, f2⟩ := hp_dnX N (by omega) hw a (D := D) hX (fun _ _ _ => rfl)
      refine ⟨D1, ?_, hp_scD f2⟩
      obtain ⟨x00, x01, x02, x03, x1, x2, x3, x4, x6, x8, x9, x12, x17⟩ := hp_Xf hw hX.1
      have k3 := hp_X_hasWagon N (k := k - 10) (by omega) b0 D x00
      rw [if_pos c3] at k3
      have z := f1 (k - 10) c3
      rw [F_X8_drawn_eq]
      clear f1 f2 x1 x2 x3 x4 x6 x8 x9 x12 x17
      simp (disch := omega) only [hp_kN, nI_add, pk_mul, hp_isInN, hp_m1L, hp_l0, hp_l1, hp_l2, hp_l3, hp_l4, hp_l5, hp_l7, hp_l8, hp_l10, hp_l17, hp_l20, hp_l24, hp_l48, hp_l50, hp_l55, hp_l127, hp_lm1, hp_eqN, hp_ltN, hp_inN, hp_cl, if_pos, if_neg, if_true, if_false, Option.bind_some, pk_sub, k3, F_X8_drawn_25_eq, F_X8_drawn_41_eq, x00, e1, z]
    · obtain ⟨D1, e1, e2, f1, f2⟩ := hp_dnM N (by omega) hw a (D := D) hR (fun _ _ _ => rfl)
      refine ⟨D1, ?_, hp_smD f2⟩
      obtain ⟨m00, m01, m02, m03, m4, m12, m20, m30, m28, m46, m70, m51, m67, m49⟩ := hp_Mf hw hR.1
      have z := f1 (k - 10) c3
      have zi : ((9 + y 0 0 : Nat) : Int) = 9 + (y 0 0 : Int) := by omega
      have k4 : (nI (9 + y 0 0)).toInt64.toInt = (9 + y 0 0 : Nat) := by
        rw [← hp_ti (show 9 + y 0 0 < 2147483648 by omega)]
        simp
      rw [F_X9_drawn_eq]
      clear f1 f2 m4 m12 m20 m30 m28 m46 m70 m51 m67 m49
      simp (disch := omega) only [hp_kN, nI_add, pk_mul, hp_isInN, hp_m1L, hp_l0, hp_l1, hp_l2, hp_l3, hp_l4, hp_l5, hp_l7, hp_l8, hp_l10, hp_l17, hp_l20, hp_l24, hp_l48, hp_l50, hp_l55, hp_l127, hp_lm1, hp_eqN, hp_ltN, hp_inN, hp_cl, if_pos, if_neg, if_true, if_false, Option.bind_some, m00, k4, F_X9_drawn_33_eq, e1, pk_sub, z]
  · refine ⟨-1, _, ⟨hw, hw1⟩, hp_qx0 fun D hX => ?_, hp_qm0 fun D hR => ?_⟩
    · obtain ⟨x00, x01, x02, x03, x1, x2, x3, x4, x6, x8, x9, x12, x17⟩ := hp_Xf hw hX.1
      rw [F_X8_drawn_eq]
      by_cases c3 : k < 10
      · clear c2
        simp (disch := omega) only [hp_kN, nI_add, pk_mul, hp_isInN, hp_m1L, hp_l0, hp_l1, hp_l2, hp_l3, hp_l4, hp_l5, hp_l7, hp_l8, hp_l10, hp_l17, hp_l20, hp_l24, hp_l48, hp_l50, hp_l55, hp_l127, hp_lm1, hp_eqN, hp_ltN, hp_inN, hp_cl, if_pos, if_neg, if_true, if_false, Option.bind_some, F_X8_drawn_25_eq]
      · have k3 := hp_X_hasWagon N (k := k - 10) (by omega) b0 D x00
        rw [if_neg (by omega)] at k3
        simp (disch := omega) only [hp_kN, nI_add, pk_mul, hp_isInN, hp_m1L, hp_l0, hp_l1, hp_l2, hp_l3, hp_l4, hp_l5, hp_l7, hp_l8, hp_l10, hp_l17, hp_l20, hp_l24, hp_l48, hp_l50, hp_l55, hp_l127, hp_lm1, hp_eqN, hp_ltN, hp_inN, hp_cl, if_pos, if_neg, if_true, if_false, Option.bind_some, pk_sub, k3, F_X8_drawn_25_eq]
    · obtain ⟨m00, m01, m02, m03, m4, m12, m20, m30, m28, m46, m70, m51, m67, m49⟩ := hp_Mf hw hR.1
      have k4 : (nI (9 + y 0 0)).toInt64.toInt = (9 + y 0 0 : Nat) := by
        rw [← hp_ti (show 9 + y 0 0 < 2147483648 by omega)]
        simp
      rw [F_X9_drawn_eq]
      simp (disch := omega) only [hp_kN, nI_add, pk_mul, hp_isInN, hp_m1L, hp_l0, hp_l1, hp_l2, hp_l3, hp_l4, hp_l5, hp_l7, hp_l8, hp_l10, hp_l17, hp_l20, hp_l24, hp_l48, hp_l50, hp_l55, hp_l127, hp_lm1, hp_eqN, hp_ltN, hp_inN, hp_cl, if_pos, if_neg, if_true, if_false, Option.bind_some, m00, k4]
/-! odds -/
def hp_hit (y : Nat → Nat → Nat) (seed : Int32) (k : Nat) : Nat → Nat
  | 0 => 0
  | i + 1 => hp_hit y seed k i + (if k < hp_need y (hp_inv (hp_row (y 0 0) (seed + nI i)) (y 0 0)) then 0 else 1)
theorem hp_hit_le (y : Nat → Nat → Nat) (seed : Int32) (k : Nat) : ∀ i, hp_hit y seed k i ≤ i := by
  intro i
  induction i with
  | zero => exact Nat.le_refl 0
  | succ i ih =>
    show hp_hit y seed k i + _ ≤ _
    split <;> omega
section
variable {y : Nat → Nat → Nat} {pu : Int32} {yk : Nat → Nat → Nat} {pk : Int32} {fl T P : Nat} {tp pp : Nat → Nat} {ls : Nat → Int32} {lc : Nat → Nat → Int32}
theorem hp_odX (N : Nat) (hN : 10 ≤ N) (hw : hp_WF y) (seed p : Int32) {D0 : hy_M} (hX : hp_X (y, pu, yk, pk, fl, T, P, tp, pp, ls, lc) D0) {q k : Nat} (hq : q ≤ 20) (hk : k ≤ 8) : ∀ m i n D, i + m = q → m < n → (∀ c, c ≠ 56 → c ≠ 57 → D c = D0 c) → ∃ D1, F_X8_odds_31 N n seed (nI q) (nI k) p (nI (hp_hit y seed k i)) (nI i) D = (F_X8_partOfLowest N (nI (hp_hit y seed k q)) (nI q) p D1).bind (fun q1 => some (q1.1, q1.2)) ∧ ∀ c, c ≠ 56 → c ≠ 57 → D1 c = D0 c := by
  have b0 := hw.1
  intro m
  induction m with
  | zero =>
    intro i n D e hm hf
    obtain ⟨n, rfl⟩ : ∃ n', n = n' + 1 := ⟨n - 1, by omega⟩
    have e : i = q := by omega
    subst e
    refine ⟨D, ?_, hf⟩
    rw [F_X8_odds_31_eq, if_neg]
    rw [hp_ltN (by omega) (by omega)]
    omega
  | succ m ih =>
    intro i n D e hm hf
    obtain ⟨n, rfl⟩ : ∃ n', n = n' + 1 := ⟨n - 1, by omega⟩
    obtain ⟨x00, x01, x02, x03, x1, x2, x3, x4, x6, x8, x9, x12, x17⟩ := hp_Xf hw hX.1
    obtain ⟨D1, e1, e2, f1, f2⟩ := hp_dnX N hN hw (seed + nI i) (D := D) hX hf
    have hnl := hp_need_le (y := y) (hp_inv (hp_row (y 0 0) (seed + nI i)) (y 0 0)) hw
    obtain ⟨D2, e3, g⟩ := ih (i + 1) n D1 (by omega) (by omega) f2
    refine ⟨D2, ?_, g⟩
    have z : D 1 0 = nI (y 0 0) := by rw [hf 1 (by omega) (by omega)]; exact x00
    have hl := hp_hit_le y seed k i
    have e4 : hp_hit y seed k (i + 1) = hp_hit y seed k i + (if k < hp_need y (hp_inv (hp_row (y 0 0) (seed + nI i)) (y 0 0)) then 0 else 1) := rfl
    rw [← e3, e4, F_X8_odds_31_eq, if_pos (by rw [hp_ltN (by omega) (by omega)]; omega), z, e1, Option.bind_some, e2, Option.bind_some]
    by_cases c : k < hp_need y (hp_inv (hp_row (y 0 0) (seed + nI i)) (y 0 0))
    · rw [if_pos (by rw [hp_ltN (by omega) (by omega)]; exact c), if_pos c, hp_inc]
      rfl
    · rw [if_neg (by rw [hp_ltN (by omega) (by omega)]; exact c), if_neg c, hp_inc, hp_inc]
theorem hp_odM (N : Nat) (hN : 10 ≤ N) (hw : hp_WF y) (seed p : Int32) {D0 : hy_M} (hR : hp_R (y, pu, yk, pk, fl, T, P, tp, pp, ls, lc) D0) {q k : Nat} (hq : q ≤ 20) (hk : k ≤ 8) : ∀ m i n D, i + m = q → m < n → (∀ c, c ≠ 72 → c ≠ 78 → D c = D0 c) → ∃ D1, F_X9_odds_45 N n seed (nI q) (nI k) p (nI (hp_hit y seed k i)) (nI i) D = (F_X9_partOf N (nI (hp_hit y seed k q)).toInt64 (nI q).toInt64 p D1).bind (fun q1 => some (q1.1, q1.2)) ∧ ∀ c, c ≠ 72 → c ≠ 78 → D1 c = D0 c := by
  have b0 := hw.1
  intro m
  induction m with
  | zero =>
    intro i n D e hm hf
    obtain ⟨n, rfl⟩ : ∃ n', n = n' + 1 := ⟨n - 1, by omega⟩
    have e : i = q := by omega
    subst e
    refine ⟨D, ?_, hf⟩
    rw [F_X9_odds_45_eq, if_neg]
    rw [hp_ltN (by omega) (by omega)]
    omega
  | succ m ih =>
    intro i n D e hm hf
    obtain ⟨n, rfl⟩ : ∃ n', n = n' + 1 := ⟨n - 1, by omega⟩
    obtain ⟨D1, e1, e2, f1, f2⟩ := hp_dnM N hN hw (seed + nI i) (D := D) hR hf
    have hnl := hp_need_le (y := y) (hp_inv (hp_row (y 0 0) (seed + nI i)) (y 0 0)) hw
    obtain ⟨D2, e3, g⟩ := ih (i + 1) n D1 (by omega) (by omega) f2
    refine ⟨D2, ?_, g⟩
    have hl := hp_hit_le y seed k i
    have e4 : hp_hit y seed k (i + 1) = hp_hit y seed k i + (if k < hp_need y (hp_inv (hp_row (y 0 0) (seed + nI i)) (y 0 0)) then 0 else 1) := rfl
    rw [← e3, e4, F_X9_odds_45_eq, if_pos (by rw [hp_ltN (by omega) (by omega)]; omega), e1, Option.bind_some, e2, Option.bind_some]
    by_cases c : k < hp_need y (hp_inv (hp_row (y 0 0) (seed + nI i)) (y 0 0))
    · rw [if_pos (by rw [hp_ltN (by omega) (by omega)]; exact c), if_pos c, hp_inc, show nI (hp_hit y seed k i) + (0 : Int32) = nI (hp_hit y seed k i + 0) from nI_add _ 0]
    · rw [if_neg (by rw [hp_ltN (by omega) (by omega)]; exact c), if_neg c, hp_inc, hp_inc]
end
theorem st_odds (N : Nat) (hN : 1000 ≤ N) (a b c p : Int32) : hp_step (F_X8_odds N a b c p) (F_X9_odds N a b c p) := by
  rintro ⟨y, pu, yk, pk, fl, T, P, tp, pp, ls, lc⟩ ⟨hw, hw1⟩
  obtain ⟨b0, b1, b2, b8, b17, b9⟩ := hp_Wb hw
  have i20 : ∀ (x : Int32) (k : Nat), x < nI k ↔ x.toInt < (nI k).toInt := fun x k => Int32.lt_iff_toInt_lt
  by_cases hb : 1 ≤ b.toInt ∧ b.toInt ≤ 20
  case neg =>
    refine ⟨-9223372036854775808, _, ⟨hw, hw1⟩, hp_qx0 fun D hX => ?_, hp_qm0 fun D hR => ?_⟩
    · rw [F_X8_odds_eq]
      by_cases q : b < 1
      · rw [if_pos q]
      · rw [if_neg q, if_pos]
        rw [Int32.lt_iff_toInt_lt] at q ⊢
        have e1 : (1 : Int32).toInt = 1 := rfl
        have e2 : (20 : Int32).toInt = 20 := rfl
        omega
    · rw [F_X9_odds_eq, hp_isIn, if_neg (by rw [hp_l1, hp_l20]; exact hb)]
      rfl
  obtain ⟨q, hq0, rfl, eq⟩ := hp_ofI (a := b) (by omega)
  have hq : 1 ≤ q ∧ q ≤ 20 := by omega
  by_cases hc : 0 ≤ c.toInt ∧ c.toInt ≤ 8
  case neg =>
    refine ⟨-9223372036854775808, _, ⟨hw, hw1⟩, hp_qx0 fun D hX => ?_, hp_qm0 fun D hR => ?_⟩
    · rw [F_X8_odds_eq, if_neg (by rw [show (1 : Int32) = nI 1 from rfl, hp_ltN (by omega) (by omega)]; omega), if_neg (by rw [show (20 : Int32) = nI 20 from rfl, hp_ltN (by omega) (by omega)]; omega)]
      by_cases q : c < 0
      · rw [if_pos q]
      · rw [if_neg q, if_pos]
        rw [Int32.lt_iff_toInt_lt] at q ⊢
        have e1 : (0 : Int32).toInt = 0 := rfl
        have e2 : (8 : Int32).toInt = 8 := rfl
        omega
    · rw [F_X9_odds_eq, hp_isIn, if_pos (by rw [hp_l1, hp_l20]; exact hb), Option.bind_some, if_neg (show ¬ ((1 : Int32) = 0) by decide), hp_isIn, if_neg (by rw [hp_l0, hp_l8]; exact hc)]
      rfl
  obtain ⟨k, hk0, rfl, ek⟩ := hp_ofI (a := c) (by omega)
  have hk : k ≤ 8 := by omega
  have kx : ∀ D, hp_X (y, pu, yk, pk, fl, T, P, tp, pp, ls, lc) D → ∃ D1, F_X8_odds N a (nI q) (nI k) p D = (F_X8_partOfLowest N (nI (hp_hit y a k q)) (nI q) p D1).bind (fun q1 => some (q1.1, q1.2)) ∧ ∀ c, c ≠ 56 → c ≠ 57 → D1 c = D c := fun D hX => by
    obtain ⟨D1, e1, f1⟩ := hp_odX N (by omega) hw a p hX hq.2 hk q 0 N D (by omega) (by omega) (fun _ _ _ => rfl)
    refine ⟨D1, ?_, f1⟩
    rw [F_X8_odds_eq, if_neg (by rw [show (1 : Int32) = nI 1 from rfl, hp_ltN (by omega) (by omega)]; omega), if_neg (by rw [show (20 : Int32) = nI 20 from rfl, hp_ltN (by omega) (by omega)]; omega), if_neg (by rw [show (0 : Int32) = nI 0 from rfl, hp_ltN (by omega) (by omega)]; omega), if_neg (by rw [show (8 : Int32) = nI 8 from rfl, hp_ltN (by omega) (by omega)]; omega)]
    exact e1
  have hl := hp_hit_le y a k q
  by_cases hp : ∃ u, u < 2 ∧ p = nI u
  · obtain ⟨u, hu, rfl⟩ := hp
    refine ⟨hp_low (hp_hit y a k q) q u, _, ⟨hw, hw1⟩, hp_qx fun D hX => ?_, hp_qm fun D hR => ?_⟩
    · obtain ⟨D1, e1, f1⟩ := kx D hX
      refine ⟨D1, ?_, hp_scD f1⟩
      rw [e1, hp_loX8 N (by omega) (by omega) (by omega) hq.1 hu, Option.bind_some]
    · obtain ⟨D1, e1, f1⟩ := hp_odM N (by omega) hw a (nI u) hR hq.2 hk q 0 N D (by omega) (by omega) (fun _ _ _ => rfl)
      refine ⟨D1, ?_, hp_smD f1⟩
      rw [hp_loM9 N (by omega) (by omega) (by omega) hq.1 hu, Option.bind_some] at e1
      rw [F_X9_odds_eq, hp_isIn, if_pos (by rw [hp_l1, hp_l20]; exact hb), Option.bind_some, if_neg (show ¬ ((1 : Int32) = 0) by decide), hp_isIn, if_pos (by rw [hp_l0, hp_l8]; exact hc), Option.bind_some, if_neg (show ¬ ((1 : Int32) = 0) by decide), hp_isIn, if_pos (by rw [hp_l0, hp_l1, hp_ti (by omega)]; omega), Option.bind_some, if_neg (show ¬ ((1 : Int32) = 0) by decide)]
      exact e1
  · refine ⟨-9223372036854775808, _, ⟨hw, hw1⟩, hp_qx fun D hX => ?_, hp_qm0 fun D hR => ?_⟩
    · obtain ⟨D1, e1, f1⟩ := kx D hX
      refine ⟨D1, ?_, hp_scD f1⟩
      rw [e1, hp_loX8b N (by omega) (by omega) (by omega) hq.1 hp, Option.bind_some]
    · rw [F_X9_odds_eq, hp_isIn, if_pos (by rw [hp_l1, hp_l20]; exact hb), Option.bind_some, if_neg (show ¬ ((1 : Int32) = 0) by decide), hp_isIn, if_pos (by rw [hp_l0, hp_l8]; exact hc), Option.bind_some, if_neg (show ¬ ((1 : Int32) = 0) by decide), hp_isIn, if_neg (by
        rw [hp_l0, hp_l1]
        intro z
        apply hp
        obtain ⟨u, hu0, eu, eu2⟩ := hp_ofI (a := p) z.1
        exact ⟨u, by omega, eu⟩)]
      rfl
