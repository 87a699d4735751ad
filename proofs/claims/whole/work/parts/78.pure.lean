/-! ===== judge ===== -/
theorem hp_R_back {q : hp_T} {D D' : hy_M} (h : hp_R q D) (h68 : ∀ j, j < 94 → D' 68 j = D 68 j) (hf : ∀ c, (c = 69 ∨ c = 71 ∨ c = 77 ∨ c = 79 ∨ c = 80) → D' c = D c) (h67 : ∀ j, (j = 3 ∨ j = 5 ∨ j = 14 ∨ j = 16) → D' 67 j = D 67 j) : hp_R q D' := by
  obtain ⟨y, pu, yk, pk, fl, T, P, tp, pp, ls, lc⟩ := q
  exact ⟨hp_MY_cp h.1 h68, hp_M1_fr h.2 hf h67⟩
theorem hp_jdM (N : Nat) (hN : 10 ≤ N) {y : Nat → Nat → Nat} (hw : hp_WF y) {b : Nat → Nat} {D : hy_M} (m00 : D 68 0 = nI (y 0 0)) (m4 : ∀ j, j < 8 → D 68 (4 + j) = nI (y 1 j)) (m30 : ∀ t, t < 2 → ∀ j, j < 8 → D 68 (30 + 8 * t + j) = nI (y (6 + t) j)) (m28 : ∀ t, t < 2 → D 68 (28 + t) = nI (y 8 t)) (m46 : ∀ t, t < 3 → D 68 (46 + t) = nI (y 9 t)) (hb : ∀ j, j < y 0 0 → D 68 (12 + j) = nI (b j)) (hb8 : ∀ j, j < y 0 0 → b j < 8) : F_X9_judged N D = some (match hp_nr y b with | some w => nI (100 + w) | none => match hp_tl y b with | some t => nI (200 + t) | none => -nI 5, D) := by
  have k1 := hp_nrM N hN hw m30 m28 hb hb8
  have k3 := hp_tlM N hN hw m00 m4 m46 hb hb8
  clear hb hb8
  rw [F_X9_judged_eq]
  cases e : hp_nr y b with
  | some w =>
    have := hp_nr_lt hw _ e
    rw [e] at k1
    have k1' : F_X9_notRight N D = some (nI w, D) := k1
    simp (disch := omega) only [hp_kN, nI_add, pk_mul, hp_isInN, hp_m1L, hp_l0, hp_l1, hp_l2, hp_l3, hp_l4, hp_l5, hp_l7, hp_l8, hp_l10, hp_l17, hp_l20, hp_l24, hp_l48, hp_l50, hp_l55, hp_l127, hp_lm1, hp_eqN, hp_ltN, hp_inN, hp_cl, if_pos, if_neg, if_true, if_false, Option.bind_some, k1']
  | none =>
    rw [e] at k1
    have k1' : F_X9_notRight N D = some (-nI 1, D) := k1
    cases e3 : hp_tl y b with
    | some t =>
      have := hp_tl_lt e3
      rw [e3] at k3
      have k3' : F_X9_tooLoaded N D = some (nI t, D) := k3
      simp (disch := omega) only [hp_kN, nI_add, pk_mul, hp_isInN, hp_m1L, hp_l0, hp_l1, hp_l2, hp_l3, hp_l4, hp_l5, hp_l7, hp_l8, hp_l10, hp_l17, hp_l20, hp_l24, hp_l48, hp_l50, hp_l55, hp_l127, hp_lm1, hp_eqN, hp_ltN, hp_inN, hp_cl, if_pos, if_neg, if_true, if_false, Option.bind_some, k1', hp_n1, k3']
    | none =>
      rw [e3] at k3
      have k3' : F_X9_tooLoaded N D = some (-nI 1, D) := k3
      simp (disch := omega) only [hp_kN, nI_add, pk_mul, hp_isInN, hp_m1L, hp_l0, hp_l1, hp_l2, hp_l3, hp_l4, hp_l5, hp_l7, hp_l8, hp_l10, hp_l17, hp_l20, hp_l24, hp_l48, hp_l50, hp_l55, hp_l127, hp_lm1, hp_eqN, hp_ltN, hp_inN, hp_cl, if_pos, if_neg, if_true, if_false, Option.bind_some, k1', hp_n1, k3']
theorem hp_jg104 (N : Nat) {k n0 : Nat} (hk : k < 4) (hn8 : n0 ≤ 8) (c : Nat → Int32) (D0 : hy_M) (hD0 : D0 68 0 = nI n0) (hc : ∀ j, j < n0 → D0 79 (12 * k + j) = c j) : ∀ m i n D, i + m = n0 → m < n → (∀ p, D 68 p = if 12 ≤ p ∧ p < 12 + i then c (p - 12) else D0 68 p) → (∀ q, q ≠ 68 → D q = D0 q) → ∃ D1, F_X9_judge_104 N n (nI k) (nI i) D = (F_X9_judged N D1).bind (fun q1 => (F_X9_copies_67_70_68 N q1.2).bind (fun q2 => some (q1.1, q2))) ∧ (∀ p, D1 68 p = if 12 ≤ p ∧ p < 12 + n0 then c (p - 12) else D0 68 p) ∧ (∀ q, q ≠ 68 → D1 q = D0 q) := by
  intro m
  induction m with
  | zero =>
    intro i n D e hm h1 h2
    obtain ⟨n, rfl⟩ : ∃ n', n = n' + 1 := ⟨n - 1, by omega⟩
    have e : i = n0 := by omega
    subst e
    have m00 : D 68 0 = nI i := by rw [h1, if_neg (by omega)]; exact hD0
    refine ⟨D, ?_, h1, h2⟩
    clear h1 h2
    rw [F_X9_judge_104_eq]
    simp (disch := omega) only [hp_kN, nI_add, pk_mul, hp_isInN, hp_m1L, hp_l0, hp_l1, hp_l2, hp_l3, hp_l4, hp_l5, hp_l7, hp_l8, hp_l10, hp_l17, hp_l20, hp_l24, hp_l48, hp_l50, hp_l55, hp_l127, hp_lm1, hp_eqN, hp_ltN, hp_inN, hp_cl, if_pos, if_neg, if_true, if_false, Option.bind_some, m00]
  | succ m ih =>
    intro i n D e hm h1 h2
    obtain ⟨n, rfl⟩ : ∃ n', n = n' + 1 := ⟨n - 1, by omega⟩
    have m00 : D 68 0 = nI n0 := by rw [h1, if_neg (by omega)]; exact hD0
    have m79 : D 79 (12 * k + i) = c i := by rw [h2 79 (by omega)]; exact hc i (by omega)
    have e2 : F_X9_judge_104 N (n + 1) (nI k) (nI i) D = F_X9_judge_104 N n (nI k) (nI (i + 1)) (hy_w D 68 (12 + i) (c i)) := by
      clear h1 h2 ih hc
      rw [F_X9_judge_104_eq]
      simp (disch := omega) only [hp_kN, nI_add, pk_mul, hp_isInN, hp_m1L, hp_l0, hp_l1, hp_l2, hp_l3, hp_l4, hp_l5, hp_l7, hp_l8, hp_l10, hp_l17, hp_l20, hp_l24, hp_l48, hp_l50, hp_l55, hp_l127, hp_lm1, hp_eqN, hp_ltN, hp_inN, hp_cl, if_pos, if_neg, if_true, if_false, Option.bind_some, m00, m79]
    rw [e2]
    refine ih (i + 1) n _ (by omega) (by omega) (fun p => ?_) (fun q hq => by rw [hy_w_ne hq, h2 q hq])
    rw [hp_w]
    by_cases q : p = 12 + i
    · rw [if_pos ⟨rfl, q⟩, if_pos (by omega), show p - 12 = i by omega]
    · rw [if_neg (by omega), h1]
      by_cases q2 : 12 ≤ p ∧ p < 12 + i
      · rw [if_pos q2, if_pos (by omega)]
      · rw [if_neg q2, if_neg (by omega)]
theorem hp_jgM (N : Nat) (hN : 100 ≤ N) {y : Nat → Nat → Nat} {pu : Int32} {yk : Nat → Nat → Nat} {pk : Int32} {fl T P : Nat} {tp pp : Nat → Nat} {ls : Nat → Int32} {lc : Nat → Nat → Int32} (hw : hp_WF y) {k s : Nat} (hk : k < 4) (hs12 : s ≤ 12) (hs : ls k = nI s) {D : hy_M} (hR : hp_R (y, pu, yk, pk, fl, T, P, tp, pp, ls, lc) D) : ∀ m i n, i + m = y 0 0 → m < n → (∀ j, j < i → hp_jok (y 0 1) (if y 0 0 < s then y 0 0 else s) (lc k) j) → ∃ D1, F_X9_judge_23 N n (nI k) (nI i) D = some (match hp_j1 (y 0 1) (if y 0 0 < s then y 0 0 else s) (lc k) m i with | some w => nI w | none => match hp_nr y (hp_jn (lc k)) with | some w => nI (100 + w) | none => match hp_tl y (hp_jn (lc k)) with | some t => nI (200 + t) | none => -nI 5, D1) ∧ (∀ j, j < 94 → D1 68 j = D 68 j) ∧ (∀ c, c ≠ 68 → c ≠ 70 → D1 c = D c) := by
  have b0 := hw.1
  have x80 : D 80 k = nI s := ((hR.2.2.2.2.2.2.2.1 k hk).1).trans hs
  have x79 : ∀ j, j < s → D 79 (12 * k + j) = lc k j := fun j hj => (hR.2.2.2.2.2.2.2.1 k hk).2 j (by rw [hs, hp_ti (by omega)]; omega)
  obtain ⟨m00, m01, m02, m03, m4, m12, m20, m30, m28, m46, m70, m51, m67, m49⟩ := hp_Mf hw hR.1
  intro m
  induction m with
  | zero =>
    intro i n e hm hj
    obtain ⟨n, rfl⟩ : ∃ n', n = n' + 1 := ⟨n - 1, by omega⟩
    have e : i = y 0 0 := by omega
    subst e
    have hok := hj
    have hts : ∀ j, j < y 0 0 → j < s := fun j hj2 => by
      have := (hj j hj2).1
      split at this <;> omega
    obtain ⟨D1, e1, f1, f2⟩ := hp_mc N hN D
    obtain ⟨D2, e2, g1, g2⟩ := hp_jg104 N hk b0 (lc k) D1 (by rw [f2 68 (by omega)]; exact m00) (fun j hj2 => by rw [f2 79 (by omega)]; exact x79 j (hts j hj2)) (y 0 0) 0 N D1 (by omega) (by omega) (fun p => by rw [if_neg (by omega)]) (fun _ _ => rfl)
    have g3 : ∀ p, ¬ (12 ≤ p ∧ p < 20) → D2 68 p = D 68 p := fun p hp => by rw [g1 p, if_neg (by omega), f2 68 (by omega)]
    have k1 := hp_jdM N (by omega) hw (b := hp_jn (lc k)) (D := D2) (by rw [g3 _ (by omega)]; exact m00) (fun j hj2 => by rw [g3 _ (by omega)]; exact m4 j hj2) (fun t ht j hj2 => by rw [g3 _ (by omega)]; exact m30 t ht j hj2) (fun t ht => by rw [g3 _ (by omega)]; exact m28 t ht) (fun t ht => by rw [g3 _ (by omega)]; exact m46 t ht) (fun j hj2 => by rw [g1, if_pos (by omega), show 12 + j - 12 = j by omega]; exact (hp_jI (hok j hj2).2.1).symm) (fun j hj2 => hp_jlt (hok j hj2).2.1 (hok j hj2).2.2.1)
    obtain ⟨D3, e3, h1, h2⟩ := hp_mc_67_70_68 N hN D2
    refine ⟨D3, ?_, fun j hj2 => by rw [h1 j hj2, g2 70 (by omega), f1 j hj2], fun c a b => by rw [h2 c a, g2 c a, f2 c b]⟩
    rw [F_X9_judge_23_eq, m00]
    unfold hp_j1
    clear hj hok hts g1 g2 g3 f1 f2 h1 h2 x79
    simp (disch := omega) only [hp_kN, nI_add, pk_mul, hp_isInN, hp_m1L, hp_l0, hp_l1, hp_l2, hp_l3, hp_l4, hp_l5, hp_l7, hp_l8, hp_l10, hp_l17, hp_l20, hp_l24, hp_l48, hp_l50, hp_l55, hp_l127, hp_lm1, hp_eqN, hp_ltN, hp_inN, hp_cl, if_pos, if_neg, if_true, if_false, Option.bind_some, e1, e2, k1, e3]
  | succ m ih =>
    intro i n e hm hj
    obtain ⟨n, rfl⟩ : ∃ n', n = n' + 1 := ⟨n - 1, by omega⟩
    rw [F_X9_judge_23_eq, m00]
    unfold hp_j1
    by_cases q : hp_jok (y 0 1) (if y 0 0 < s then y 0 0 else s) (lc k) i
    · have hts : i < s := by
        have := q.1
        split at this <;> omega
      obtain ⟨D1, e1, f1, f2⟩ := ih (i + 1) n (by omega) (by omega) (fun j hj2 => by
        by_cases e : j = i
        · subst e
          exact q
        · exact hj j (by omega))
      refine ⟨D1, ?_, f1, f2⟩
      rw [if_pos q, ← e1]
      have hci := x79 i hts
      have z1 : D 79 (12 * k + i) = nI (hp_jn (lc k) i) := hci.trans (hp_jI q.2.1).symm
      have z2 : hp_jn (lc k) i < 8 := hp_jlt q.2.1 q.2.2.1
      have z3 : hp_may (y 0 1) (hp_jn (lc k) i) = 1 := q.2.2.2
      clear ih hj q hci e1 f1 f2 x79
      simp (disch := omega) only [hp_kN, nI_add, pk_mul, hp_isInN, hp_m1L, hp_l0, hp_l1, hp_l2, hp_l3, hp_l4, hp_l5, hp_l7, hp_l8, hp_l10, hp_l17, hp_l20, hp_l24, hp_l48, hp_l50, hp_l55, hp_l127, hp_lm1, hp_eqN, hp_ltN, hp_inN, hp_cl, if_pos, if_neg, if_true, if_false, Option.bind_some, x80, z1, m01, hp_mayM N (by omega) hw.2.1, z3]
    · refine ⟨D, ?_, fun _ _ => rfl, fun _ _ _ => rfl⟩
      rw [if_neg q]
      by_cases q1 : i < s
      · have hci := x79 i q1
        have qt : i < (if y 0 0 < s then y 0 0 else s) := by split <;> omega
        clear ih hj x79
        rcases hp_arg (lc k i) with ⟨a0, a1, a2⟩ | ⟨u, hu, eu⟩
        · clear q qt
          simp (disch := omega) only [hp_kN, nI_add, pk_mul, hp_isInN, hp_m1L, hp_l0, hp_l1, hp_l2, hp_l3, hp_l4, hp_l5, hp_l7, hp_l8, hp_l10, hp_l17, hp_l20, hp_l24, hp_l48, hp_l50, hp_l55, hp_l127, hp_lm1, hp_eqN, hp_ltN, hp_inN, hp_cl, if_pos, if_neg, if_true, if_false, Option.bind_some, x80, hci, hp_isIng N a2 0 _ (by decide)]
        · rw [eu] at hci
          have tu := hp_ti hu
          by_cases u8 : u < 8
          · have e3 : hp_may (y 0 1) u = 0 := by
              rcases hp_may01 (y 0 1) u with z | z
              · exact z
              · exfalso
                apply q
                refine ⟨qt, ?_, ?_, ?_⟩
                · rw [eu, tu]; omega
                · rw [eu, tu]; omega
                · rw [eu, hp_cl hu]; exact z
            clear q qt
            simp (disch := omega) only [hp_kN, nI_add, pk_mul, hp_isInN, hp_m1L, hp_l0, hp_l1, hp_l2, hp_l3, hp_l4, hp_l5, hp_l7, hp_l8, hp_l10, hp_l17, hp_l20, hp_l24, hp_l48, hp_l50, hp_l55, hp_l127, hp_lm1, hp_eqN, hp_ltN, hp_inN, hp_cl, if_pos, if_neg, if_true, if_false, Option.bind_some, x80, hci, m01, hp_mayM N (by omega) hw.2.1, e3]
          · clear q qt
            simp (disch := omega) only [hp_kN, nI_add, pk_mul, hp_isInN, hp_m1L, hp_l0, hp_l1, hp_l2, hp_l3, hp_l4, hp_l5, hp_l7, hp_l8, hp_l10, hp_l17, hp_l20, hp_l24, hp_l48, hp_l50, hp_l55, hp_l127, hp_lm1, hp_eqN, hp_ltN, hp_inN, hp_cl, if_pos, if_neg, if_true, if_false, Option.bind_some, x80, hci]
      · clear ih hj q x79
        simp (disch := omega) only [hp_kN, nI_add, pk_mul, hp_isInN, hp_m1L, hp_l0, hp_l1, hp_l2, hp_l3, hp_l4, hp_l5, hp_l7, hp_l8, hp_l10, hp_l17, hp_l20, hp_l24, hp_l48, hp_l50, hp_l55, hp_l127, hp_lm1, hp_eqN, hp_ltN, hp_inN, hp_cl, if_pos, if_neg, if_true, if_false, Option.bind_some, x80]
theorem st_judge (N : Nat) (hN : 100 ≤ N) (a : Int32) : hp_step (F_X8_judge N a) (F_X9_judge N a) := by
  rintro ⟨y, pu, yk, pk, fl, T, P, tp, pp, ls, lc⟩ ⟨hw, hw1⟩
  obtain ⟨b0, b1, b2, b8, b17, b9⟩ := hp_Wb hw
  rcases hp_arg a with ⟨a0, a1, a2⟩ | ⟨k, hk, rfl⟩
  · refine ⟨-1, _, ⟨hw, hw1⟩, hp_qx0 fun D hX => ?_, hp_qm0 fun D hR => ?_⟩
    · rw [F_X8_judge_eq, hp_X_isListg N a0]
      rfl
    · rw [F_X9_judge_eq, hp_M_isListg N a2]
      rfl
  by_cases c : k < 4
  case neg =>
    refine ⟨-1, _, ⟨hw, hw1⟩, hp_qx0 fun D hX => ?_, hp_qm0 fun D hR => ?_⟩
    · rw [F_X8_judge_eq, hp_X_isList N hk, if_neg c]
      rfl
    · rw [F_X9_judge_eq, hp_M_isList N hk, if_neg c]
      rfl
  rcases hp_lsc (hw1.2.2.2.2.2.2 k c) with hs | ⟨s, hs12, hs⟩
  · refine ⟨-11, _, ⟨hw, hw1⟩, hp_qx0 fun D hX => ?_, hp_qm0 fun D hR => ?_⟩
    · have x47 : D 47 k = -nI 1 := ((hX.2.2.2.2.2.2.2.1 k c).1).trans hs
      have h1 : F_X3_holds N (nI k) D = some (nI 0, D) := by
        rw [F_X3_holds_eq]
        simp (disch := omega) only [hp_kN, nI_add, pk_mul, hp_isInN, hp_m1L, hp_l0, hp_l1, hp_l2, hp_l3, hp_l4, hp_l5, hp_l7, hp_l8, hp_l10, hp_l17, hp_l20, hp_l24, hp_l48, hp_l50, hp_l55, hp_l127, hp_lm1, hp_eqN, hp_ltN, hp_inN, hp_cl, if_pos, if_neg, if_true, if_false, Option.bind_some, x47, hp_n1]
      rw [F_X8_judge_eq]
      simp (disch := omega) only [hp_kN, nI_add, pk_mul, hp_isInN, hp_m1L, hp_l0, hp_l1, hp_l2, hp_l3, hp_l4, hp_l5, hp_l7, hp_l8, hp_l10, hp_l17, hp_l20, hp_l24, hp_l48, hp_l50, hp_l55, hp_l127, hp_lm1, hp_eqN, hp_ltN, hp_inN, hp_cl, if_pos, if_neg, if_true, if_false, Option.bind_some, hp_X_isList, h1]
    · have x80 : D 80 k = -nI 1 := ((hR.2.2.2.2.2.2.2.1 k c).1).trans hs
      rw [F_X9_judge_eq]
      simp (disch := omega) only [hp_kN, nI_add, pk_mul, hp_isInN, hp_m1L, hp_l0, hp_l1, hp_l2, hp_l3, hp_l4, hp_l5, hp_l7, hp_l8, hp_l10, hp_l17, hp_l20, hp_l24, hp_l48, hp_l50, hp_l55, hp_l127, hp_lm1, hp_eqN, hp_ltN, hp_inN, hp_cl, if_pos, if_neg, if_true, if_false, Option.bind_some, hp_M_isList, x80, hp_n1]
  refine ⟨hp_jA y (if y 0 0 < s then y 0 0 else s) (lc k), _, ⟨hw, hw1⟩, hp_qx fun D hX => ?_, fun D hR => ?_⟩
  · have x47 : D 47 k = nI s := ((hX.2.2.2.2.2.2.2.1 k c).1).trans hs
    have x43 : ∀ j, j < s → D (43 + k) j = lc k j := fun j hj => (hX.2.2.2.2.2.2.2.1 k c).2 j (by rw [hs, hp_ti (by omega)]; omega)
    obtain ⟨x00, x01, x02, x03, x1, x2, x3, x4, x6, x8, x9, x12, x17⟩ := hp_Xf hw hX.1
    obtain ⟨told, htd⟩ : ∃ told, told = if y 0 0 < s then y 0 0 else s := ⟨_, rfl⟩
    have hto : told ≤ y 0 0 ∧ told ≤ s ∧ told ≤ 8 := by rw [htd]; split <;> omega
    have hmin : (if y 0 0 < s then nI (y 0 0) else nI s) = nI told := by
      rw [htd]
      by_cases z : y 0 0 < s
      · simp (disch := omega) only [hp_kN, nI_add, pk_mul, hp_isInN, hp_m1L, hp_l0, hp_l1, hp_l2, hp_l3, hp_l4, hp_l5, hp_l7, hp_l8, hp_l10, hp_l17, hp_l20, hp_l24, hp_l48, hp_l50, hp_l55, hp_l127, hp_lm1, hp_eqN, hp_ltN, hp_inN, hp_cl, if_pos, if_neg, if_true, if_false, Option.bind_some]
      · simp (disch := omega) only [hp_kN, nI_add, pk_mul, hp_isInN, hp_m1L, hp_l0, hp_l1, hp_l2, hp_l3, hp_l4, hp_l5, hp_l7, hp_l8, hp_l10, hp_l17, hp_l20, hp_l24, hp_l48, hp_l50, hp_l55, hp_l127, hp_lm1, hp_eqN, hp_ltN, hp_inN, hp_cl, if_pos, if_neg, if_true, if_false, Option.bind_some]
    have hf : ∀ q, q ≠ 66 → hy_cp D (43 + k) 66 0 0 told q = D q := fun q hq => hp_cpn hq
    have k1 := hp_jX_1_66 N (by omega) hw (c := lc k) (told := told) (D := hy_cp D (43 + k) 66 0 0 told) (by rw [hf 1 (by omega)]; exact x00) (by rw [hf 1 (by omega)]; exact x01) (fun j hj => by rw [hf 2 (by omega)]; exact x1 j hj) (fun t ht j hj => by rw [hf (7 + t) (by omega)]; exact x6 t ht j hj) (fun t ht => by rw [hf 9 (by omega)]; exact x8 t ht) (fun t ht => by rw [hf 10 (by omega)]; exact x9 t ht) hto.1 (fun j hj => by rw [hp_cp0, if_pos hj]; exact x43 j (by omega))
    refine ⟨hy_cp D (43 + k) 66 0 0 told, ?_, fun q hq => hf q (by omega)⟩
    rw [← htd, F_X8_judge_eq]
    clear hf x43 htd
    simp (disch := omega) only [hp_kN, nI_add, pk_mul, hp_isInN, hp_m1L, hp_l0, hp_l1, hp_l2, hp_l3, hp_l4, hp_l5, hp_l7, hp_l8, hp_l10, hp_l17, hp_l20, hp_l24, hp_l48, hp_l50, hp_l55, hp_l127, hp_lm1, hp_eqN, hp_ltN, hp_inN, hp_cl, if_pos, if_neg, if_true, if_false, Option.bind_some, hp_X_isList, F_X3_holds_eq, x47, x00, hmin, hp_pr42, hp_wl43, hp_rng, and_self, k1]
  · have x80 : D 80 k = nI s := ((hR.2.2.2.2.2.2.2.1 k c).1).trans hs
    obtain ⟨D1, e1, f1, f2⟩ := hp_jgM N hN hw c hs12 hs hR (y 0 0) 0 N (by omega) (by omega) (fun j hj => absurd hj (by omega))
    refine ⟨D1, ?_, hp_R_back hR f1 (fun q hq => f2 q (by omega) (by omega)) (fun j _ => by rw [f2 67 (by omega) (by omega)]), fun q hq => f2 q (by omega) (by omega)⟩
    have e1' : F_X9_judge_23 N N (nI k) (nI 0) D = some (hp_jA y (if y 0 0 < s then y 0 0 else s) (lc k), D1) := e1
    clear e1 f1 f2
    rw [F_X9_judge_eq]
    simp (disch := omega) only [hp_kN, nI_add, pk_mul, hp_isInN, hp_m1L, hp_l0, hp_l1, hp_l2, hp_l3, hp_l4, hp_l5, hp_l7, hp_l8, hp_l10, hp_l17, hp_l20, hp_l24, hp_l48, hp_l50, hp_l55, hp_l127, hp_lm1, hp_eqN, hp_ltN, hp_inN, hp_cl, if_pos, if_neg, if_true, if_false, Option.bind_some, hp_M_isList, x80]
    exact e1'
