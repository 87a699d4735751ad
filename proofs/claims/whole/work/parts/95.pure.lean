/-! ===== elsewhere ===== -/
def hp_mv (w p j : Nat) : Nat := if j = w then p else if (if j < w then j else j - 1) < p then (if j < w then j else j - 1) else (if j < w then j else j - 1) + 1
theorem hp_mv_id (w : Nat) : hp_mv w w = fun j => j := by
  funext j
  unfold hp_mv
  by_cases q : j = w
  · rw [if_pos q, q]
  · rw [if_neg q]
    by_cases q2 : j < w
    · rw [if_pos q2, if_pos q2]
    · rw [if_neg q2, if_neg (by omega)]
      omega
theorem hp_mv_lt {w p j n : Nat} (hp : p < n) (hj : j < n) : hp_mv w p j < n + 1 := by
  unfold hp_mv
  repeat' split
  all_goals omega
theorem hp_mvX (N : Nat) {n w p : Nat} (hn : n ≤ 8) (hw : w < n) (hp : p < n) : ∀ m i f D, i + m = n → m < f → (∀ j, j < i → D 57 j = nI (hp_mv w p j)) → ∃ D1, F_X5_moveTo_3 N f (nI n) (nI w) (nI p) (nI i) D = some D1 ∧ (∀ j, j < n → D1 57 j = nI (hp_mv w p j)) ∧ ∀ c, c ≠ 57 → D1 c = D c := by
  intro m
  induction m with
  | zero =>
    intro i f D e hf h
    obtain ⟨f, rfl⟩ : ∃ f', f = f' + 1 := ⟨f - 1, by omega⟩
    have e : i = n := by omega
    subst e
    refine ⟨D, ?_, h, fun _ _ => rfl⟩
    rw [F_X5_moveTo_3_eq, if_neg]
    rw [hp_ltN (by omega) (by omega)]
    omega
  | succ m ih =>
    intro i f D e hf h
    obtain ⟨f, rfl⟩ : ∃ f', f = f' + 1 := ⟨f - 1, by omega⟩
    obtain ⟨D1, e1, f1, f2⟩ := ih (i + 1) f (hy_w D 57 i (nI (hp_mv w p i))) (by omega) (by omega) (fun j hj => by
      by_cases q : j = i
      · subst q
        rw [hp_ws]
      · rw [hp_wn (Or.inr q)]
        exact h j (by omega))
    refine ⟨D1, ?_, f1, fun c q => by rw [f2 c q, hy_w_ne q]⟩
    clear ih h f1 f2
    rw [← e1, F_X5_moveTo_3_eq]
    clear e1
    unfold hp_mv
    by_cases q : i = w
    · simp (disch := omega) only [hp_kN, nI_add, pk_mul, hp_isInN, hp_m1L, hp_l0, hp_l1, hp_l2, hp_l3, hp_l4, hp_l5, hp_l7, hp_l8, hp_l10, hp_l17, hp_l20, hp_l24, hp_l48, hp_l50, hp_l55, hp_l127, hp_lm1, hp_eqN, hp_ltN, hp_inN, hp_cl, if_pos, if_neg, if_true, if_false, Option.bind_some]
    · by_cases q2 : i < w
      · by_cases q3 : i < p
        · simp (disch := omega) only [hp_kN, nI_add, pk_mul, hp_isInN, hp_m1L, hp_l0, hp_l1, hp_l2, hp_l3, hp_l4, hp_l5, hp_l7, hp_l8, hp_l10, hp_l17, hp_l20, hp_l24, hp_l48, hp_l50, hp_l55, hp_l127, hp_lm1, hp_eqN, hp_ltN, hp_inN, hp_cl, if_pos, if_neg, if_true, if_false, Option.bind_some, F_X5_moveTo_41_eq]
        · simp (disch := omega) only [hp_kN, nI_add, pk_mul, hp_isInN, hp_m1L, hp_l0, hp_l1, hp_l2, hp_l3, hp_l4, hp_l5, hp_l7, hp_l8, hp_l10, hp_l17, hp_l20, hp_l24, hp_l48, hp_l50, hp_l55, hp_l127, hp_lm1, hp_eqN, hp_ltN, hp_inN, hp_cl, if_pos, if_neg, if_true, if_false, Option.bind_some, F_X5_moveTo_41_eq]
      · by_cases q3 : i - 1 < p
        · simp (disch := omega) only [hp_kN, nI_add, pk_mul, hp_isInN, hp_m1L, hp_l0, hp_l1, hp_l2, hp_l3, hp_l4, hp_l5, hp_l7, hp_l8, hp_l10, hp_l17, hp_l20, hp_l24, hp_l48, hp_l50, hp_l55, hp_l127, hp_lm1, hp_eqN, hp_ltN, hp_inN, hp_cl, if_pos, if_neg, if_true, if_false, Option.bind_some, F_X5_moveTo_41_eq, pk_sub]
        · simp (disch := omega) only [hp_kN, nI_add, pk_mul, hp_isInN, hp_m1L, hp_l0, hp_l1, hp_l2, hp_l3, hp_l4, hp_l5, hp_l7, hp_l8, hp_l10, hp_l17, hp_l20, hp_l24, hp_l48, hp_l50, hp_l55, hp_l127, hp_lm1, hp_eqN, hp_ltN, hp_inN, hp_cl, if_pos, if_neg, if_true, if_false, Option.bind_some, F_X5_moveTo_41_eq, pk_sub]
theorem hp_mvM (N : Nat) {n w p : Nat} (hn : n ≤ 8) (hw : w < n) (hp : p < n) : ∀ m i f D, i + m = n → m < f → D 68 0 = nI n → (∀ j, j < i → j ≠ w → D 72 j = nI (hp_mv w p j)) → ∃ D1, F_X9_moves_2 N f (nI w) (nI p) (nI i) D = some D1 ∧ (∀ j, j < n → D1 72 j = nI (hp_mv w p j)) ∧ ∀ c, c ≠ 72 → D1 c = D c := by
  intro m
  induction m with
  | zero =>
    intro i f D e hf h0 h
    obtain ⟨f, rfl⟩ : ∃ f', f = f' + 1 := ⟨f - 1, by omega⟩
    have e : i = n := by omega
    subst e
    refine ⟨hy_w D 72 w (nI p), ?_, fun j hj => ?_, fun c q => hy_w_ne q⟩
    · rw [F_X9_moves_2_eq]
      clear h
      simp (disch := omega) only [hp_kN, nI_add, pk_mul, hp_isInN, hp_m1L, hp_l0, hp_l1, hp_l2, hp_l3, hp_l4, hp_l5, hp_l7, hp_l8, hp_l10, hp_l17, hp_l20, hp_l24, hp_l48, hp_l50, hp_l55, hp_l127, hp_lm1, hp_eqN, hp_ltN, hp_inN, hp_cl, if_pos, if_neg, if_true, if_false, Option.bind_some, h0]
    · by_cases q : j = w
      · rw [q, hp_ws]
        unfold hp_mv
        rw [if_pos rfl]
      · rw [hp_wn (Or.inr q)]
        exact h j hj q
  | succ m ih =>
    intro i f D e hf h0 h
    obtain ⟨f, rfl⟩ : ∃ f', f = f' + 1 := ⟨f - 1, by omega⟩
    obtain ⟨v, ev⟩ : ∃ v, v = if (if w < i then i - 1 else i) < p then (if w < i then i - 1 else i) else (if w < i then i - 1 else i) + 1 := ⟨_, rfl⟩
    obtain ⟨D1, e1, f1, f2⟩ := ih (i + 1) f (hy_w D 72 i (nI v)) (by omega) (by omega) (by rw [hy_w_ne (by omega)]; exact h0) (fun j hj hj2 => by
      by_cases q : j = i
      · subst q
        rw [hp_ws, ev]
        unfold hp_mv
        rw [if_neg hj2]
        by_cases q2 : j < w
        · simp only [if_pos q2, if_neg (show ¬ w < j by omega)]
        · simp only [if_neg q2, if_pos (show w < j by omega)]
      · rw [hp_wn (Or.inr q)]
        exact h j (by omega) hj2)
    refine ⟨D1, ?_, f1, fun c q => by rw [f2 c q, hy_w_ne q]⟩
    clear ih h f1 f2
    rw [← e1, F_X9_moves_2_eq, ev]
    clear e1 ev
    by_cases q2 : w < i
    · by_cases q3 : i - 1 < p
      · simp (disch := omega) only [hp_kN, nI_add, pk_mul, hp_isInN, hp_m1L, hp_l0, hp_l1, hp_l2, hp_l3, hp_l4, hp_l5, hp_l7, hp_l8, hp_l10, hp_l17, hp_l20, hp_l24, hp_l48, hp_l50, hp_l55, hp_l127, hp_lm1, hp_eqN, hp_ltN, hp_inN, hp_cl, if_pos, if_neg, if_true, if_false, Option.bind_some, h0, F_X9_moves_24_eq, pk_sub]
      · simp (disch := omega) only [hp_kN, nI_add, pk_mul, hp_isInN, hp_m1L, hp_l0, hp_l1, hp_l2, hp_l3, hp_l4, hp_l5, hp_l7, hp_l8, hp_l10, hp_l17, hp_l20, hp_l24, hp_l48, hp_l50, hp_l55, hp_l127, hp_lm1, hp_eqN, hp_ltN, hp_inN, hp_cl, if_pos, if_neg, if_true, if_false, Option.bind_some, h0, F_X9_moves_24_eq, pk_sub]
    · by_cases q3 : i < p
      · simp (disch := omega) only [hp_kN, nI_add, pk_mul, hp_isInN, hp_m1L, hp_l0, hp_l1, hp_l2, hp_l3, hp_l4, hp_l5, hp_l7, hp_l8, hp_l10, hp_l17, hp_l20, hp_l24, hp_l48, hp_l50, hp_l55, hp_l127, hp_lm1, hp_eqN, hp_ltN, hp_inN, hp_cl, if_pos, if_neg, if_true, if_false, Option.bind_some, h0, F_X9_moves_24_eq]
      · simp (disch := omega) only [hp_kN, nI_add, pk_mul, hp_isInN, hp_m1L, hp_l0, hp_l1, hp_l2, hp_l3, hp_l4, hp_l5, hp_l7, hp_l8, hp_l10, hp_l17, hp_l20, hp_l24, hp_l48, hp_l50, hp_l55, hp_l127, hp_lm1, hp_eqN, hp_ltN, hp_inN, hp_cl, if_pos, if_neg, if_true, if_false, Option.bind_some, h0, F_X9_moves_24_eq]
/-- the best one so far: who and where, and its need -/
abbrev hp_B : Type := Option (Nat × Nat) × Nat
def hp_e1 (y : Nat → Nat → Nat) (k p : Nat) (B : hp_B) : hp_B := if hp_need y (hp_mv k p) < B.2 then (some (k, p), hp_need y (hp_mv k p)) else B
def hp_ei (y : Nat → Nat → Nat) (k : Nat) : Nat → Nat → hp_B → hp_B
  | 0, _, B => B
  | m + 1, p, B => hp_ei y k m (p + 1) (hp_e1 y k p B)
def hp_eo (y : Nat → Nat → Nat) (n : Nat) : Nat → Nat → hp_B → hp_B
  | 0, _, B => B
  | m + 1, k, B => hp_eo y n m (k + 1) (hp_ei y k n 0 B)
def hp_eok (y : Nat → Nat → Nat) (B : hp_B) : Prop := B.2 ≤ hp_need y (fun j => j) ∧ ∀ k p, B.1 = some (k, p) → k < 8 ∧ p < 8
theorem hp_e1_ok {y : Nat → Nat → Nat} {k p : Nat} {B : hp_B} (h : hp_eok y B) (hk : k < 8) (hp : p < 8) : hp_eok y (hp_e1 y k p B) := by
  unfold hp_e1
  split
  · rename_i q
    refine ⟨Nat.le_trans (Nat.le_of_lt q) h.1, fun k' p' e => ?_⟩
    have e2 : some (k, p) = some (k', p') := e
    injection e2 with e2
    injection e2 with e3 e4
    omega
  · exact h
def hp_b2 : Option (Nat × Nat) → Int32
  | none => -nI 1
  | some (k, _) => nI k
def hp_XB (B : hp_B) (D : hy_M) : Prop := D 55 4 = nI B.2 ∧ D 55 2 = hp_b2 B.1 ∧ ∀ k p, B.1 = some (k, p) → D 55 3 = nI p
section
variable {y : Nat → Nat → Nat} {pu : Int32} {yk : Nat → Nat → Nat} {pk : Int32} {fl T P : Nat} {tp pp : Nat → Nat} {ls : Nat → Int32} {lc : Nat → Nat → Int32}
theorem hp_eX28 (N : Nat) (hN : 10 ≤ N) (hw : hp_WF y) {D0 : hy_M} (hX : hp_X (y, pu, yk, pk, fl, T, P, tp, pp, ls, lc) D0) {k : Nat} (hk : k < y 0 0) (n18 : Nat) : ∀ m p f D B, p + m = y 0 0 → m < f → hp_XB B D → hp_eok y B → (∀ c, c ≠ 55 → c ≠ 57 → D c = D0 c) → ∃ D1, F_X5_findElsewhere_28 N n18 f (nI k) (nI p) D = F_X5_findElsewhere_18 N n18 (nI (k + 1)) D1 ∧ hp_XB (hp_ei y k m p B) D1 ∧ hp_eok y (hp_ei y k m p B) ∧ ∀ c, c ≠ 55 → c ≠ 57 → D1 c = D0 c := by
  have b0 := hw.1
  obtain ⟨x00, x01, x02, x03, x1, x2, x3, x4, x6, x8, x9, x12, x17⟩ := hp_Xf hw hX.1
  intro m
  induction m with
  | zero =>
    intro p f D B e hf h hok hfr
    obtain ⟨f, rfl⟩ : ∃ f', f = f' + 1 := ⟨f - 1, by omega⟩
    have z : D 1 0 = nI (y 0 0) := by rw [hfr 1 (by omega) (by omega)]; exact x00
    refine ⟨D, ?_, h, hok, hfr⟩
    rw [F_X5_findElsewhere_28_eq, z, if_neg (by rw [hp_ltN (by omega) (by omega)]; omega), hp_inc]
  | succ m ih =>
    intro p f D B e hf h hok hfr
    obtain ⟨f, rfl⟩ : ∃ f', f = f' + 1 := ⟨f - 1, by omega⟩
    have z : D 1 0 = nI (y 0 0) := by rw [hfr 1 (by omega) (by omega)]; exact x00
    obtain ⟨D1, e1, f1, f2⟩ := hp_mvX N b0 hk (p := p) (by omega) (y 0 0) 0 N D (by omega) (by omega) (fun j hj => absurd hj (by omega))
    have e1' : F_X5_moveTo N (nI (y 0 0)) (nI k) (nI p) D = some D1 := by
      rw [F_X5_moveTo_eq]
      exact e1
    have hfr1 : ∀ c, c ≠ 55 → c ≠ 57 → D1 c = D0 c := fun c a b => by rw [f2 c b, hfr c a b]
    have e2 := hp_needXn N hN hw (num := hp_mv k p) (D := D1) (fun t ht j hj => by rw [hfr1 (7 + t) (by omega) (by omega)]; exact x6 t ht j hj) f1 (fun j hj => by have := hp_mv_lt (w := k) (p := p) (j := j) (n := y 0 0) (by omega) hj; omega) (fun t ht => by rw [hfr1 9 (by omega) (by omega)]; exact x8 t ht)
    have hnl := hp_need_le (y := y) (hp_mv k p) hw
    have hn2 := hp_need_le (y := y) (fun j => j) hw
    have hB := hok.1
    have z4 : D1 55 4 = nI B.2 := by rw [f2 55 (by omega)]; exact h.1
    have ok1 := hp_e1_ok (k := k) (p := p) hok (by omega) (by omega)
    show ∃ D1, F_X5_findElsewhere_28 N n18 (f + 1) (nI k) (nI p) D = F_X5_findElsewhere_18 N n18 (nI (k + 1)) D1 ∧ hp_XB (hp_ei y k m (p + 1) (hp_e1 y k p B)) D1 ∧ hp_eok y (hp_ei y k m (p + 1) (hp_e1 y k p B)) ∧ ∀ c, c ≠ 55 → c ≠ 57 → D1 c = D0 c
    rw [F_X5_findElsewhere_28_eq, z, if_pos (by rw [hp_ltN (by omega) (by omega)]; omega), e1', Option.bind_some, e2, Option.bind_some, hp_inc]
    dsimp only
    by_cases q : hp_need y (hp_mv k p) < B.2
    · rw [if_pos (by rw [z4, hp_ltN (by omega) (by omega)]; exact q)]
      refine ih (p + 1) f (hy_w (hy_w (hy_w D1 55 2 (nI k)) 55 3 (nI p)) 55 4 (nI (hp_need y (hp_mv k p)))) _ (by omega) (by omega) ?_ ok1 (fun c a b => by rw [hy_w_ne a, hy_w_ne a, hy_w_ne a, hfr1 c a b])
      unfold hp_e1
      rw [if_pos q]
      refine ⟨hp_ws _ _ _ _, ?_, fun k' p' e => ?_⟩
      · rw [hp_wn (Or.inr (by omega)), hp_wn (Or.inr (by omega)), hp_ws]
        rfl
      · have e3 : some (k, p) = some (k', p') := e
        injection e3 with e3
        injection e3 with e3 e4
        rw [hp_wn (Or.inr (by omega)), hp_ws, e4]
    · rw [if_neg (by rw [z4, hp_ltN (by omega) (by omega)]; exact q)]
      refine ih (p + 1) f D1 _ (by omega) (by omega) ?_ ok1 hfr1
      unfold hp_e1
      rw [if_neg q]
      exact ⟨z4, by rw [f2 55 (by omega)]; exact h.2.1, fun k' p' e => by rw [f2 55 (by omega)]; exact h.2.2 k' p' e⟩
theorem hp_eX18 (N : Nat) (hN : 10 ≤ N) (hw : hp_WF y) {D0 : hy_M} (hX : hp_X (y, pu, yk, pk, fl, T, P, tp, pp, ls, lc) D0) : ∀ m k f D B, k + m = y 0 0 → m < f → hp_XB B D → hp_eok y B → (∀ c, c ≠ 55 → c ≠ 57 → D c = D0 c) → ∃ D1, F_X5_findElsewhere_18 N f (nI k) D = some (match (hp_eo y (y 0 0) m k B).1 with | none => nI 0 | some _ => nI 1, D1) ∧ hp_XB (hp_eo y (y 0 0) m k B) D1 ∧ hp_eok y (hp_eo y (y 0 0) m k B) ∧ ∀ c, c ≠ 55 → c ≠ 57 → D1 c = D0 c := by
  have b0 := hw.1
  have x00 : D0 1 0 = nI (y 0 0) := (hp_Xf hw hX.1).1
  intro m
  induction m with
  | zero =>
    intro k f D B e hf h hok hfr
    obtain ⟨f, rfl⟩ : ∃ f', f = f' + 1 := ⟨f - 1, by omega⟩
    have z : D 1 0 = nI (y 0 0) := by rw [hfr 1 (by omega) (by omega)]; exact x00
    refine ⟨D, ?_, h, hok, hfr⟩
    show _ = some (match B.1 with | none => nI 0 | some _ => nI 1, D)
    rw [F_X5_findElsewhere_18_eq, z, if_neg (by rw [hp_ltN (by omega) (by omega)]; omega), h.2.1]
    cases eb : B.1 with
    | none => rfl
    | some kp =>
      obtain ⟨k', p'⟩ := kp
      have := (hok.2 k' p' eb).1
      show (if nI k' = -1 then _ else _) = _
      rw [if_neg (hp_nI_neg (by omega))]
      rfl
  | succ m ih =>
    intro k f D B e hf h hok hfr
    obtain ⟨f, rfl⟩ : ∃ f', f = f' + 1 := ⟨f - 1, by omega⟩
    have z : D 1 0 = nI (y 0 0) := by rw [hfr 1 (by omega) (by omega)]; exact x00
    obtain ⟨D1, e1, f1, f2, f3⟩ := hp_eX28 N hN hw hX (k := k) (by omega) f (y 0 0) 0 N D B (by omega) (by omega) h hok hfr
    obtain ⟨D2, e2, g1, g2, g3⟩ := ih (k + 1) f D1 _ (by omega) (by omega) f1 f2 f3
    refine ⟨D2, ?_, g1, g2, g3⟩
    rw [F_X5_findElsewhere_18_eq, z, if_pos (by rw [hp_ltN (by omega) (by omega)]; omega)]
    exact e1.trans e2
def hp_b5 : Option (Nat × Nat) → Int32
  | none => -nI 5
  | some (k, _) => nI k
def hp_b6 : Option (Nat × Nat) → Int32
  | none => -nI 5
  | some (_, p) => nI p
theorem hp_eM48 (N : Nat) (hN : 10 ≤ N) (hw : hp_WF y) {D0 : hy_M} (hR : hp_R (y, pu, yk, pk, fl, T, P, tp, pp, ls, lc) D0) (a : Int32) {k : Nat} (hk : k < y 0 0) (n34 : Nat) : ∀ m p f D B, p + m = y 0 0 → m < f → hp_eok y B → (∀ c, c ≠ 72 → D c = D0 c) → ∃ D1, F_X9_elsewhere_48 N n34 f a (nI B.2) (hp_b5 B.1) (hp_b6 B.1) (nI k) (nI p) D = F_X9_elsewhere_34 N n34 a (nI (hp_ei y k m p B).2) (hp_b5 (hp_ei y k m p B).1) (hp_b6 (hp_ei y k m p B).1) (nI (k + 1)) D1 ∧ hp_eok y (hp_ei y k m p B) ∧ ∀ c, c ≠ 72 → D1 c = D0 c := by
  have b0 := hw.1
  obtain ⟨m00, m01, m02, m03, m4, m12, m20, m30, m28, m46, m70, m51, m67, m49⟩ := hp_Mf hw hR.1
  intro m
  induction m with
  | zero =>
    intro p f D B e hf hok hfr
    obtain ⟨f, rfl⟩ : ∃ f', f = f' + 1 := ⟨f - 1, by omega⟩
    have z : D 68 0 = nI (y 0 0) := by rw [hfr 68 (by omega)]; exact m00
    refine ⟨D, ?_, hok, hfr⟩
    rw [F_X9_elsewhere_48_eq, z, if_neg (by rw [hp_ltN (by omega) (by omega)]; omega), hp_inc]
    rfl
  | succ m ih =>
    intro p f D B e hf hok hfr
    obtain ⟨f, rfl⟩ : ∃ f', f = f' + 1 := ⟨f - 1, by omega⟩
    have z : D 68 0 = nI (y 0 0) := by rw [hfr 68 (by omega)]; exact m00
    obtain ⟨D1, e1, f1, f2⟩ := hp_mvM N b0 hk (p := p) (by omega) (y 0 0) 0 N D (by omega) (by omega) z (fun j hj => absurd hj (by omega))
    have e1' : F_X9_moves N (nI k) (nI p) D = some D1 := by
      rw [F_X9_moves_eq]
      exact e1
    have hfr1 : ∀ c, c ≠ 72 → D1 c = D0 c := fun c b => by rw [f2 c b, hfr c b]
    have e2 := hp_needMn N hN hw (num := hp_mv k p) (D := D1) (fun t ht j hj => by rw [hfr1 68 (by omega)]; exact m30 t ht j hj) f1 (fun j hj => by have := hp_mv_lt (w := k) (p := p) (j := j) (n := y 0 0) (by omega) hj; omega) (fun t ht => by rw [hfr1 68 (by omega)]; exact m28 t ht)
    have hnl := hp_need_le (y := y) (hp_mv k p) hw
    have hn2 := hp_need_le (y := y) (fun j => j) hw
    have hB := hok.1
    have ok1 := hp_e1_ok (k := k) (p := p) hok (by omega) (by omega)
    obtain ⟨D2, e3, g1, g2⟩ := ih (p + 1) f D1 _ (by omega) (by omega) ok1 hfr1
    refine ⟨D2, ?_, g1, g2⟩
    show _ = F_X9_elsewhere_34 N n34 a (nI (hp_ei y k m (p + 1) (hp_e1 y k p B)).2) (hp_b5 (hp_ei y k m (p + 1) (hp_e1 y k p B)).1) (hp_b6 (hp_ei y k m (p + 1) (hp_e1 y k p B)).1) (nI (k + 1)) D2
    rw [← e3, F_X9_elsewhere_48_eq, z, if_pos (by rw [hp_ltN (by omega) (by omega)]; omega), e1', Option.bind_some, e2, Option.bind_some, hp_inc]
    unfold hp_e1
    by_cases q : hp_need y (hp_mv k p) < B.2
    · have hpk : ¬ p = k := fun e => by
        rw [e, hp_mv_id] at q
        omega
      rw [if_pos q, if_neg (by rw [hp_eqN (by omega) (by omega)]; exact hpk), if_pos (by rw [hp_ltN (by omega) (by omega)]; exact q)]
      rfl
    · rw [if_neg q]
      by_cases hpk : p = k
      · rw [if_pos (by rw [hpk])]
      · rw [if_neg (by rw [hp_eqN (by omega) (by omega)]; exact hpk), if_neg (by rw [hp_ltN (by omega) (by omega)]; exact q)]
theorem hp_eM34 (N : Nat) (hN : 10 ≤ N) (hw : hp_WF y) {D0 : hy_M} (hR : hp_R (y, pu, yk, pk, fl, T, P, tp, pp, ls, lc) D0) {a : Nat} (ha : a < 3) : ∀ m k f D B, k + m = y 0 0 → m < f → hp_eok y B → (∀ c, c ≠ 72 → D c = D0 c) → ∃ D1, F_X9_elsewhere_34 N f (nI a) (nI B.2) (hp_b5 B.1) (hp_b6 B.1) (nI k) D = some (match (hp_eo y (y 0 0) m k B).1 with | none => -nI 5 | some (w, p) => if a = 0 then nI w else if a = 1 then nI p else nI (hp_eo y (y 0 0) m k B).2, D1) ∧ ∀ c, c ≠ 72 → D1 c = D0 c := by
  have b0 := hw.1
  have m00 : D0 68 0 = nI (y 0 0) := (hp_Mf hw hR.1).1
  intro m
  induction m with
  | zero =>
    intro k f D B e hf hok hfr
    obtain ⟨f, rfl⟩ : ∃ f', f = f' + 1 := ⟨f - 1, by omega⟩
    have z : D 68 0 = nI (y 0 0) := by rw [hfr 68 (by omega)]; exact m00
    refine ⟨D, ?_, hfr⟩
    show _ = some (match B.1 with | none => -nI 5 | some (w, p) => if a = 0 then nI w else if a = 1 then nI p else nI B.2, D)
    rw [F_X9_elsewhere_34_eq, z, if_neg (by rw [hp_ltN (by omega) (by omega)]; omega)]
    cases eb : B.1 with
    | none =>
      show (if -nI 5 < 0 then _ else _) = _
      rw [if_pos (by decide)]
      rfl
    | some kp =>
      obtain ⟨k', p'⟩ := kp
      have := (hok.2 k' p' eb).1
      show (if nI k' < 0 then _ else _) = some (if a = 0 then nI k' else if a = 1 then nI p' else nI B.2, D)
      rw [if_neg (by rw [show (0 : Int32) = nI 0 from rfl, hp_ltN (by omega) (by omega)]; omega)]
      have : a = 0 ∨ a = 1 ∨ a = 2 := by omega
      rcases this with rfl | rfl | rfl <;> rfl
  | succ m ih =>
    intro k f D B e hf hok hfr
    obtain ⟨f, rfl⟩ : ∃ f', f = f' + 1 := ⟨f - 1, by omega⟩
    have z : D 68 0 = nI (y 0 0) := by rw [hfr 68 (by omega)]; exact m00
    obtain ⟨D1, e1, f2, f3⟩ := hp_eM48 N hN hw hR (nI a) (k := k) (by omega) f (y 0 0) 0 N D B (by omega) (by omega) hok hfr
    obtain ⟨D2, e2, g3⟩ := ih (k + 1) f D1 _ (by omega) (by omega) f2 f3
    refine ⟨D2, ?_, g3⟩
    rw [F_X9_elsewhere_34_eq, z, if_pos (by rw [hp_ltN (by omega) (by omega)]; omega)]
    exact e1.trans e2
end
theorem st_elsewhere (N : Nat) (hN : 100 ≤ N) (a : Int32) : hp_step (F_X8_elsewhere N a) (F_X9_elsewhere N a) := by
  rintro ⟨y, pu, yk, pk, fl, T, P, tp, pp, ls, lc⟩ ⟨hw, hw1⟩
  obtain ⟨b0, b1, b2, b8, b17, b9⟩ := hp_Wb hw
  rcases hp_arg a with ⟨a0, a1, a2⟩ | ⟨k, hk, rfl⟩
  · refine ⟨-2, _, ⟨hw, hw1⟩, hp_qx0 fun D hX => ?_, hp_qm0 fun D hR => ?_⟩
    · rw [F_X8_elsewhere_eq, if_pos a0]
    · rw [F_X9_elsewhere_eq, hp_isIng N a2 0 _ (by decide)]
      rfl
  by_cases ha : k < 3
  case neg =>
    refine ⟨-2, _, ⟨hw, hw1⟩, hp_qx0 fun D hX => ?_, hp_qm0 fun D hR => ?_⟩
    · rw [F_X8_elsewhere_eq]
      simp (disch := omega) only [hp_kN, nI_add, pk_mul, hp_isInN, hp_m1L, hp_l0, hp_l1, hp_l2, hp_l3, hp_l4, hp_l5, hp_l7, hp_l8, hp_l10, hp_l17, hp_l20, hp_l24, hp_l48, hp_l50, hp_l55, hp_l127, hp_lm1, hp_eqN, hp_ltN, hp_inN, hp_cl, if_pos, if_neg, if_true, if_false, Option.bind_some]
    · rw [F_X9_elsewhere_eq]
      simp (disch := omega) only [hp_kN, nI_add, pk_mul, hp_isInN, hp_m1L, hp_l0, hp_l1, hp_l2, hp_l3, hp_l4, hp_l5, hp_l7, hp_l8, hp_l10, hp_l17, hp_l20, hp_l24, hp_l48, hp_l50, hp_l55, hp_l127, hp_lm1, hp_eqN, hp_ltN, hp_inN, hp_cl, if_pos, if_neg, if_true, if_false, Option.bind_some]
  have hn2 := hp_need_le (y := y) (fun j => j) hw
  have ok0 : hp_eok y (none, hp_need y (fun j => j)) := ⟨Nat.le_refl _, fun k p e => by cases e⟩
  obtain ⟨B, eB⟩ : ∃ B, B = hp_eo y (y 0 0) (y 0 0) 0 (none, hp_need y (fun j => j)) := ⟨_, rfl⟩
  refine ⟨match B.1 with | none => -nI 5 | some (w, p) => if k = 0 then nI w else if k = 1 then nI p else nI B.2, _, ⟨hw, hw1⟩, hp_qx fun D hX => ?_, hp_qm fun D hR => ?_⟩
  · have e0 := hp_neX N (by omega) hw (hp_X_sc hX (hp_sc_w (c := 55) (i := 2) (x := -1) (by omega)))
    have z0 : ∀ c, c ≠ 55 → hy_w (hy_w D 55 2 (-1)) 55 4 (nI (hp_need y fun j => j)) c = D c := fun c hc => by rw [hy_w_ne hc, hy_w_ne hc]
    obtain ⟨D1, e1, f1, f2, f3⟩ := hp_eX18 N (by omega) hw hX (y 0 0) 0 N (hy_w (hy_w D 55 2 (-1)) 55 4 (nI (hp_need y fun j => j))) (none, hp_need y (fun j => j)) (by omega) (by omega) ⟨hp_ws _ _ _ _, by rw [hp_wn (Or.inr (by omega)), hp_ws]; rfl, fun k p e => by cases e⟩ ok0 (fun c a _ => z0 c a)
    rw [← eB] at e1 f1 f2
    refine ⟨D1, ?_, fun c hc => f3 c (by omega) (by omega)⟩
    have e2 : F_X5_findElsewhere N D = some (match B.1 with | none => nI 0 | some _ => nI 1, D1) := by
      rw [F_X5_findElsewhere_eq, e0, Option.bind_some]
      exact e1
    rw [F_X8_elsewhere_eq]
    cases eb : B.1 with
    | none =>
      rw [eb] at e2
      have e2' : F_X5_findElsewhere N D = some (nI 0, D1) := e2
      clear f1 f2 f3 e1 e2 e0 z0 ok0
      simp (disch := omega) only [hp_kN, nI_add, pk_mul, hp_isInN, hp_m1L, hp_l0, hp_l1, hp_l2, hp_l3, hp_l4, hp_l5, hp_l7, hp_l8, hp_l10, hp_l17, hp_l20, hp_l24, hp_l48, hp_l50, hp_l55, hp_l127, hp_lm1, hp_eqN, hp_ltN, hp_inN, hp_cl, if_pos, if_neg, if_true, if_false, Option.bind_some, e2']
    | some kp =>
      obtain ⟨k', p'⟩ := kp
      rw [eb] at e2
      have e2' : F_X5_findElsewhere N D = some (nI 1, D1) := e2
      have q4 := f1.1
      have q3 := f1.2.2 k' p' eb
      have q2 := f1.2.1
      rw [eb] at q2
      have q2' : D1 55 2 = nI k' := q2
      clear f1 f2 f3 e1 e2 e0 z0 ok0 q2
      have : k = 0 ∨ k = 1 ∨ k = 2 := by omega
      rcases this with rfl | rfl | rfl
      · simp (disch := omega) only [hp_kN, nI_add, pk_mul, hp_isInN, hp_m1L, hp_l0, hp_l1, hp_l2, hp_l3, hp_l4, hp_l5, hp_l7, hp_l8, hp_l10, hp_l17, hp_l20, hp_l24, hp_l48, hp_l50, hp_l55, hp_l127, hp_lm1, hp_eqN, hp_ltN, hp_inN, hp_cl, if_pos, if_neg, if_true, if_false, Option.bind_some, e2', q2']
      · simp (disch := omega) only [hp_kN, nI_add, pk_mul, hp_isInN, hp_m1L, hp_l0, hp_l1, hp_l2, hp_l3, hp_l4, hp_l5, hp_l7, hp_l8, hp_l10, hp_l17, hp_l20, hp_l24, hp_l48, hp_l50, hp_l55, hp_l127, hp_lm1, hp_eqN, hp_ltN, hp_inN, hp_cl, if_pos, if_neg, if_true, if_false, Option.bind_some, e2', q3]
      · simp (disch := omega) only [hp_kN, nI_add, pk_mul, hp_isInN, hp_m1L, hp_l0, hp_l1, hp_l2, hp_l3, hp_l4, hp_l5, hp_l7, hp_l8, hp_l10, hp_l17, hp_l20, hp_l24, hp_l48, hp_l50, hp_l55, hp_l127, hp_lm1, hp_eqN, hp_ltN, hp_inN, hp_cl, if_pos, if_neg, if_true, if_false, Option.bind_some, e2', q4]
  · obtain ⟨D1, e1, f1, f2⟩ := hp_ata N (by omega) D
    have hR1 := hp_R_sm hR (hp_sm_72 f2)
    have e2 := hp_neM N (by omega) hw hR1 f1
    obtain ⟨D2, e3, g⟩ := hp_eM34 N (by omega) hw hR1 ha (y 0 0) 0 N D1 (none, hp_need y (fun j => j)) (by omega) (by omega) ok0 (fun _ _ => rfl)
    rw [← eB] at e3
    refine ⟨D2, ?_, hp_sm_72 (fun c hc => by rw [g c hc, f2 c hc])⟩
    have e3' : F_X9_elsewhere_34 N N (nI k) (nI (hp_need y fun j => j)) (-nI 5) (-nI 5) (nI 0) D1 = some (match B.1 with | none => -nI 5 | some (w, p) => if k = 0 then nI w else if k = 1 then nI p else nI B.2, D2) := e3
    rw [F_X9_elsewhere_eq]
    clear f1 f2 g e3 ok0 eB
    simp (disch := omega) only [hp_kN, nI_add, pk_mul, hp_isInN, hp_m1L, hp_l0, hp_l1, hp_l2, hp_l3, hp_l4, hp_l5, hp_l7, hp_l8, hp_l10, hp_l17, hp_l20, hp_l24, hp_l48, hp_l50, hp_l55, hp_l127, hp_lm1, hp_eqN, hp_ltN, hp_inN, hp_cl, if_pos, if_neg, if_true, if_false, Option.bind_some, e1, e2]
    exact e3'
