/-! ===== right ===== -/
abbrev hp_rt (y : Nat → Nat → Nat) (b : Nat → Nat) (t p : Nat) : Prop := b (y (6 + t) p) + (if y (6 + t) (p + 1) < y (6 + t) p then 1 else 0) ≤ b (y (6 + t) (p + 1))
def hp_nrT (y : Nat → Nat → Nat) (b : Nat → Nat) (t : Nat) : Nat → Nat → Option Nat
  | 0, _ => none
  | m + 1, p => if hp_rt y b t p then hp_nrT y b t m (p + 1) else some (y (6 + t) (p + 1))
def hp_oI : Option Nat → Int32
  | none => -nI 1
  | some w => nI w
def hp_nr (y : Nat → Nat → Nat) (b : Nat → Nat) : Option Nat := match hp_nrT y b 0 (y 8 0 - 1) 0 with
  | some w => some w
  | none => hp_nrT y b 1 (y 8 1 - 1) 0
theorem hp_nrT_lt {y : Nat → Nat → Nat} (hw : hp_WF y) (b : Nat → Nat) {t : Nat} (ht : t < 2) : ∀ m p w, p + m + 1 ≤ 8 → hp_nrT y b t m p = some w → w < 8 := by
  intro m
  induction m with
  | zero => intro p w _ h; exact absurd h (by simp [hp_nrT])
  | succ m ih =>
    intro p w hp h
    unfold hp_nrT at h
    by_cases c : hp_rt y b t p
    · rw [if_pos c] at h
      exact ih (p + 1) w (by omega) h
    · rw [if_neg c] at h
      have := hw.2.2.2.2.1 t ht (p + 1) (by omega)
      injection h with h
      omega
theorem hp_nr_lt {y : Nat → Nat → Nat} (hw : hp_WF y) (b : Nat → Nat) {w : Nat} (h : hp_nr y b = some w) : w < 8 := by
  have b8 := (hp_Wb hw).2.2.2.1
  have h0 := b8 0 (by omega)
  have h1 := b8 1 (by omega)
  unfold hp_nr at h
  split at h
  · rename_i z e
    injection h with h
    subst h
    exact hp_nrT_lt hw b (by omega) _ _ _ (by omega) e
  · exact hp_nrT_lt hw b (by omega) _ _ _ (by omega) h
theorem hp_nrX_l (N n2 : Nat) {y : Nat → Nat → Nat} (hw : hp_WF y) {b : Nat → Nat} {D : hy_M} (h6 : ∀ t, t < 2 → ∀ j, j < 8 → D (7 + t) j = nI (y (6 + t) j)) (h8 : ∀ t, t < 2 → D 9 t = nI (y 8 t)) (hb : ∀ j, j < y 0 0 → D 3 j = nI (b j)) (hb8 : ∀ j, j < y 0 0 → b j < 8) {t : Nat} (ht : t < 2) : ∀ m p n, (p + 1 + m = y 8 t ∨ (m = 0 ∧ y 8 t ≤ p + 1)) → p < 8 → m < n → F_X7_firstNotRight_9 N n2 n (nI t) (nI (p + 1)) D = match hp_nrT y b t m p with | some w => some (nI w, D) | none => F_X7_firstNotRight_2 N n2 (nI (t + 1)) D := by
  have b8 := (hp_Wb hw).2.2.2.1 t ht
  have b0 := hw.1
  intro m
  induction m with
  | zero =>
    intro p n e hp hm
    obtain ⟨n, rfl⟩ : ∃ n', n = n' + 1 := ⟨n - 1, by omega⟩
    rw [F_X7_firstNotRight_9_eq]
    unfold hp_nrT
    simp (disch := omega) only [hp_kN, nI_add, pk_mul, hp_isInN, hp_m1L, hp_l0, hp_l1, hp_l2, hp_l3, hp_l4, hp_l5, hp_l7, hp_l8, hp_l10, hp_l17, hp_l20, hp_l24, hp_l48, hp_l50, hp_l55, hp_l127, hp_lm1, hp_eqN, hp_ltN, hp_inN, hp_cl, if_pos, if_neg, if_true, if_false, Option.bind_some, h8]
  | succ m ih =>
    intro p n e hp hm
    obtain ⟨n, rfl⟩ : ∃ n', n = n' + 1 := ⟨n - 1, by omega⟩
    have hi := ih (p + 1) n (by omega) (by omega) (by omega)
    have w1 := (hw.2.2.2.2.2.2.2.2.1 t ht (p + 1) (by omega)).1
    have w2 := (hw.2.2.2.2.2.2.2.2.1 t ht p (by omega)).1
    have q1 := hb8 _ w1
    have q2 := hb8 _ w2
    rw [F_X7_firstNotRight_9_eq]
    unfold hp_nrT
    by_cases c : y (6 + t) (p + 1) < y (6 + t) p
    · by_cases c2 : b (y (6 + t) p) < b (y (6 + t) (p + 1))
      · have r : hp_rt y b t p := by unfold hp_rt; rw [if_pos c]; omega
        rw [if_pos r, ← hi]
        clear hi ih r
        simp (disch := omega) only [hp_kN, nI_add, pk_mul, hp_isInN, hp_m1L, hp_l0, hp_l1, hp_l2, hp_l3, hp_l4, hp_l5, hp_l7, hp_l8, hp_l10, hp_l17, hp_l20, hp_l24, hp_l48, hp_l50, hp_l55, hp_l127, hp_lm1, hp_eqN, hp_ltN, hp_inN, hp_cl, if_pos, if_neg, if_true, if_false, Option.bind_some, h8, F_X7_wantedAt_eq, hp_pr6, hp_al7, h6, pk_sub, Nat.add_sub_cancel, hb, F_X7_firstNotRight_79_eq]
      · have r : ¬ hp_rt y b t p := by unfold hp_rt; rw [if_pos c]; omega
        rw [if_neg r]
        clear hi ih r
        simp (disch := omega) only [hp_kN, nI_add, pk_mul, hp_isInN, hp_m1L, hp_l0, hp_l1, hp_l2, hp_l3, hp_l4, hp_l5, hp_l7, hp_l8, hp_l10, hp_l17, hp_l20, hp_l24, hp_l48, hp_l50, hp_l55, hp_l127, hp_lm1, hp_eqN, hp_ltN, hp_inN, hp_cl, if_pos, if_neg, if_true, if_false, Option.bind_some, h8, F_X7_wantedAt_eq, hp_pr6, hp_al7, h6, pk_sub, Nat.add_sub_cancel, hb, F_X7_firstNotRight_79_eq]
    · by_cases c2 : b (y (6 + t) (p + 1)) < b (y (6 + t) p)
      · have r : ¬ hp_rt y b t p := by unfold hp_rt; rw [if_neg c]; omega
        rw [if_neg r]
        clear hi ih r
        simp (disch := omega) only [hp_kN, nI_add, pk_mul, hp_isInN, hp_m1L, hp_l0, hp_l1, hp_l2, hp_l3, hp_l4, hp_l5, hp_l7, hp_l8, hp_l10, hp_l17, hp_l20, hp_l24, hp_l48, hp_l50, hp_l55, hp_l127, hp_lm1, hp_eqN, hp_ltN, hp_inN, hp_cl, if_pos, if_neg, if_true, if_false, Option.bind_some, h8, F_X7_wantedAt_eq, hp_pr6, hp_al7, h6, pk_sub, Nat.add_sub_cancel, hb, F_X7_firstNotRight_79_eq]
      · have r : hp_rt y b t p := by unfold hp_rt; rw [if_neg c]; omega
        rw [if_pos r, ← hi]
        clear hi ih r
        simp (disch := omega) only [hp_kN, nI_add, pk_mul, hp_isInN, hp_m1L, hp_l0, hp_l1, hp_l2, hp_l3, hp_l4, hp_l5, hp_l7, hp_l8, hp_l10, hp_l17, hp_l20, hp_l24, hp_l48, hp_l50, hp_l55, hp_l127, hp_lm1, hp_eqN, hp_ltN, hp_inN, hp_cl, if_pos, if_neg, if_true, if_false, Option.bind_some, h8, F_X7_wantedAt_eq, hp_pr6, hp_al7, h6, pk_sub, Nat.add_sub_cancel, hb, F_X7_firstNotRight_79_eq]
theorem hp_nrX (N : Nat) (hN : 10 ≤ N) {y : Nat → Nat → Nat} (hw : hp_WF y) {b : Nat → Nat} {D : hy_M} (h6 : ∀ t, t < 2 → ∀ j, j < 8 → D (7 + t) j = nI (y (6 + t) j)) (h8 : ∀ t, t < 2 → D 9 t = nI (y 8 t)) (hb : ∀ j, j < y 0 0 → D 3 j = nI (b j)) (hb8 : ∀ j, j < y 0 0 → b j < 8) : F_X7_firstNotRight N D = some (hp_oI (hp_nr y b), D) := by
  have b8 := (hp_Wb hw).2.2.2.1
  have b80 := b8 0 (by omega)
  have b81 := b8 1 (by omega)
  obtain ⟨N, rfl⟩ : ∃ n, N = n + 10 := ⟨N - 10, by omega⟩
  have k0 := hp_nrX_l (N + 10) (N + 9) hw h6 h8 hb hb8 (t := 0) (by omega) (y 8 0 - 1) 0 (N + 10) (by omega) (by omega) (by omega)
  have k1 := hp_nrX_l (N + 10) (N + 8) hw h6 h8 hb hb8 (t := 1) (by omega) (y 8 1 - 1) 0 (N + 10) (by omega) (by omega) (by omega)
  have e0 : F_X7_firstNotRight_2 (N + 10) (N + 9 + 1) (nI 0) D = F_X7_firstNotRight_9 (N + 10) (N + 9) (N + 10) (nI 0) (nI 1) D := by
    rw [F_X7_firstNotRight_2_eq]
    rfl
  have e1 : F_X7_firstNotRight_2 (N + 10) (N + 8 + 1) (nI 1) D = F_X7_firstNotRight_9 (N + 10) (N + 8) (N + 10) (nI 1) (nI 1) D := by
    rw [F_X7_firstNotRight_2_eq]
    rfl
  have e2 : F_X7_firstNotRight_2 (N + 10) (N + 7 + 1) (nI 2) D = some (-nI 1, D) := by
    rw [F_X7_firstNotRight_2_eq]
    rfl
  rw [F_X7_firstNotRight_eq]
  refine (e0.trans k0).trans ?_
  unfold hp_nr
  cases hp_nrT y b 0 (y 8 0 - 1) 0 with
  | some w => rfl
  | none =>
    refine (e1.trans k1).trans ?_
    cases hp_nrT y b 1 (y 8 1 - 1) 0 with
    | some w => rfl
    | none => exact e2
theorem hp_nrX_1_66_l (N n2 : Nat) {y : Nat → Nat → Nat} (hw : hp_WF y) {b : Nat → Nat} {D : hy_M} (h6 : ∀ t, t < 2 → ∀ j, j < 8 → D (7 + t) j = nI (y (6 + t) j)) (h8 : ∀ t, t < 2 → D 9 t = nI (y 8 t)) (hb : ∀ j, j < y 0 0 → D 66 j = nI (b j)) (hb8 : ∀ j, j < y 0 0 → b j < 8) {t : Nat} (ht : t < 2) : ∀ m p n, (p + 1 + m = y 8 t ∨ (m = 0 ∧ y 8 t ≤ p + 1)) → p < 8 → m < n → F_X7_firstNotRight_1_66_9 N n2 n (nI t) (nI (p + 1)) D = match hp_nrT y b t m p with | some w => some (nI w, D) | none => F_X7_firstNotRight_1_66_2 N n2 (nI (t + 1)) D := by
  have b8 := (hp_Wb hw).2.2.2.1 t ht
  have b0 := hw.1
  intro m
  induction m with
  | zero =>
    intro p n e hp hm
    obtain ⟨n, rfl⟩ : ∃ n', n = n' + 1 := ⟨n - 1, by omega⟩
    rw [F_X7_firstNotRight_1_66_9_eq]
    unfold hp_nrT
    simp (disch := omega) only [hp_kN, nI_add, pk_mul, hp_isInN, hp_m1L, hp_l0, hp_l1, hp_l2, hp_l3, hp_l4, hp_l5, hp_l7, hp_l8, hp_l10, hp_l17, hp_l20, hp_l24, hp_l48, hp_l50, hp_l55, hp_l127, hp_lm1, hp_eqN, hp_ltN, hp_inN, hp_cl, if_pos, if_neg, if_true, if_false, Option.bind_some, h8]
  | succ m ih =>
    intro p n e hp hm
    obtain ⟨n, rfl⟩ : ∃ n', n = n' + 1 := ⟨n - 1, by omega⟩
    have hi := ih (p + 1) n (by omega) (by omega) (by omega)
    have w1 := (hw.2.2.2.2.2.2.2.2.1 t ht (p + 1) (by omega)).1
    have w2 := (hw.2.2.2.2.2.2.2.2.1 t ht p (by omega)).1
    have q1 := hb8 _ w1
    have q2 := hb8 _ w2
    rw [F_X7_firstNotRight_1_66_9_eq]
    unfold hp_nrT
    by_cases c : y (6 + t) (p + 1) < y (6 + t) p
    · by_cases c2 : b (y (6 + t) p) < b (y (6 + t) (p + 1))
      · have r : hp_rt y b t p := by unfold hp_rt; rw [if_pos c]; omega
        rw [if_pos r, ← hi]
        clear hi ih r
        simp (disch := omega) only [hp_kN, nI_add, pk_mul, hp_isInN, hp_m1L, hp_l0, hp_l1, hp_l2, hp_l3, hp_l4, hp_l5, hp_l7, hp_l8, hp_l10, hp_l17, hp_l20, hp_l24, hp_l48, hp_l50, hp_l55, hp_l127, hp_lm1, hp_eqN, hp_ltN, hp_inN, hp_cl, if_pos, if_neg, if_true, if_false, Option.bind_some, h8, F_X7_wantedAt_eq, hp_pr6, hp_al7, h6, pk_sub, Nat.add_sub_cancel, hb, F_X7_firstNotRight_1_66_79_eq]
      · have r : ¬ hp_rt y b t p := by unfold hp_rt; rw [if_pos c]; omega
        rw [if_neg r]
        clear hi ih r
        simp (disch := omega) only [hp_kN, nI_add, pk_mul, hp_isInN, hp_m1L, hp_l0, hp_l1, hp_l2, hp_l3, hp_l4, hp_l5, hp_l7, hp_l8, hp_l10, hp_l17, hp_l20, hp_l24, hp_l48, hp_l50, hp_l55, hp_l127, hp_lm1, hp_eqN, hp_ltN, hp_inN, hp_cl, if_pos, if_neg, if_true, if_false, Option.bind_some, h8, F_X7_wantedAt_eq, hp_pr6, hp_al7, h6, pk_sub, Nat.add_sub_cancel, hb, F_X7_firstNotRight_1_66_79_eq]
    · by_cases c2 : b (y (6 + t) (p + 1)) < b (y (6 + t) p)
      · have r : ¬ hp_rt y b t p := by unfold hp_rt; rw [if_neg c]; omega
        rw [if_neg r]
        clear hi ih r
        simp (disch := omega) only [hp_kN, nI_add, pk_mul, hp_isInN, hp_m1L, hp_l0, hp_l1, hp_l2, hp_l3, hp_l4, hp_l5, hp_l7, hp_l8, hp_l10, hp_l17, hp_l20, hp_l24, hp_l48, hp_l50, hp_l55, hp_l127, hp_lm1, hp_eqN, hp_ltN, hp_inN, hp_cl, if_pos, if_neg, if_true, if_false, Option.bind_some, h8, F_X7_wantedAt_eq, hp_pr6, hp_al7, h6, pk_sub, Nat.add_sub_cancel, hb, F_X7_firstNotRight_1_66_79_eq]
      · have r : hp_rt y b t p := by unfold hp_rt; rw [if_neg c]; omega
        rw [if_pos r, ← hi]
        clear hi ih r
        simp (disch := omega) only [hp_kN, nI_add, pk_mul, hp_isInN, hp_m1L, hp_l0, hp_l1, hp_l2, hp_l3, hp_l4, hp_l5, hp_l7, hp_l8, hp_l10, hp_l17, hp_l20, hp_l24, hp_l48, hp_l50, hp_l55, hp_l127, hp_lm1, hp_eqN, hp_ltN, hp_inN, hp_cl, if_pos, if_neg, if_true, if_false, Option.bind_some, h8, F_X7_wantedAt_eq, hp_pr6, hp_al7, h6, pk_sub, Nat.add_sub_cancel, hb, F_X7_firstNotRight_1_66_79_eq]
theorem hp_nrX_1_66 (N : Nat) (hN : 10 ≤ N) {y : Nat → Nat → Nat} (hw : hp_WF y) {b : Nat → Nat} {D : hy_M} (h6 : ∀ t, t < 2 → ∀ j, j < 8 → D (7 + t) j = nI (y (6 + t) j)) (h8 : ∀ t, t < 2 → D 9 t = nI (y 8 t)) (hb : ∀ j, j < y 0 0 → D 66 j = nI (b j)) (hb8 : ∀ j, j < y 0 0 → b j < 8) : F_X7_firstNotRight_1_66 N D = some (hp_oI (hp_nr y b), D) := by
  have b8 := (hp_Wb hw).2.2.2.1
  have b80 := b8 0 (by omega)
  have b81 := b8 1 (by omega)
  obtain ⟨N, rfl⟩ : ∃ n, N = n + 10 := ⟨N - 10, by omega⟩
  have k0 := hp_nrX_1_66_l (N + 10) (N + 9) hw h6 h8 hb hb8 (t := 0) (by omega) (y 8 0 - 1) 0 (N + 10) (by omega) (by omega) (by omega)
  have k1 := hp_nrX_1_66_l (N + 10) (N + 8) hw h6 h8 hb hb8 (t := 1) (by omega) (y 8 1 - 1) 0 (N + 10) (by omega) (by omega) (by omega)
  have e0 : F_X7_firstNotRight_1_66_2 (N + 10) (N + 9 + 1) (nI 0) D = F_X7_firstNotRight_1_66_9 (N + 10) (N + 9) (N + 10) (nI 0) (nI 1) D := by
    rw [F_X7_firstNotRight_1_66_2_eq]
    rfl
  have e1 : F_X7_firstNotRight_1_66_2 (N + 10) (N + 8 + 1) (nI 1) D = F_X7_firstNotRight_1_66_9 (N + 10) (N + 8) (N + 10) (nI 1) (nI 1) D := by
    rw [F_X7_firstNotRight_1_66_2_eq]
    rfl
  have e2 : F_X7_firstNotRight_1_66_2 (N + 10) (N + 7 + 1) (nI 2) D = some (-nI 1, D) := by
    rw [F_X7_firstNotRight_1_66_2_eq]
    rfl
  rw [F_X7_firstNotRight_1_66_eq]
  refine (e0.trans k0).trans ?_
  unfold hp_nr
  cases hp_nrT y b 0 (y 8 0 - 1) 0 with
  | some w => rfl
  | none =>
    refine (e1.trans k1).trans ?_
    cases hp_nrT y b 1 (y 8 1 - 1) 0 with
    | some w => rfl
    | none => exact e2
theorem hp_nrM_l (N n2 : Nat) {y : Nat → Nat → Nat} (hw : hp_WF y) {b : Nat → Nat} {D : hy_M} (h30 : ∀ t, t < 2 → ∀ j, j < 8 → D 68 (30 + 8 * t + j) = nI (y (6 + t) j)) (h8 : ∀ t, t < 2 → D 68 (28 + t) = nI (y 8 t)) (hb : ∀ j, j < y 0 0 → D 68 (12 + j) = nI (b j)) (hb8 : ∀ j, j < y 0 0 → b j < 8) {t : Nat} (ht : t < 2) : ∀ m p n, (p + 1 + m = y 8 t ∨ (m = 0 ∧ y 8 t ≤ p + 1)) → p < 8 → m < n → F_X9_notRight_9 N n2 n (nI t) (nI (p + 1)) D = match hp_nrT y b t m p with | some w => some (nI w, D) | none => F_X9_notRight_2 N n2 (nI (t + 1)) D := by
  have b8 := (hp_Wb hw).2.2.2.1 t ht
  have b0 := hw.1
  intro m
  induction m with
  | zero =>
    intro p n e hp hm
    obtain ⟨n, rfl⟩ : ∃ n', n = n' + 1 := ⟨n - 1, by omega⟩
    rw [F_X9_notRight_9_eq]
    unfold hp_nrT
    simp (disch := omega) only [hp_kN, nI_add, pk_mul, hp_isInN, hp_m1L, hp_l0, hp_l1, hp_l2, hp_l3, hp_l4, hp_l5, hp_l7, hp_l8, hp_l10, hp_l17, hp_l20, hp_l24, hp_l48, hp_l50, hp_l55, hp_l127, hp_lm1, hp_eqN, hp_ltN, hp_inN, hp_cl, if_pos, if_neg, if_true, if_false, Option.bind_some, h8]
  | succ m ih =>
    intro p n e hp hm
    obtain ⟨n, rfl⟩ : ∃ n', n = n' + 1 := ⟨n - 1, by omega⟩
    have hi := ih (p + 1) n (by omega) (by omega) (by omega)
    have w1 := (hw.2.2.2.2.2.2.2.2.1 t ht (p + 1) (by omega)).1
    have w2 := (hw.2.2.2.2.2.2.2.2.1 t ht p (by omega)).1
    have q1 := hb8 _ w1
    have q2 := hb8 _ w2
    rw [F_X9_notRight_9_eq]
    unfold hp_nrT
    by_cases c : y (6 + t) (p + 1) < y (6 + t) p
    · by_cases c2 : b (y (6 + t) p) < b (y (6 + t) (p + 1))
      · have r : hp_rt y b t p := by unfold hp_rt; rw [if_pos c]; omega
        rw [if_pos r, ← hi]
        clear hi ih r
        simp (disch := omega) only [hp_kN, nI_add, pk_mul, hp_isInN, hp_m1L, hp_l0, hp_l1, hp_l2, hp_l3, hp_l4, hp_l5, hp_l7, hp_l8, hp_l10, hp_l17, hp_l20, hp_l24, hp_l48, hp_l50, hp_l55, hp_l127, hp_lm1, hp_eqN, hp_ltN, hp_inN, hp_cl, if_pos, if_neg, if_true, if_false, Option.bind_some, h8, F_X9_wantedAt_eq, h30, pk_sub, Nat.add_sub_cancel, hb, F_X9_notRight_69_eq]
      · have r : ¬ hp_rt y b t p := by unfold hp_rt; rw [if_pos c]; omega
        rw [if_neg r]
        clear hi ih r
        simp (disch := omega) only [hp_kN, nI_add, pk_mul, hp_isInN, hp_m1L, hp_l0, hp_l1, hp_l2, hp_l3, hp_l4, hp_l5, hp_l7, hp_l8, hp_l10, hp_l17, hp_l20, hp_l24, hp_l48, hp_l50, hp_l55, hp_l127, hp_lm1, hp_eqN, hp_ltN, hp_inN, hp_cl, if_pos, if_neg, if_true, if_false, Option.bind_some, h8, F_X9_wantedAt_eq, h30, pk_sub, Nat.add_sub_cancel, hb, F_X9_notRight_69_eq]
    · by_cases c2 : b (y (6 + t) (p + 1)) < b (y (6 + t) p)
      · have r : ¬ hp_rt y b t p := by unfold hp_rt; rw [if_neg c]; omega
        rw [if_neg r]
        clear hi ih r
        simp (disch := omega) only [hp_kN, nI_add, pk_mul, hp_isInN, hp_m1L, hp_l0, hp_l1, hp_l2, hp_l3, hp_l4, hp_l5, hp_l7, hp_l8, hp_l10, hp_l17, hp_l20, hp_l24, hp_l48, hp_l50, hp_l55, hp_l127, hp_lm1, hp_eqN, hp_ltN, hp_inN, hp_cl, if_pos, if_neg, if_true, if_false, Option.bind_some, h8, F_X9_wantedAt_eq, h30, pk_sub, Nat.add_sub_cancel, hb, F_X9_notRight_69_eq]
      · have r : hp_rt y b t p := by unfold hp_rt; rw [if_neg c]; omega
        rw [if_pos r, ← hi]
        clear hi ih r
        simp (disch := omega) only [hp_kN, nI_add, pk_mul, hp_isInN, hp_m1L, hp_l0, hp_l1, hp_l2, hp_l3, hp_l4, hp_l5, hp_l7, hp_l8, hp_l10, hp_l17, hp_l20, hp_l24, hp_l48, hp_l50, hp_l55, hp_l127, hp_lm1, hp_eqN, hp_ltN, hp_inN, hp_cl, if_pos, if_neg, if_true, if_false, Option.bind_some, h8, F_X9_wantedAt_eq, h30, pk_sub, Nat.add_sub_cancel, hb, F_X9_notRight_69_eq]
theorem hp_nrM (N : Nat) (hN : 10 ≤ N) {y : Nat → Nat → Nat} (hw : hp_WF y) {b : Nat → Nat} {D : hy_M} (h30 : ∀ t, t < 2 → ∀ j, j < 8 → D 68 (30 + 8 * t + j) = nI (y (6 + t) j)) (h8 : ∀ t, t < 2 → D 68 (28 + t) = nI (y 8 t)) (hb : ∀ j, j < y 0 0 → D 68 (12 + j) = nI (b j)) (hb8 : ∀ j, j < y 0 0 → b j < 8) : F_X9_notRight N D = some (hp_oI (hp_nr y b), D) := by
  have b8 := (hp_Wb hw).2.2.2.1
  have b80 := b8 0 (by omega)
  have b81 := b8 1 (by omega)
  obtain ⟨N, rfl⟩ : ∃ n, N = n + 10 := ⟨N - 10, by omega⟩
  have k0 := hp_nrM_l (N + 10) (N + 9) hw h30 h8 hb hb8 (t := 0) (by omega) (y 8 0 - 1) 0 (N + 10) (by omega) (by omega) (by omega)
  have k1 := hp_nrM_l (N + 10) (N + 8) hw h30 h8 hb hb8 (t := 1) (by omega) (y 8 1 - 1) 0 (N + 10) (by omega) (by omega) (by omega)
  have e0 : F_X9_notRight_2 (N + 10) (N + 9 + 1) (nI 0) D = F_X9_notRight_9 (N + 10) (N + 9) (N + 10) (nI 0) (nI 1) D := by
    rw [F_X9_notRight_2_eq]
    rfl
  have e1 : F_X9_notRight_2 (N + 10) (N + 8 + 1) (nI 1) D = F_X9_notRight_9 (N + 10) (N + 8) (N + 10) (nI 1) (nI 1) D := by
    rw [F_X9_notRight_2_eq]
    rfl
  have e2 : F_X9_notRight_2 (N + 10) (N + 7 + 1) (nI 2) D = some (-nI 1, D) := by
    rw [F_X9_notRight_2_eq]
    rfl
  rw [F_X9_notRight_eq]
  refine (e0.trans k0).trans ?_
  unfold hp_nr
  cases hp_nrT y b 0 (y 8 0 - 1) 0 with
  | some w => rfl
  | none =>
    refine (e1.trans k1).trans ?_
    cases hp_nrT y b 1 (y 8 1 - 1) 0 with
    | some w => rfl
    | none => exact e2
/-! too much on a track -/
def hp_tl (y : Nat → Nat → Nat) (b : Nat → Nat) : Option Nat := if y 9 0 < hp_load y b 0 then some 0 else if y 9 1 < hp_load y b 1 then some 1 else if y 9 2 < hp_load y b 2 then some 2 else none
theorem hp_load_le {y : Nat → Nat → Nat} (hw : hp_WF y) (b : Nat → Nat) (t : Nat) : hp_load y b t ≤ 24 := by
  have h0 := hw.1
  have := hp_sum_le (fun j => if hp_bit (b j) t = 1 then y 1 j else 0) (y 0 0) 3 (fun j hj => by
    have := (hw.2.2.2.1 j (by omega)).1
    show (if hp_bit (b j) t = 1 then y 1 j else 0) ≤ 3
    split <;> omega)
  unfold hp_load
  omega
theorem hp_tlM (N : Nat) (hN : 10 ≤ N) {y : Nat → Nat → Nat} (hw : hp_WF y) {b : Nat → Nat} {D : hy_M} (h0 : D 68 0 = nI (y 0 0)) (h1 : ∀ j, j < 8 → D 68 (4 + j) = nI (y 1 j)) (h46 : ∀ t, t < 3 → D 68 (46 + t) = nI (y 9 t)) (hb : ∀ j, j < y 0 0 → D 68 (12 + j) = nI (b j)) (hb8 : ∀ j, j < y 0 0 → b j < 8) : F_X9_tooLoaded N D = some (hp_oI (hp_tl y b), D) := by
  obtain ⟨b0, b1, b2, b8, b17, b9⟩ := hp_Wb hw
  obtain ⟨N, rfl⟩ : ∃ n, N = n + 10 := ⟨N - 10, by omega⟩
  have e46 : D 68 46 = nI (y 9 0) := h46 0 (by omega)
  have e47 : D 68 47 = nI (y 9 1) := h46 1 (by omega)
  have e48 : D 68 48 = nI (y 9 2) := h46 2 (by omega)
  have l0 := hp_loM (N + 10) (by omega) b0 h0 h1 hb hb8 (t := 0) (by omega)
  have l1 := hp_loM (N + 10) (by omega) b0 h0 h1 hb hb8 (t := 1) (by omega)
  have l2 := hp_loM (N + 10) (by omega) b0 h0 h1 hb hb8 (t := 2) (by omega)
  have q0 := hp_load_le hw b 0
  have q1 := hp_load_le hw b 1
  have q2 := hp_load_le hw b 2
  have r0 := b9 0 (by omega)
  have r1 := b9 1 (by omega)
  have r2 := b9 2 (by omega)
  rw [F_X9_tooLoaded_eq, F_X9_tooLoaded_2_eq]
  unfold hp_tl
  by_cases c0 : y 9 0 < hp_load y b 0
  · simp (disch := omega) only [hp_kN, nI_add, pk_mul, hp_isInN, hp_m1L, hp_l0, hp_l1, hp_l2, hp_l3, hp_l4, hp_l5, hp_l7, hp_l8, hp_l10, hp_l17, hp_l20, hp_l24, hp_l48, hp_l50, hp_l55, hp_l127, hp_lm1, hp_eqN, hp_ltN, hp_inN, hp_cl, if_pos, if_neg, if_true, if_false, Option.bind_some, l0, e46, Nat.reduceAdd]
    rfl
  · simp (disch := omega) only [hp_kN, nI_add, pk_mul, hp_isInN, hp_m1L, hp_l0, hp_l1, hp_l2, hp_l3, hp_l4, hp_l5, hp_l7, hp_l8, hp_l10, hp_l17, hp_l20, hp_l24, hp_l48, hp_l50, hp_l55, hp_l127, hp_lm1, hp_eqN, hp_ltN, hp_inN, hp_cl, if_pos, if_neg, if_true, if_false, Option.bind_some, l0, e46, Nat.reduceAdd]
    rw [F_X9_tooLoaded_2_eq]
    by_cases c1 : y 9 1 < hp_load y b 1
    · simp (disch := omega) only [hp_kN, nI_add, pk_mul, hp_isInN, hp_m1L, hp_l0, hp_l1, hp_l2, hp_l3, hp_l4, hp_l5, hp_l7, hp_l8, hp_l10, hp_l17, hp_l20, hp_l24, hp_l48, hp_l50, hp_l55, hp_l127, hp_lm1, hp_eqN, hp_ltN, hp_inN, hp_cl, if_pos, if_neg, if_true, if_false, Option.bind_some, l1, e47, Nat.reduceAdd]
      rfl
    · simp (disch := omega) only [hp_kN, nI_add, pk_mul, hp_isInN, hp_m1L, hp_l0, hp_l1, hp_l2, hp_l3, hp_l4, hp_l5, hp_l7, hp_l8, hp_l10, hp_l17, hp_l20, hp_l24, hp_l48, hp_l50, hp_l55, hp_l127, hp_lm1, hp_eqN, hp_ltN, hp_inN, hp_cl, if_pos, if_neg, if_true, if_false, Option.bind_some, l1, e47, Nat.reduceAdd]
      rw [F_X9_tooLoaded_2_eq]
      by_cases c2 : y 9 2 < hp_load y b 2
      · simp (disch := omega) only [hp_kN, nI_add, pk_mul, hp_isInN, hp_m1L, hp_l0, hp_l1, hp_l2, hp_l3, hp_l4, hp_l5, hp_l7, hp_l8, hp_l10, hp_l17, hp_l20, hp_l24, hp_l48, hp_l50, hp_l55, hp_l127, hp_lm1, hp_eqN, hp_ltN, hp_inN, hp_cl, if_pos, if_neg, if_true, if_false, Option.bind_some, l2, e48, Nat.reduceAdd]
        rfl
      · simp (disch := omega) only [hp_kN, nI_add, pk_mul, hp_isInN, hp_m1L, hp_l0, hp_l1, hp_l2, hp_l3, hp_l4, hp_l5, hp_l7, hp_l8, hp_l10, hp_l17, hp_l20, hp_l24, hp_l48, hp_l50, hp_l55, hp_l127, hp_lm1, hp_eqN, hp_ltN, hp_inN, hp_cl, if_pos, if_neg, if_true, if_false, Option.bind_some, l2, e48, Nat.reduceAdd]
        rw [F_X9_tooLoaded_2_eq]
        simp (disch := omega) only [hp_kN, nI_add, pk_mul, hp_isInN, hp_m1L, hp_l0, hp_l1, hp_l2, hp_l3, hp_l4, hp_l5, hp_l7, hp_l8, hp_l10, hp_l17, hp_l20, hp_l24, hp_l48, hp_l50, hp_l55, hp_l127, hp_lm1, hp_eqN, hp_ltN, hp_inN, hp_cl, if_pos, if_neg, if_true, if_false, Option.bind_some, Nat.reduceAdd]
        rfl
