/-! ===== chains ===== -/
def hp_cut (y : Nat → Nat → Nat) (num : Nat → Nat) (t p : Nat) : Nat := if num (y (6 + t) (p + 1)) < num (y (6 + t) p) then 1 else 0
def hp_chn (y : Nat → Nat → Nat) (num : Nat → Nat) (t : Nat) : Nat → Nat
  | 0 => 0
  | p + 1 => hp_chn y num t p + hp_cut y num t p
def hp_chs (y : Nat → Nat → Nat) (num : Nat → Nat) (t : Nat) : Nat := if y 8 t = 0 then 0 else 1 + hp_chn y num t (y 8 t - 1)
def hp_need (y : Nat → Nat → Nat) (num : Nat → Nat) : Nat := if hp_chs y num 0 < hp_chs y num 1 then hp_chs y num 1 else hp_chs y num 0
theorem hp_cut01 (y : Nat → Nat → Nat) (num : Nat → Nat) (t p : Nat) : hp_cut y num t p = 0 ∨ hp_cut y num t p = 1 := by
  unfold hp_cut
  split <;> simp
theorem hp_chn_le (y : Nat → Nat → Nat) (num : Nat → Nat) (t p : Nat) : hp_chn y num t p ≤ p := by
  induction p with
  | zero => exact Nat.le_refl _
  | succ i ih =>
    show hp_chn y num t i + hp_cut y num t i ≤ i + 1
    rcases hp_cut01 y num t i with h | h <;> omega
theorem hp_chs_le {y : Nat → Nat → Nat} (num : Nat → Nat) {t : Nat} (h : y 8 t ≤ 8) : hp_chs y num t ≤ 8 := by
  unfold hp_chs
  have := hp_chn_le y num t (y 8 t - 1)
  split <;> omega
theorem hp_need_le {y : Nat → Nat → Nat} (num : Nat → Nat) (hw : hp_WF y) : hp_need y num ≤ 8 := by
  have b8 := (hp_Wb hw).2.2.2.1
  have h0 := hp_chs_le num (b8 0 (by omega))
  have h1 := hp_chs_le num (b8 1 (by omega))
  unfold hp_need
  split <;> omega
theorem hp_cutX (N : Nat) {y : Nat → Nat → Nat} (hw : hp_WF y) {num : Nat → Nat} {D : hy_M} (h6 : ∀ t, t < 2 → ∀ j, j < 8 → D (7 + t) j = nI (y (6 + t) j)) (hn : ∀ j, j < 8 → D 1000 j = nI (num j)) (hnb : ∀ j, j < 8 → num j < 1000) {t p : Nat} (ht : t < 2) (hp : p + 1 < 8) : F_X7_isCut N (nI t) (nI (p + 1)) D = some (nI (hp_cut y num t p), D) := by
  have w1 := hw.2.2.2.2.1 t ht (p + 1) hp
  have w2 := hw.2.2.2.2.1 t ht p (by omega)
  have n1 := hnb _ w1
  have n2 := hnb _ w2
  rw [F_X7_isCut_eq]
  unfold hp_cut
  by_cases c : num (y (6 + t) (p + 1)) < num (y (6 + t) p)
  · simp (disch := omega) only [hp_kN, nI_add, pk_mul, hp_isInN, hp_m1L, hp_l0, hp_l1, hp_l2, hp_l3, hp_l4, hp_l5, hp_l7, hp_l8, hp_l10, hp_l17, hp_l20, hp_l24, hp_l48, hp_l50, hp_l55, hp_l127, hp_lm1, hp_eqN, hp_ltN, hp_inN, hp_cl, if_pos, if_neg, if_true, if_false, Option.bind_some, F_X7_wantedAt_eq, hp_pr6, hp_al7, h6, pk_sub, Nat.add_sub_cancel, hn]
  · simp (disch := omega) only [hp_kN, nI_add, pk_mul, hp_isInN, hp_m1L, hp_l0, hp_l1, hp_l2, hp_l3, hp_l4, hp_l5, hp_l7, hp_l8, hp_l10, hp_l17, hp_l20, hp_l24, hp_l48, hp_l50, hp_l55, hp_l127, hp_lm1, hp_eqN, hp_ltN, hp_inN, hp_cl, if_pos, if_neg, if_true, if_false, Option.bind_some, F_X7_wantedAt_eq, hp_pr6, hp_al7, h6, pk_sub, Nat.add_sub_cancel, hn]
theorem hp_chX_l (N : Nat) {y : Nat → Nat → Nat} (hw : hp_WF y) {num : Nat → Nat} {D : hy_M} (h6 : ∀ t, t < 2 → ∀ j, j < 8 → D (7 + t) j = nI (y (6 + t) j)) (hn : ∀ j, j < 8 → D 1000 j = nI (num j)) (hnb : ∀ j, j < 8 → num j < 1000) {t : Nat} (ht : t < 2) (h8 : D 9 t = nI (y 8 t)) : ∀ m p n, p + 1 + m = y 8 t → m < n → F_X7_chainsOf_16 N n (nI t) (nI (1 + hp_chn y num t p)) (nI (p + 1)) D = some (nI (1 + hp_chn y num t (y 8 t - 1)), D) := by
  have b8 := (hp_Wb hw).2.2.2.1 t ht
  intro m
  induction m with
  | zero =>
    intro p n e hm
    obtain ⟨n, rfl⟩ : ∃ n', n = n' + 1 := ⟨n - 1, by omega⟩
    have e : y 8 t = p + 1 := by omega
    rw [F_X7_chainsOf_16_eq]
    simp (disch := omega) only [hp_kN, nI_add, pk_mul, hp_isInN, hp_m1L, hp_l0, hp_l1, hp_l2, hp_l3, hp_l4, hp_l5, hp_l7, hp_l8, hp_l10, hp_l17, hp_l20, hp_l24, hp_l48, hp_l50, hp_l55, hp_l127, hp_lm1, hp_eqN, hp_ltN, hp_inN, hp_cl, if_pos, if_neg, if_true, if_false, Option.bind_some, h8, e, Nat.add_sub_cancel]
  | succ m ih =>
    intro p n e hm
    obtain ⟨n, rfl⟩ : ∃ n', n = n' + 1 := ⟨n - 1, by omega⟩
    have hi := ih (p + 1) n (by omega) (by omega)
    have e3 : hp_chn y num t (p + 1) = hp_chn y num t p + hp_cut y num t p := rfl
    rw [← hi, F_X7_chainsOf_16_eq, e3, ← Nat.add_assoc]
    rcases hp_cut01 y num t p with m0 | m0
    · simp (disch := omega) only [hp_kN, nI_add, pk_mul, hp_isInN, hp_m1L, hp_l0, hp_l1, hp_l2, hp_l3, hp_l4, hp_l5, hp_l7, hp_l8, hp_l10, hp_l17, hp_l20, hp_l24, hp_l48, hp_l50, hp_l55, hp_l127, hp_lm1, hp_eqN, hp_ltN, hp_inN, hp_cl, if_pos, if_neg, if_true, if_false, Option.bind_some, h8, hp_cutX N hw h6 hn hnb, m0, Nat.add_zero]
    · simp (disch := omega) only [hp_kN, nI_add, pk_mul, hp_isInN, hp_m1L, hp_l0, hp_l1, hp_l2, hp_l3, hp_l4, hp_l5, hp_l7, hp_l8, hp_l10, hp_l17, hp_l20, hp_l24, hp_l48, hp_l50, hp_l55, hp_l127, hp_lm1, hp_eqN, hp_ltN, hp_inN, hp_cl, if_pos, if_neg, if_true, if_false, Option.bind_some, h8, hp_cutX N hw h6 hn hnb, m0]
theorem hp_chX (N : Nat) (hN : 10 ≤ N) {y : Nat → Nat → Nat} (hw : hp_WF y) {num : Nat → Nat} {D : hy_M} (h6 : ∀ t, t < 2 → ∀ j, j < 8 → D (7 + t) j = nI (y (6 + t) j)) (hn : ∀ j, j < 8 → D 1000 j = nI (num j)) (hnb : ∀ j, j < 8 → num j < 1000) {t : Nat} (ht : t < 2) (h8 : D 9 t = nI (y 8 t)) : F_X7_chainsOf N (nI t) D = some (nI (hp_chs y num t), D) := by
  have b8 := (hp_Wb hw).2.2.2.1 t ht
  rw [F_X7_chainsOf_eq]
  unfold hp_chs
  by_cases c : y 8 t = 0
  · simp (disch := omega) only [hp_kN, nI_add, pk_mul, hp_isInN, hp_m1L, hp_l0, hp_l1, hp_l2, hp_l3, hp_l4, hp_l5, hp_l7, hp_l8, hp_l10, hp_l17, hp_l20, hp_l24, hp_l48, hp_l50, hp_l55, hp_l127, hp_lm1, hp_eqN, hp_ltN, hp_inN, hp_cl, if_pos, if_neg, if_true, if_false, Option.bind_some, h8, c]
  · have := hp_chX_l N hw h6 hn hnb ht h8 (y 8 t - 1) 0 N (by omega) (by omega)
    have e0 : hp_chn y num t 0 = 0 := rfl
    rw [e0, Nat.add_zero] at this
    simp (disch := omega) only [hp_kN, nI_add, pk_mul, hp_isInN, hp_m1L, hp_l0, hp_l1, hp_l2, hp_l3, hp_l4, hp_l5, hp_l7, hp_l8, hp_l10, hp_l17, hp_l20, hp_l24, hp_l48, hp_l50, hp_l55, hp_l127, hp_lm1, hp_eqN, hp_ltN, hp_inN, hp_cl, if_pos, if_neg, if_true, if_false, Option.bind_some, h8, this]
theorem hp_needX (N : Nat) (hN : 10 ≤ N) {y : Nat → Nat → Nat} (hw : hp_WF y) {num : Nat → Nat} {D : hy_M} (h6 : ∀ t, t < 2 → ∀ j, j < 8 → D (7 + t) j = nI (y (6 + t) j)) (hn : ∀ j, j < 8 → D 1000 j = nI (num j)) (hnb : ∀ j, j < 8 → num j < 1000) (h8 : ∀ t, t < 2 → D 9 t = nI (y 8 t)) : F_X7_needOf N D = some (nI (hp_need y num), D) := by
  have b8 := (hp_Wb hw).2.2.2.1
  have c0 := hp_chs_le num (b8 0 (by omega))
  have c1 := hp_chs_le num (b8 1 (by omega))
  have k0 := hp_chX N hN hw h6 hn hnb (t := 0) (by omega) (h8 0 (by omega))
  have k1 := hp_chX N hN hw h6 hn hnb (t := 1) (by omega) (h8 1 (by omega))
  rw [F_X7_needOf_eq]
  unfold hp_need
  by_cases c : hp_chs y num 0 < hp_chs y num 1
  · simp (disch := omega) only [hp_kN, nI_add, pk_mul, hp_isInN, hp_m1L, hp_l0, hp_l1, hp_l2, hp_l3, hp_l4, hp_l5, hp_l7, hp_l8, hp_l10, hp_l17, hp_l20, hp_l24, hp_l48, hp_l50, hp_l55, hp_l127, hp_lm1, hp_eqN, hp_ltN, hp_inN, hp_cl, if_pos, if_neg, if_true, if_false, Option.bind_some, k0, k1]
  · simp (disch := omega) only [hp_kN, nI_add, pk_mul, hp_isInN, hp_m1L, hp_l0, hp_l1, hp_l2, hp_l3, hp_l4, hp_l5, hp_l7, hp_l8, hp_l10, hp_l17, hp_l20, hp_l24, hp_l48, hp_l50, hp_l55, hp_l127, hp_lm1, hp_eqN, hp_ltN, hp_inN, hp_cl, if_pos, if_neg, if_true, if_false, Option.bind_some, k0, k1]
theorem hp_cutX_1_57 (N : Nat) {y : Nat → Nat → Nat} (hw : hp_WF y) {num : Nat → Nat} {D : hy_M} (h6 : ∀ t, t < 2 → ∀ j, j < 8 → D (7 + t) j = nI (y (6 + t) j)) (hn : ∀ j, j < 8 → D 57 j = nI (num j)) (hnb : ∀ j, j < 8 → num j < 1000) {t p : Nat} (ht : t < 2) (hp : p + 1 < 8) : F_X7_isCut_1_57 N (nI t) (nI (p + 1)) D = some (nI (hp_cut y num t p), D) := by
  have w1 := hw.2.2.2.2.1 t ht (p + 1) hp
  have w2 := hw.2.2.2.2.1 t ht p (by omega)
  have n1 := hnb _ w1
  have n2 := hnb _ w2
  rw [F_X7_isCut_1_57_eq]
  unfold hp_cut
  by_cases c : num (y (6 + t) (p + 1)) < num (y (6 + t) p)
  · simp (disch := omega) only [hp_kN, nI_add, pk_mul, hp_isInN, hp_m1L, hp_l0, hp_l1, hp_l2, hp_l3, hp_l4, hp_l5, hp_l7, hp_l8, hp_l10, hp_l17, hp_l20, hp_l24, hp_l48, hp_l50, hp_l55, hp_l127, hp_lm1, hp_eqN, hp_ltN, hp_inN, hp_cl, if_pos, if_neg, if_true, if_false, Option.bind_some, F_X7_wantedAt_eq, hp_pr6, hp_al7, h6, pk_sub, Nat.add_sub_cancel, hn]
  · simp (disch := omega) only [hp_kN, nI_add, pk_mul, hp_isInN, hp_m1L, hp_l0, hp_l1, hp_l2, hp_l3, hp_l4, hp_l5, hp_l7, hp_l8, hp_l10, hp_l17, hp_l20, hp_l24, hp_l48, hp_l50, hp_l55, hp_l127, hp_lm1, hp_eqN, hp_ltN, hp_inN, hp_cl, if_pos, if_neg, if_true, if_false, Option.bind_some, F_X7_wantedAt_eq, hp_pr6, hp_al7, h6, pk_sub, Nat.add_sub_cancel, hn]
theorem hp_chX_1_57_l (N : Nat) {y : Nat → Nat → Nat} (hw : hp_WF y) {num : Nat → Nat} {D : hy_M} (h6 : ∀ t, t < 2 → ∀ j, j < 8 → D (7 + t) j = nI (y (6 + t) j)) (hn : ∀ j, j < 8 → D 57 j = nI (num j)) (hnb : ∀ j, j < 8 → num j < 1000) {t : Nat} (ht : t < 2) (h8 : D 9 t = nI (y 8 t)) : ∀ m p n, p + 1 + m = y 8 t → m < n → F_X7_chainsOf_1_57_16 N n (nI t) (nI (1 + hp_chn y num t p)) (nI (p + 1)) D = some (nI (1 + hp_chn y num t (y 8 t - 1)), D) := by
  have b8 := (hp_Wb hw).2.2.2.1 t ht
  intro m
  induction m with
  | zero =>
    intro p n e hm
    obtain ⟨n, rfl⟩ : ∃ n', n = n' + 1 := ⟨n - 1, by omega⟩
    have e : y 8 t = p + 1 := by omega
    rw [F_X7_chainsOf_1_57_16_eq]
    simp (disch := omega) only [hp_kN, nI_add, pk_mul, hp_isInN, hp_m1L, hp_l0, hp_l1, hp_l2, hp_l3, hp_l4, hp_l5, hp_l7, hp_l8, hp_l10, hp_l17, hp_l20, hp_l24, hp_l48, hp_l50, hp_l55, hp_l127, hp_lm1, hp_eqN, hp_ltN, hp_inN, hp_cl, if_pos, if_neg, if_true, if_false, Option.bind_some, h8, e, Nat.add_sub_cancel]
  | succ m ih =>
    intro p n e hm
    obtain ⟨n, rfl⟩ : ∃ n', n = n' + 1 := ⟨n - 1, by omega⟩
    have hi := ih (p + 1) n (by omega) (by omega)
    have e3 : hp_chn y num t (p + 1) = hp_chn y num t p + hp_cut y num t p := rfl
    rw [← hi, F_X7_chainsOf_1_57_16_eq, e3, ← Nat.add_assoc]
    rcases hp_cut01 y num t p with m0 | m0
    · simp (disch := omega) only [hp_kN, nI_add, pk_mul, hp_isInN, hp_m1L, hp_l0, hp_l1, hp_l2, hp_l3, hp_l4, hp_l5, hp_l7, hp_l8, hp_l10, hp_l17, hp_l20, hp_l24, hp_l48, hp_l50, hp_l55, hp_l127, hp_lm1, hp_eqN, hp_ltN, hp_inN, hp_cl, if_pos, if_neg, if_true, if_false, Option.bind_some, h8, hp_cutX_1_57 N hw h6 hn hnb, m0, Nat.add_zero]
    · simp (disch := omega) only [hp_kN, nI_add, pk_mul, hp_isInN, hp_m1L, hp_l0, hp_l1, hp_l2, hp_l3, hp_l4, hp_l5, hp_l7, hp_l8, hp_l10, hp_l17, hp_l20, hp_l24, hp_l48, hp_l50, hp_l55, hp_l127, hp_lm1, hp_eqN, hp_ltN, hp_inN, hp_cl, if_pos, if_neg, if_true, if_false, Option.bind_some, h8, hp_cutX_1_57 N hw h6 hn hnb, m0]
theorem hp_chX_1_57 (N : Nat) (hN : 10 ≤ N) {y : Nat → Nat → Nat} (hw : hp_WF y) {num : Nat → Nat} {D : hy_M} (h6 : ∀ t, t < 2 → ∀ j, j < 8 → D (7 + t) j = nI (y (6 + t) j)) (hn : ∀ j, j < 8 → D 57 j = nI (num j)) (hnb : ∀ j, j < 8 → num j < 1000) {t : Nat} (ht : t < 2) (h8 : D 9 t = nI (y 8 t)) : F_X7_chainsOf_1_57 N (nI t) D = some (nI (hp_chs y num t), D) := by
  have b8 := (hp_Wb hw).2.2.2.1 t ht
  rw [F_X7_chainsOf_1_57_eq]
  unfold hp_chs
  by_cases c : y 8 t = 0
  · simp (disch := omega) only [hp_kN, nI_add, pk_mul, hp_isInN, hp_m1L, hp_l0, hp_l1, hp_l2, hp_l3, hp_l4, hp_l5, hp_l7, hp_l8, hp_l10, hp_l17, hp_l20, hp_l24, hp_l48, hp_l50, hp_l55, hp_l127, hp_lm1, hp_eqN, hp_ltN, hp_inN, hp_cl, if_pos, if_neg, if_true, if_false, Option.bind_some, h8, c]
  · have := hp_chX_1_57_l N hw h6 hn hnb ht h8 (y 8 t - 1) 0 N (by omega) (by omega)
    have e0 : hp_chn y num t 0 = 0 := rfl
    rw [e0, Nat.add_zero] at this
    simp (disch := omega) only [hp_kN, nI_add, pk_mul, hp_isInN, hp_m1L, hp_l0, hp_l1, hp_l2, hp_l3, hp_l4, hp_l5, hp_l7, hp_l8, hp_l10, hp_l17, hp_l20, hp_l24, hp_l48, hp_l50, hp_l55, hp_l127, hp_lm1, hp_eqN, hp_ltN, hp_inN, hp_cl, if_pos, if_neg, if_true, if_false, Option.bind_some, h8, this]
theorem hp_needX_1_57 (N : Nat) (hN : 10 ≤ N) {y : Nat → Nat → Nat} (hw : hp_WF y) {num : Nat → Nat} {D : hy_M} (h6 : ∀ t, t < 2 → ∀ j, j < 8 → D (7 + t) j = nI (y (6 + t) j)) (hn : ∀ j, j < 8 → D 57 j = nI (num j)) (hnb : ∀ j, j < 8 → num j < 1000) (h8 : ∀ t, t < 2 → D 9 t = nI (y 8 t)) : F_X7_needOf_1_57 N D = some (nI (hp_need y num), D) := by
  have b8 := (hp_Wb hw).2.2.2.1
  have c0 := hp_chs_le num (b8 0 (by omega))
  have c1 := hp_chs_le num (b8 1 (by omega))
  have k0 := hp_chX_1_57 N hN hw h6 hn hnb (t := 0) (by omega) (h8 0 (by omega))
  have k1 := hp_chX_1_57 N hN hw h6 hn hnb (t := 1) (by omega) (h8 1 (by omega))
  rw [F_X7_needOf_1_57_eq]
  unfold hp_need
  by_cases c : hp_chs y num 0 < hp_chs y num 1
  · simp (disch := omega) only [hp_kN, nI_add, pk_mul, hp_isInN, hp_m1L, hp_l0, hp_l1, hp_l2, hp_l3, hp_l4, hp_l5, hp_l7, hp_l8, hp_l10, hp_l17, hp_l20, hp_l24, hp_l48, hp_l50, hp_l55, hp_l127, hp_lm1, hp_eqN, hp_ltN, hp_inN, hp_cl, if_pos, if_neg, if_true, if_false, Option.bind_some, k0, k1]
  · simp (disch := omega) only [hp_kN, nI_add, pk_mul, hp_isInN, hp_m1L, hp_l0, hp_l1, hp_l2, hp_l3, hp_l4, hp_l5, hp_l7, hp_l8, hp_l10, hp_l17, hp_l20, hp_l24, hp_l48, hp_l50, hp_l55, hp_l127, hp_lm1, hp_eqN, hp_ltN, hp_inN, hp_cl, if_pos, if_neg, if_true, if_false, Option.bind_some, k0, k1]
theorem hp_chM_l (N : Nat) {y : Nat → Nat → Nat} (hw : hp_WF y) {num : Nat → Nat} {D : hy_M} (h30 : ∀ t, t < 2 → ∀ j, j < 8 → D 68 (30 + 8 * t + j) = nI (y (6 + t) j)) (hn : ∀ j, j < 8 → D 72 j = nI (num j)) (hnb : ∀ j, j < 8 → num j < 1000) {t : Nat} (ht : t < 2) (h8 : D 68 (28 + t) = nI (y 8 t)) : ∀ m p n, p + 1 + m = y 8 t → m < n → F_X9_chainsOf_20 N n (nI t) (nI (1 + hp_chn y num t p)) (nI (p + 1)) D = some (nI (1 + hp_chn y num t (y 8 t - 1)), D) := by
  have b8 := (hp_Wb hw).2.2.2.1 t ht
  intro m
  induction m with
  | zero =>
    intro p n e hm
    obtain ⟨n, rfl⟩ : ∃ n', n = n' + 1 := ⟨n - 1, by omega⟩
    have e : y 8 t = p + 1 := by omega
    rw [F_X9_chainsOf_20_eq]
    simp (disch := omega) only [hp_kN, nI_add, pk_mul, hp_isInN, hp_m1L, hp_l0, hp_l1, hp_l2, hp_l3, hp_l4, hp_l5, hp_l7, hp_l8, hp_l10, hp_l17, hp_l20, hp_l24, hp_l48, hp_l50, hp_l55, hp_l127, hp_lm1, hp_eqN, hp_ltN, hp_inN, hp_cl, if_pos, if_neg, if_true, if_false, Option.bind_some, h8, e, Nat.add_sub_cancel]
  | succ m ih =>
    intro p n e hm
    obtain ⟨n, rfl⟩ : ∃ n', n = n' + 1 := ⟨n - 1, by omega⟩
    have w1 := hw.2.2.2.2.1 t ht (p + 1) (by omega)
    have w2 := hw.2.2.2.2.1 t ht p (by omega)
    have n1 := hnb _ w1
    have n2 := hnb _ w2
    have hi := ih (p + 1) n (by omega) (by omega)
    have e3 : hp_chn y num t (p + 1) = hp_chn y num t p + hp_cut y num t p := rfl
    rw [← hi, F_X9_chainsOf_20_eq, e3, ← Nat.add_assoc]
    unfold hp_cut
    by_cases c : num (y (6 + t) (p + 1)) < num (y (6 + t) p)
    · simp (disch := omega) only [hp_kN, nI_add, pk_mul, hp_isInN, hp_m1L, hp_l0, hp_l1, hp_l2, hp_l3, hp_l4, hp_l5, hp_l7, hp_l8, hp_l10, hp_l17, hp_l20, hp_l24, hp_l48, hp_l50, hp_l55, hp_l127, hp_lm1, hp_eqN, hp_ltN, hp_inN, hp_cl, if_pos, if_neg, if_true, if_false, Option.bind_some, h8, F_X9_wantedAt_eq, h30, pk_sub, Nat.add_sub_cancel, hn]
    · simp (disch := omega) only [hp_kN, nI_add, pk_mul, hp_isInN, hp_m1L, hp_l0, hp_l1, hp_l2, hp_l3, hp_l4, hp_l5, hp_l7, hp_l8, hp_l10, hp_l17, hp_l20, hp_l24, hp_l48, hp_l50, hp_l55, hp_l127, hp_lm1, hp_eqN, hp_ltN, hp_inN, hp_cl, if_pos, if_neg, if_true, if_false, Option.bind_some, h8, F_X9_wantedAt_eq, h30, pk_sub, Nat.add_sub_cancel, hn, Nat.add_zero]
theorem hp_chM (N : Nat) (hN : 10 ≤ N) {y : Nat → Nat → Nat} (hw : hp_WF y) {num : Nat → Nat} {D : hy_M} (h30 : ∀ t, t < 2 → ∀ j, j < 8 → D 68 (30 + 8 * t + j) = nI (y (6 + t) j)) (hn : ∀ j, j < 8 → D 72 j = nI (num j)) (hnb : ∀ j, j < 8 → num j < 1000) {t : Nat} (ht : t < 2) (h8 : D 68 (28 + t) = nI (y 8 t)) : F_X9_chainsOf N (nI t) D = some (nI (hp_chs y num t), D) := by
  have b8 := (hp_Wb hw).2.2.2.1 t ht
  rw [F_X9_chainsOf_eq]
  unfold hp_chs
  by_cases c : y 8 t = 0
  · obtain ⟨N, rfl⟩ : ∃ n, N = n + 1 := ⟨N - 1, by omega⟩
    simp (disch := omega) only [hp_kN, nI_add, pk_mul, hp_isInN, hp_m1L, hp_l0, hp_l1, hp_l2, hp_l3, hp_l4, hp_l5, hp_l7, hp_l8, hp_l10, hp_l17, hp_l20, hp_l24, hp_l48, hp_l50, hp_l55, hp_l127, hp_lm1, hp_eqN, hp_ltN, hp_inN, hp_cl, if_pos, if_neg, if_true, if_false, Option.bind_some, h8, c, F_X9_chainsOf_20_eq]
  · have := hp_chM_l N hw h30 hn hnb ht h8 (y 8 t - 1) 0 N (by omega) (by omega)
    have e0 : hp_chn y num t 0 = 0 := rfl
    rw [e0, Nat.add_zero] at this
    simp (disch := omega) only [hp_kN, nI_add, pk_mul, hp_isInN, hp_m1L, hp_l0, hp_l1, hp_l2, hp_l3, hp_l4, hp_l5, hp_l7, hp_l8, hp_l10, hp_l17, hp_l20, hp_l24, hp_l48, hp_l50, hp_l55, hp_l127, hp_lm1, hp_eqN, hp_ltN, hp_inN, hp_cl, if_pos, if_neg, if_true, if_false, Option.bind_some, h8, this]
theorem hp_needM (N : Nat) (hN : 10 ≤ N) {y : Nat → Nat → Nat} (hw : hp_WF y) {num : Nat → Nat} {D : hy_M} (h30 : ∀ t, t < 2 → ∀ j, j < 8 → D 68 (30 + 8 * t + j) = nI (y (6 + t) j)) (hn : ∀ j, j < 8 → D 72 j = nI (num j)) (hnb : ∀ j, j < 8 → num j < 1000) (h8 : ∀ t, t < 2 → D 68 (28 + t) = nI (y 8 t)) : F_X9_need N D = some (nI (hp_need y num), D) := by
  have b8 := (hp_Wb hw).2.2.2.1
  have c0 := hp_chs_le num (b8 0 (by omega))
  have c1 := hp_chs_le num (b8 1 (by omega))
  have k0 := hp_chM N hN hw h30 hn hnb (t := 0) (by omega) (h8 0 (by omega))
  have k1 := hp_chM N hN hw h30 hn hnb (t := 1) (by omega) (h8 1 (by omega))
  rw [F_X9_need_eq]
  unfold hp_need
  by_cases c : hp_chs y num 0 < hp_chs y num 1
  · simp (disch := omega) only [hp_kN, nI_add, pk_mul, hp_isInN, hp_m1L, hp_l0, hp_l1, hp_l2, hp_l3, hp_l4, hp_l5, hp_l7, hp_l8, hp_l10, hp_l17, hp_l20, hp_l24, hp_l48, hp_l50, hp_l55, hp_l127, hp_lm1, hp_eqN, hp_ltN, hp_inN, hp_cl, if_pos, if_neg, if_true, if_false, Option.bind_some, k0, k1]
  · by_cases c2 : hp_chs y num 1 < hp_chs y num 0
    · simp (disch := omega) only [hp_kN, nI_add, pk_mul, hp_isInN, hp_m1L, hp_l0, hp_l1, hp_l2, hp_l3, hp_l4, hp_l5, hp_l7, hp_l8, hp_l10, hp_l17, hp_l20, hp_l24, hp_l48, hp_l50, hp_l55, hp_l127, hp_lm1, hp_eqN, hp_ltN, hp_inN, hp_cl, if_pos, if_neg, if_true, if_false, Option.bind_some, k0, k1]
    · have e : hp_chs y num 1 = hp_chs y num 0 := by omega
      simp (disch := omega) only [hp_kN, nI_add, pk_mul, hp_isInN, hp_m1L, hp_l0, hp_l1, hp_l2, hp_l3, hp_l4, hp_l5, hp_l7, hp_l8, hp_l10, hp_l17, hp_l20, hp_l24, hp_l48, hp_l50, hp_l55, hp_l127, hp_lm1, hp_eqN, hp_ltN, hp_inN, hp_cl, if_pos, if_neg, if_true, if_false, Option.bind_some, k0, k1, e]
theorem hp_ata (N : Nat) (hN : 10 ≤ N) (D : hy_M) : ∃ D1, F_X9_asTheyAre N D = some D1 ∧ (∀ j, j < 8 → D1 72 j = nI j) ∧ (∀ c, c ≠ 72 → D1 c = D c) := by
  obtain ⟨N, rfl⟩ : ∃ n, N = n + 10 := ⟨N - 10, by omega⟩
  refine ⟨hy_w (hy_w (hy_w (hy_w (hy_w (hy_w (hy_w (hy_w D 72 0 (nI 0)) 72 1 (nI 1)) 72 2 (nI 2)) 72 3 (nI 3)) 72 4 (nI 4)) 72 5 (nI 5)) 72 6 (nI 6)) 72 7 (nI 7), ?_, fun j hj => ?_, fun c a => ?_⟩
  · rw [F_X9_asTheyAre_eq]
    simp (disch := omega) only [F_X9_asTheyAre_2_eq, hp_kN, nI_add, hp_ltN, hp_inN, hp_cl, if_pos, if_neg, Nat.reduceAdd]
  · rcases (show j = 0 ∨ j = 1 ∨ j = 2 ∨ j = 3 ∨ j = 4 ∨ j = 5 ∨ j = 6 ∨ j = 7 by omega) with rfl | rfl | rfl | rfl | rfl | rfl | rfl | rfl <;> simp [hp_w]
  · simp (disch := omega) only [hy_w_ne]
/-! the place and the chain of a wagon -/
theorem hp_plM (N : Nat) (hN : 10 ≤ N) {y : Nat → Nat → Nat} (hw : hp_WF y) {D : hy_M} (h30 : ∀ t, t < 2 → ∀ j, j < 8 → D 68 (30 + 8 * t + j) = nI (y (6 + t) j)) (h20 : ∀ j, j < 8 → D 68 (20 + j) = nI (y 3 j)) {w : Nat} (hw0 : w < y 0 0) : F_X9_placeOf N (nI w) D = some (nI (y 4 w), D) := by
  obtain ⟨b0, b1, b2, b8, b17, b9⟩ := hp_Wb hw
  have ht := (hw.2.2.2.1 w (by omega)).2.2
  have h8 := b8 (y 3 w) ht
  have hp := hw.2.2.2.2.2.2.2.1 w hw0
  have l : ∀ m i n, i + m = y 4 w → m < n → F_X9_placeOf_2 N n (nI w) (nI i) D = some (nI (y 4 w), D) := by
    intro m
    induction m with
    | zero =>
      intro i n e hm
      obtain ⟨n, rfl⟩ : ∃ n', n = n' + 1 := ⟨n - 1, by omega⟩
      have e : i = y 4 w := by omega
      rw [F_X9_placeOf_2_eq, e]
      simp (disch := omega) only [hp_kN, nI_add, pk_mul, hp_isInN, hp_m1L, hp_l0, hp_l1, hp_l2, hp_l3, hp_l4, hp_l5, hp_l7, hp_l8, hp_l10, hp_l17, hp_l20, hp_l24, hp_l48, hp_l50, hp_l55, hp_l127, hp_lm1, hp_eqN, hp_ltN, hp_inN, hp_cl, if_pos, if_neg, if_true, if_false, Option.bind_some, h20, F_X9_wantedAt_eq, h30, hp.2.2]
    | succ m ih =>
      intro i n e hm
      obtain ⟨n, rfl⟩ : ∃ n', n = n' + 1 := ⟨n - 1, by omega⟩
      have w1 := hw.2.2.2.2.1 (y 3 w) ht i (by omega)
      have q := hw.2.2.2.2.2.2.2.2.1 (y 3 w) ht i (by omega)
      have ne : y (6 + y 3 w) i ≠ w := fun z => by
        rw [z] at q
        omega
      rw [F_X9_placeOf_2_eq]
      simp (disch := omega) only [hp_kN, nI_add, pk_mul, hp_isInN, hp_m1L, hp_l0, hp_l1, hp_l2, hp_l3, hp_l4, hp_l5, hp_l7, hp_l8, hp_l10, hp_l17, hp_l20, hp_l24, hp_l48, hp_l50, hp_l55, hp_l127, hp_lm1, hp_eqN, hp_ltN, hp_inN, hp_cl, if_pos, if_neg, if_true, if_false, Option.bind_some, h20, F_X9_wantedAt_eq, h30, ih (i + 1) n (by omega) (by omega)]
  rw [F_X9_placeOf_eq]
  exact l (y 4 w) 0 N (by omega) (by omega)
theorem hp_dec (p : Nat) : nI (p + 1) + -nI 1 = nI p := by
  rw [← nI_add, Int32.add_assoc, Int32.add_right_neg, Int32.add_zero]
def hp_ch (y : Nat → Nat → Nat) (w : Nat) : Nat := hp_chn y (fun j => j) (y 3 w) (y 4 w)
theorem hp_ch_lt {y : Nat → Nat → Nat} (hw : hp_WF y) {w : Nat} (h : w < y 0 0) : hp_ch y w < 8 := by
  obtain ⟨b0, b1, b2, b8, b17, b9⟩ := hp_Wb hw
  have ht := (hw.2.2.2.1 w (by omega)).2.2
  have h8 := b8 (y 3 w) ht
  have hp := hw.2.2.2.2.2.2.2.1 w h
  have := hp_chn_le y (fun j => j) (y 3 w) (y 4 w)
  unfold hp_ch
  omega
theorem hp_chwM (N : Nat) (hN : 10 ≤ N) {y : Nat → Nat → Nat} (hw : hp_WF y) {D : hy_M} (h30 : ∀ t, t < 2 → ∀ j, j < 8 → D 68 (30 + 8 * t + j) = nI (y (6 + t) j)) (h20 : ∀ j, j < 8 → D 68 (20 + j) = nI (y 3 j)) {w : Nat} (hw0 : w < y 0 0) : F_X9_chainOf N (nI w) D = some (nI (hp_ch y w), D) := by
  obtain ⟨b0, b1, b2, b8, b17, b9⟩ := hp_Wb hw
  have ht := (hw.2.2.2.1 w (by omega)).2.2
  have h8 := b8 (y 3 w) ht
  have hp := hw.2.2.2.2.2.2.2.1 w hw0
  have l : ∀ p a n, p < n → p < 8 → F_X9_chainOf_19 N n (nI a) (nI (y 3 w)) (nI p) D = some (nI (a + hp_chn y (fun j => j) (y 3 w) p), D) := by
    intro p
    induction p with
    | zero =>
      intro a n hn hp8
      obtain ⟨n, rfl⟩ : ∃ n', n = n' + 1 := ⟨n - 1, by omega⟩
      rw [F_X9_chainOf_19_eq]
      simp (disch := omega) only [hp_kN, nI_add, pk_mul, hp_isInN, hp_m1L, hp_l0, hp_l1, hp_l2, hp_l3, hp_l4, hp_l5, hp_l7, hp_l8, hp_l10, hp_l17, hp_l20, hp_l24, hp_l48, hp_l50, hp_l55, hp_l127, hp_lm1, hp_eqN, hp_ltN, hp_inN, hp_cl, if_pos, if_neg, if_true, if_false, Option.bind_some]
      rfl
    | succ p ih =>
      intro a n hn hp8
      obtain ⟨n, rfl⟩ : ∃ n', n = n' + 1 := ⟨n - 1, by omega⟩
      have w1 := hw.2.2.2.2.1 (y 3 w) ht (p + 1) (by omega)
      have w2 := hw.2.2.2.2.1 (y 3 w) ht p (by omega)
      rw [F_X9_chainOf_19_eq]
      have e3 : hp_chn y (fun j => j) (y 3 w) (p + 1) = hp_chn y (fun j => j) (y 3 w) p + hp_cut y (fun j => j) (y 3 w) p := rfl
      rw [e3]
      unfold hp_cut
      by_cases c : y (6 + y 3 w) (p + 1) < y (6 + y 3 w) p
      · simp (disch := omega) only [hp_kN, nI_add, pk_mul, hp_isInN, hp_m1L, hp_l0, hp_l1, hp_l2, hp_l3, hp_l4, hp_l5, hp_l7, hp_l8, hp_l10, hp_l17, hp_l20, hp_l24, hp_l48, hp_l50, hp_l55, hp_l127, hp_lm1, hp_eqN, hp_ltN, hp_inN, hp_cl, if_pos, if_neg, if_true, if_false, Option.bind_some, F_X9_wantedAt_eq, h30, pk_sub, Nat.add_sub_cancel, hp_dec, ih (a + 1) n (by omega) (by omega)]
        rw [show a + 1 + hp_chn y (fun j => j) (y 3 w) p = a + (hp_chn y (fun j => j) (y 3 w) p + 1) by omega]
      · simp (disch := omega) only [hp_kN, nI_add, pk_mul, hp_isInN, hp_m1L, hp_l0, hp_l1, hp_l2, hp_l3, hp_l4, hp_l5, hp_l7, hp_l8, hp_l10, hp_l17, hp_l20, hp_l24, hp_l48, hp_l50, hp_l55, hp_l127, hp_lm1, hp_eqN, hp_ltN, hp_inN, hp_cl, if_pos, if_neg, if_true, if_false, Option.bind_some, F_X9_wantedAt_eq, h30, pk_sub, Nat.add_sub_cancel, hp_dec, Nat.add_zero, ih a n (by omega) (by omega)]
  have := l (y 4 w) 0 N (by omega) (by omega)
  rw [Nat.zero_add] at this
  rw [F_X9_chainOf_eq]
  simp (disch := omega) only [hp_kN, nI_add, pk_mul, hp_isInN, hp_m1L, hp_l0, hp_l1, hp_l2, hp_l3, hp_l4, hp_l5, hp_l7, hp_l8, hp_l10, hp_l17, hp_l20, hp_l24, hp_l48, hp_l50, hp_l55, hp_l127, hp_lm1, hp_eqN, hp_ltN, hp_inN, hp_cl, if_pos, if_neg, if_true, if_false, Option.bind_some, h20, hp_plM N hN hw h30 h20 hw0, this]
  rfl
theorem hp_chwX (N : Nat) (hN : 10 ≤ N) {y : Nat → Nat → Nat} (hw : hp_WF y) {D : hy_M} (h6 : ∀ t, t < 2 → ∀ j, j < 8 → D (7 + t) j = nI (y (6 + t) j)) (h3 : ∀ j, j < 8 → D 4 j = nI (y 3 j)) (h4 : ∀ j, j < 8 → D 5 j = nI (y 4 j)) (hn : ∀ j, j < 8 → D 1000 j = nI j) {w : Nat} (hw0 : w < y 0 0) : F_X7_chainOf N (nI w) D = some (nI (hp_ch y w), D) := by
  obtain ⟨b0, b1, b2, b8, b17, b9⟩ := hp_Wb hw
  have ht := (hw.2.2.2.1 w (by omega)).2.2
  have h8 := b8 (y 3 w) ht
  have hp := hw.2.2.2.2.2.2.2.1 w hw0
  have cx := fun (p : Nat) (hp : p + 1 < 8) => hp_cutX N hw (num := fun j => j) h6 hn (fun j hj => by omega) ht hp
  have l : ∀ m p n, p + m = y 4 w → m < n → F_X7_chainOf_4 N n (nI w) (nI (hp_chn y (fun j => j) (y 3 w) p)) (nI (p + 1)) D = some (nI (hp_ch y w), D) := by
    intro m
    induction m with
    | zero =>
      intro p n e hm
      obtain ⟨n, rfl⟩ : ∃ n', n = n' + 1 := ⟨n - 1, by omega⟩
      have e : p = y 4 w := by omega
      rw [F_X7_chainOf_4_eq, e]
      simp (disch := omega) only [hp_kN, nI_add, pk_mul, hp_isInN, hp_m1L, hp_l0, hp_l1, hp_l2, hp_l3, hp_l4, hp_l5, hp_l7, hp_l8, hp_l10, hp_l17, hp_l20, hp_l24, hp_l48, hp_l50, hp_l55, hp_l127, hp_lm1, hp_eqN, hp_ltN, hp_inN, hp_cl, if_pos, if_neg, if_true, if_false, Option.bind_some, h4]
      rfl
    | succ m ih =>
      intro p n e hm
      obtain ⟨n, rfl⟩ : ∃ n', n = n' + 1 := ⟨n - 1, by omega⟩
      have hi := ih (p + 1) n (by omega) (by omega)
      have e3 : hp_chn y (fun j => j) (y 3 w) (p + 1) = hp_chn y (fun j => j) (y 3 w) p + hp_cut y (fun j => j) (y 3 w) p := rfl
      rw [← hi, F_X7_chainOf_4_eq, e3]
      have cp := cx p (by omega)
      rcases hp_cut01 y (fun j => j) (y 3 w) p with m0 | m0
      · rw [m0] at cp
        simp (disch := omega) only [hp_kN, nI_add, pk_mul, hp_isInN, hp_m1L, hp_l0, hp_l1, hp_l2, hp_l3, hp_l4, hp_l5, hp_l7, hp_l8, hp_l10, hp_l17, hp_l20, hp_l24, hp_l48, hp_l50, hp_l55, hp_l127, hp_lm1, hp_eqN, hp_ltN, hp_inN, hp_cl, if_pos, if_neg, if_true, if_false, Option.bind_some, h4, h3, cp, m0, Nat.add_zero]
      · rw [m0] at cp
        simp (disch := omega) only [hp_kN, nI_add, pk_mul, hp_isInN, hp_m1L, hp_l0, hp_l1, hp_l2, hp_l3, hp_l4, hp_l5, hp_l7, hp_l8, hp_l10, hp_l17, hp_l20, hp_l24, hp_l48, hp_l50, hp_l55, hp_l127, hp_lm1, hp_eqN, hp_ltN, hp_inN, hp_cl, if_pos, if_neg, if_true, if_false, Option.bind_some, h4, h3, cp, m0]
  have := l (y 4 w) 0 N (by omega) (by omega)
  rw [F_X7_chainOf_eq]
  exact this
