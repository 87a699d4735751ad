/-! ===== rows by draws ===== -/
theorem hp_wn0 {y : Nat → Nat → Nat} (hw : hp_WF y) {t j : Nat} (ht : t < 2) (hj : j < y 8 t) : y (6 + t) j < y 0 0 := (hw.2.2.2.2.2.2.2.2.1 t ht j hj).1
theorem hp_cutXn (N : Nat) {y : Nat → Nat → Nat} (hw : hp_WF y) {num : Nat → Nat} {D : hy_M} (h6 : ∀ t, t < 2 → ∀ j, j < 8 → D (7 + t) j = nI (y (6 + t) j)) (hn : ∀ j, j < y 0 0 → D 57 j = nI (num j)) (hnb : ∀ j, j < y 0 0 → num j < 1000) {t p : Nat} (ht : t < 2) (hp : p + 1 < y 8 t) : F_X7_isCut_1_57 N (nI t) (nI (p + 1)) D = some (nI (hp_cut y num t p), D) := by
  have b0 := hw.1
  have b8 := (hp_Wb hw).2.2.2.1 t ht
  have w1 := hp_wn0 hw ht hp
  have w2 := hp_wn0 hw ht (j := p) (by omega)
  have n1 := hnb _ w1
  have n2 := hnb _ w2
  rw [F_X7_isCut_1_57_eq]
  unfold hp_cut
  by_cases c : num (y (6 + t) (p + 1)) < num (y (6 + t) p)
  · simp (disch := omega) only [hp_kN, nI_add, pk_mul, hp_isInN, hp_m1L, hp_l0, hp_l1, hp_l2, hp_l3, hp_l4, hp_l5, hp_l7, hp_l8, hp_l10, hp_l17, hp_l20, hp_l24, hp_l48, hp_l50, hp_l55, hp_l127, hp_lm1, hp_eqN, hp_ltN, hp_inN, hp_cl, if_pos, if_neg, if_true, if_false, Option.bind_some, F_X7_wantedAt_eq, hp_pr6, hp_al7, h6, pk_sub, Nat.add_sub_cancel, hn]
  · simp (disch := omega) only [hp_kN, nI_add, pk_mul, hp_isInN, hp_m1L, hp_l0, hp_l1, hp_l2, hp_l3, hp_l4, hp_l5, hp_l7, hp_l8, hp_l10, hp_l17, hp_l20, hp_l24, hp_l48, hp_l50, hp_l55, hp_l127, hp_lm1, hp_eqN, hp_ltN, hp_inN, hp_cl, if_pos, if_neg, if_true, if_false, Option.bind_some, F_X7_wantedAt_eq, hp_pr6, hp_al7, h6, pk_sub, Nat.add_sub_cancel, hn]
theorem hp_chXn_l (N : Nat) {y : Nat → Nat → Nat} (hw : hp_WF y) {num : Nat → Nat} {D : hy_M} (h6 : ∀ t, t < 2 → ∀ j, j < 8 → D (7 + t) j = nI (y (6 + t) j)) (hn : ∀ j, j < y 0 0 → D 57 j = nI (num j)) (hnb : ∀ j, j < y 0 0 → num j < 1000) {t : Nat} (ht : t < 2) (h8 : D 9 t = nI (y 8 t)) : ∀ m p n, p + 1 + m = y 8 t → m < n → F_X7_chainsOf_1_57_16 N n (nI t) (nI (1 + hp_chn y num t p)) (nI (p + 1)) D = some (nI (1 + hp_chn y num t (y 8 t - 1)), D) := by
  have b8 := (hp_Wb hw).2.2.2.1 t ht
  intro m
  induction m with
  | zero =>
    intro p n e hm
    obtain ⟨n, rfl⟩ : ∃ n', n = n' + 1 := ⟨n - 1, by omega⟩
    have e : y 8 t = p + 1 := by omega
    rw [F_X7_chainsOf_1_57_16_eq]
    simp (disch := omega) only [hp_kN, nI_add, pk_mul, hp_isInN, hp_m1L, hp_l0, hp_l1, hp_l2, hp_l3, hp_l4, hp_l5, hp_l7, hp_l8, hp_l10, hp_l17, hp_l20, hp_l24, hp_l48, hp_l50, hp_l55, hp_l127, hp_lm1, hp_eqN, hp_ltN, hp_inN, hp_cl, if_pos, if_neg, if_true, if_false, Option.bind_some, h8, e, Nat.add_sub_cancel]
  | succ m ih =>
    intro p n e hm
    obtain ⟨n, rfl⟩ : ∃ n', n = n' + 1 := ⟨n - 1, by omega⟩
    have hi := ih (p + 1) n (by omega) (by omega)
    have e3 : hp_chn y num t (p + 1) = hp_chn y num t p + hp_cut y num t p := rfl
    have kc := hp_cutXn N hw h6 hn hnb ht (p := p) (by omega)
    rw [← hi, F_X7_chainsOf_1_57_16_eq, e3, ← Nat.add_assoc]
    clear h6 hn hnb ih
    rcases hp_cut01 y num t p with m0 | m0
    · rw [m0] at kc ⊢
      simp (disch := omega) only [hp_kN, nI_add, pk_mul, hp_isInN, hp_m1L, hp_l0, hp_l1, hp_l2, hp_l3, hp_l4, hp_l5, hp_l7, hp_l8, hp_l10, hp_l17, hp_l20, hp_l24, hp_l48, hp_l50, hp_l55, hp_l127, hp_lm1, hp_eqN, hp_ltN, hp_inN, hp_cl, if_pos, if_neg, if_true, if_false, Option.bind_some, h8, kc, Nat.add_zero]
    · rw [m0] at kc ⊢
      simp (disch := omega) only [hp_kN, nI_add, pk_mul, hp_isInN, hp_m1L, hp_l0, hp_l1, hp_l2, hp_l3, hp_l4, hp_l5, hp_l7, hp_l8, hp_l10, hp_l17, hp_l20, hp_l24, hp_l48, hp_l50, hp_l55, hp_l127, hp_lm1, hp_eqN, hp_ltN, hp_inN, hp_cl, if_pos, if_neg, if_true, if_false, Option.bind_some, h8, kc]
theorem hp_chXn (N : Nat) (hN : 10 ≤ N) {y : Nat → Nat → Nat} (hw : hp_WF y) {num : Nat → Nat} {D : hy_M} (h6 : ∀ t, t < 2 → ∀ j, j < 8 → D (7 + t) j = nI (y (6 + t) j)) (hn : ∀ j, j < y 0 0 → D 57 j = nI (num j)) (hnb : ∀ j, j < y 0 0 → num j < 1000) {t : Nat} (ht : t < 2) (h8 : D 9 t = nI (y 8 t)) : F_X7_chainsOf_1_57 N (nI t) D = some (nI (hp_chs y num t), D) := by
  have b8 := (hp_Wb hw).2.2.2.1 t ht
  rw [F_X7_chainsOf_1_57_eq]
  unfold hp_chs
  by_cases c : y 8 t = 0
  · simp (disch := omega) only [hp_kN, nI_add, pk_mul, hp_isInN, hp_m1L, hp_l0, hp_l1, hp_l2, hp_l3, hp_l4, hp_l5, hp_l7, hp_l8, hp_l10, hp_l17, hp_l20, hp_l24, hp_l48, hp_l50, hp_l55, hp_l127, hp_lm1, hp_eqN, hp_ltN, hp_inN, hp_cl, if_pos, if_neg, if_true, if_false, Option.bind_some, h8, c]
  · have := hp_chXn_l N hw h6 hn hnb ht h8 (y 8 t - 1) 0 N (by omega) (by omega)
    have e0 : hp_chn y num t 0 = 0 := rfl
    rw [e0, Nat.add_zero] at this
    simp (disch := omega) only [hp_kN, nI_add, pk_mul, hp_isInN, hp_m1L, hp_l0, hp_l1, hp_l2, hp_l3, hp_l4, hp_l5, hp_l7, hp_l8, hp_l10, hp_l17, hp_l20, hp_l24, hp_l48, hp_l50, hp_l55, hp_l127, hp_lm1, hp_eqN, hp_ltN, hp_inN, hp_cl, if_pos, if_neg, if_true, if_false, Option.bind_some, h8, this]
theorem hp_needXn (N : Nat) (hN : 10 ≤ N) {y : Nat → Nat → Nat} (hw : hp_WF y) {num : Nat → Nat} {D : hy_M} (h6 : ∀ t, t < 2 → ∀ j, j < 8 → D (7 + t) j = nI (y (6 + t) j)) (hn : ∀ j, j < y 0 0 → D 57 j = nI (num j)) (hnb : ∀ j, j < y 0 0 → num j < 1000) (h8 : ∀ t, t < 2 → D 9 t = nI (y 8 t)) : F_X7_needOf_1_57 N D = some (nI (hp_need y num), D) := by
  have b8 := (hp_Wb hw).2.2.2.1
  have c0 := hp_chs_le num (b8 0 (by omega))
  have c1 := hp_chs_le num (b8 1 (by omega))
  have k0 := hp_chXn N hN hw h6 hn hnb (t := 0) (by omega) (h8 0 (by omega))
  have k1 := hp_chXn N hN hw h6 hn hnb (t := 1) (by omega) (h8 1 (by omega))
  rw [F_X7_needOf_1_57_eq]
  unfold hp_need
  by_cases c : hp_chs y num 0 < hp_chs y num 1
  · simp (disch := omega) only [hp_kN, nI_add, pk_mul, hp_isInN, hp_m1L, hp_l0, hp_l1, hp_l2, hp_l3, hp_l4, hp_l5, hp_l7, hp_l8, hp_l10, hp_l17, hp_l20, hp_l24, hp_l48, hp_l50, hp_l55, hp_l127, hp_lm1, hp_eqN, hp_ltN, hp_inN, hp_cl, if_pos, if_neg, if_true, if_false, Option.bind_some, k0, k1]
  · simp (disch := omega) only [hp_kN, nI_add, pk_mul, hp_isInN, hp_m1L, hp_l0, hp_l1, hp_l2, hp_l3, hp_l4, hp_l5, hp_l7, hp_l8, hp_l10, hp_l17, hp_l20, hp_l24, hp_l48, hp_l50, hp_l55, hp_l127, hp_lm1, hp_eqN, hp_ltN, hp_inN, hp_cl, if_pos, if_neg, if_true, if_false, Option.bind_some, k0, k1]
theorem hp_chMn_l (N : Nat) {y : Nat → Nat → Nat} (hw : hp_WF y) {num : Nat → Nat} {D : hy_M} (h30 : ∀ t, t < 2 → ∀ j, j < 8 → D 68 (30 + 8 * t + j) = nI (y (6 + t) j)) (hn : ∀ j, j < y 0 0 → D 72 j = nI (num j)) (hnb : ∀ j, j < y 0 0 → num j < 1000) {t : Nat} (ht : t < 2) (h8 : D 68 (28 + t) = nI (y 8 t)) : ∀ m p n, p + 1 + m = y 8 t → m < n → F_X9_chainsOf_20 N n (nI t) (nI (1 + hp_chn y num t p)) (nI (p + 1)) D = some (nI (1 + hp_chn y num t (y 8 t - 1)), D) := by
  have b0 := hw.1
  have b8 := (hp_Wb hw).2.2.2.1 t ht
  intro m
  induction m with
  | zero =>
    intro p n e hm
    obtain ⟨n, rfl⟩ : ∃ n', n = n' + 1 := ⟨n - 1, by omega⟩
    have e : y 8 t = p + 1 := by omega
    rw [F_X9_chainsOf_20_eq]
    simp (disch := omega) only [hp_kN, nI_add, pk_mul, hp_isInN, hp_m1L, hp_l0, hp_l1, hp_l2, hp_l3, hp_l4, hp_l5, hp_l7, hp_l8, hp_l10, hp_l17, hp_l20, hp_l24, hp_l48, hp_l50, hp_l55, hp_l127, hp_lm1, hp_eqN, hp_ltN, hp_inN, hp_cl, if_pos, if_neg, if_true, if_false, Option.bind_some, h8, e, Nat.add_sub_cancel]
  | succ m ih =>
    intro p n e hm
    obtain ⟨n, rfl⟩ : ∃ n', n = n' + 1 := ⟨n - 1, by omega⟩
    have w1 := hp_wn0 hw ht (j := p + 1) (by omega)
    have w2 := hp_wn0 hw ht (j := p) (by omega)
    have n1 := hnb _ w1
    have n2 := hnb _ w2
    have hi := ih (p + 1) n (by omega) (by omega)
    have e3 : hp_chn y num t (p + 1) = hp_chn y num t p + hp_cut y num t p := rfl
    rw [← hi, F_X9_chainsOf_20_eq, e3, ← Nat.add_assoc]
    unfold hp_cut
    by_cases c : num (y (6 + t) (p + 1)) < num (y (6 + t) p)
    · simp (disch := omega) only [hp_kN, nI_add, pk_mul, hp_isInN, hp_m1L, hp_l0, hp_l1, hp_l2, hp_l3, hp_l4, hp_l5, hp_l7, hp_l8, hp_l10, hp_l17, hp_l20, hp_l24, hp_l48, hp_l50, hp_l55, hp_l127, hp_lm1, hp_eqN, hp_ltN, hp_inN, hp_cl, if_pos, if_neg, if_true, if_false, Option.bind_some, h8, F_X9_wantedAt_eq, h30, pk_sub, Nat.add_sub_cancel, hn]
    · simp (disch := omega) only [hp_kN, nI_add, pk_mul, hp_isInN, hp_m1L, hp_l0, hp_l1, hp_l2, hp_l3, hp_l4, hp_l5, hp_l7, hp_l8, hp_l10, hp_l17, hp_l20, hp_l24, hp_l48, hp_l50, hp_l55, hp_l127, hp_lm1, hp_eqN, hp_ltN, hp_inN, hp_cl, if_pos, if_neg, if_true, if_false, Option.bind_some, h8, F_X9_wantedAt_eq, h30, pk_sub, Nat.add_sub_cancel, hn, Nat.add_zero]
theorem hp_chMn (N : Nat) (hN : 10 ≤ N) {y : Nat → Nat → Nat} (hw : hp_WF y) {num : Nat → Nat} {D : hy_M} (h30 : ∀ t, t < 2 → ∀ j, j < 8 → D 68 (30 + 8 * t + j) = nI (y (6 + t) j)) (hn : ∀ j, j < y 0 0 → D 72 j = nI (num j)) (hnb : ∀ j, j < y 0 0 → num j < 1000) {t : Nat} (ht : t < 2) (h8 : D 68 (28 + t) = nI (y 8 t)) : F_X9_chainsOf N (nI t) D = some (nI (hp_chs y num t), D) := by
  have b8 := (hp_Wb hw).2.2.2.1 t ht
  rw [F_X9_chainsOf_eq]
  unfold hp_chs
  by_cases c : y 8 t = 0
  · obtain ⟨N, rfl⟩ : ∃ n, N = n + 1 := ⟨N - 1, by omega⟩
    simp (disch := omega) only [hp_kN, nI_add, pk_mul, hp_isInN, hp_m1L, hp_l0, hp_l1, hp_l2, hp_l3, hp_l4, hp_l5, hp_l7, hp_l8, hp_l10, hp_l17, hp_l20, hp_l24, hp_l48, hp_l50, hp_l55, hp_l127, hp_lm1, hp_eqN, hp_ltN, hp_inN, hp_cl, if_pos, if_neg, if_true, if_false, Option.bind_some, h8, c, F_X9_chainsOf_20_eq]
  · have := hp_chMn_l N hw h30 hn hnb ht h8 (y 8 t - 1) 0 N (by omega) (by omega)
    have e0 : hp_chn y num t 0 = 0 := rfl
    rw [e0, Nat.add_zero] at this
    simp (disch := omega) only [hp_kN, nI_add, pk_mul, hp_isInN, hp_m1L, hp_l0, hp_l1, hp_l2, hp_l3, hp_l4, hp_l5, hp_l7, hp_l8, hp_l10, hp_l17, hp_l20, hp_l24, hp_l48, hp_l50, hp_l55, hp_l127, hp_lm1, hp_eqN, hp_ltN, hp_inN, hp_cl, if_pos, if_neg, if_true, if_false, Option.bind_some, h8, this]
theorem hp_needMn (N : Nat) (hN : 10 ≤ N) {y : Nat → Nat → Nat} (hw : hp_WF y) {num : Nat → Nat} {D : hy_M} (h30 : ∀ t, t < 2 → ∀ j, j < 8 → D 68 (30 + 8 * t + j) = nI (y (6 + t) j)) (hn : ∀ j, j < y 0 0 → D 72 j = nI (num j)) (hnb : ∀ j, j < y 0 0 → num j < 1000) (h8 : ∀ t, t < 2 → D 68 (28 + t) = nI (y 8 t)) : F_X9_need N D = some (nI (hp_need y num), D) := by
  have b8 := (hp_Wb hw).2.2.2.1
  have c0 := hp_chs_le num (b8 0 (by omega))
  have c1 := hp_chs_le num (b8 1 (by omega))
  have k0 := hp_chMn N hN hw h30 hn hnb (t := 0) (by omega) (h8 0 (by omega))
  have k1 := hp_chMn N hN hw h30 hn hnb (t := 1) (by omega) (h8 1 (by omega))
  rw [F_X9_need_eq]
  unfold hp_need
  by_cases c : hp_chs y num 0 < hp_chs y num 1
  · simp (disch := omega) only [hp_kN, nI_add, pk_mul, hp_isInN, hp_m1L, hp_l0, hp_l1, hp_l2, hp_l3, hp_l4, hp_l5, hp_l7, hp_l8, hp_l10, hp_l17, hp_l20, hp_l24, hp_l48, hp_l50, hp_l55, hp_l127, hp_lm1, hp_eqN, hp_ltN, hp_inN, hp_cl, if_pos, if_neg, if_true, if_false, Option.bind_some, k0, k1]
  · by_cases c2 : hp_chs y num 1 < hp_chs y num 0
    · simp (disch := omega) only [hp_kN, nI_add, pk_mul, hp_isInN, hp_m1L, hp_l0, hp_l1, hp_l2, hp_l3, hp_l4, hp_l5, hp_l7, hp_l8, hp_l10, hp_l17, hp_l20, hp_l24, hp_l48, hp_l50, hp_l55, hp_l127, hp_lm1, hp_eqN, hp_ltN, hp_inN, hp_cl, if_pos, if_neg, if_true, if_false, Option.bind_some, k0, k1]
    · have e : hp_chs y num 1 = hp_chs y num 0 := by omega
      simp (disch := omega) only [hp_kN, nI_add, pk_mul, hp_isInN, hp_m1L, hp_l0, hp_l1, hp_l2, hp_l3, hp_l4, hp_l5, hp_l7, hp_l8, hp_l10, hp_l17, hp_l20, hp_l24, hp_l48, hp_l50, hp_l55, hp_l127, hp_lm1, hp_eqN, hp_ltN, hp_inN, hp_cl, if_pos, if_neg, if_true, if_false, Option.bind_some, k0, k1, e]
/-! draws -/
def hp_nz (z : Int32) : Int32 := z * 1103515245 + 12345
def hp_zj (z : Int32) (i : Nat) : Nat := z.toBitVec.toNat / 512 % (i + 1)
theorem hp_zN (z : Int32) : z = nI z.toBitVec.toNat := by
  apply Int32.toBitVec_inj.mp
  show z.toBitVec = BitVec.ofNat 32 z.toBitVec.toNat
  simp
theorem hp_zJ (z : Int32) {i : Nat} (hi : i < 100) : (z.toUInt32 >>> ((9 : Int32).toUInt32 &&& Int32.toUInt32 31)).toInt32 - (z.toUInt32 >>> ((9 : Int32).toUInt32 &&& Int32.toUInt32 31)).toInt32 / (nI i + 1) * (nI i + 1) = nI (hp_zj z i) := by
  have hb : z.toBitVec.toNat < 2 ^ 32 := z.toBitVec.isLt
  have e1 : (z.toUInt32 >>> ((9 : Int32).toUInt32 &&& Int32.toUInt32 31)).toInt32 = nI (z.toBitVec.toNat / 2 ^ 9) := by
    have := pk_ushrN hb (9 : Int32) 9 (by decide)
    rw [← hp_zN z] at this
    exact this
  have h1 : z.toBitVec.toNat / 2 ^ 9 < 2 ^ 31 := by omega
  rw [e1, hp_inc, pk_div h1 (by omega) (by omega), pk_mul, pk_sub (Nat.div_mul_le_self _ _)]
  unfold hp_zj
  have e2 := Nat.mod_add_div (z.toBitVec.toNat / 2 ^ 9) (i + 1)
  have e3 : z.toBitVec.toNat / 512 = z.toBitVec.toNat / 2 ^ 9 := rfl
  rw [e3]
  congr 1
  rw [Nat.mul_comm (z.toBitVec.toNat / 2 ^ 9 / (i + 1)) (i + 1)]
  omega
theorem hp_zj_lt (z : Int32) (i : Nat) : hp_zj z i ≤ i := by
  have := Nat.mod_lt (z.toBitVec.toNat / 512) (show 0 < i + 1 by omega)
  unfold hp_zj
  omega
def hp_sw (r : Nat → Nat) (a b : Nat) : Nat → Nat := fun k => if k = b then r a else if k = a then r b else r k
def hp_dr : Nat → Int32 → (Nat → Nat) → Nat → Nat
  | 0, _, r => r
  | i + 1, z, r => hp_dr i (hp_nz z) (hp_sw r (i + 1) (hp_zj (hp_nz z) (i + 1)))
def hp_pi (n : Nat) (r : Nat → Nat) : Prop := (∀ j, j < n → r j < n) ∧ (∀ j, n ≤ j → r j = j) ∧ ∀ w, w < n → ∃ i, i < n ∧ r i = w
theorem hp_pi_sw {n : Nat} {r : Nat → Nat} (h : hp_pi n r) {a b : Nat} (ha : a < n) (hb : b < n) : hp_pi n (hp_sw r a b) := by
  refine ⟨fun j hj => ?_, fun j hj => ?_, fun w hw => ?_⟩
  · unfold hp_sw
    split
    · exact h.1 a ha
    · split
      · exact h.1 b hb
      · exact h.1 j hj
  · unfold hp_sw
    rw [if_neg (by omega), if_neg (by omega)]
    exact h.2.1 j hj
  · obtain ⟨i, hi, e⟩ := h.2.2 w hw
    by_cases q : i = a
    · refine ⟨b, hb, ?_⟩
      unfold hp_sw
      rw [if_pos rfl, ← q, e]
    · by_cases q2 : i = b
      · refine ⟨a, ha, ?_⟩
        unfold hp_sw
        by_cases q3 : a = b
        · omega
        · rw [if_neg q3, if_pos rfl, ← q2, e]
      · refine ⟨i, hi, ?_⟩
        unfold hp_sw
        rw [if_neg q2, if_neg q, e]
theorem hp_pi_dr {n : Nat} : ∀ i z r, i < n → hp_pi n r → hp_pi n (hp_dr i z r) := by
  intro i
  induction i with
  | zero => intro z r _ h; exact h
  | succ i ih =>
    intro z r e h
    have := hp_zj_lt (hp_nz z) (i + 1)
    exact ih _ _ (by omega) (hp_pi_sw h (by omega) (by omega))
theorem hp_pi_id (n : Nat) : hp_pi n (fun j => j) := ⟨fun _ h => h, fun _ _ => rfl, fun w hw => ⟨w, hw, rfl⟩⟩
def hp_inv (r : Nat → Nat) : Nat → Nat → Nat
  | 0, _ => 0
  | m + 1, w => if r m = w then m else hp_inv r m w
theorem hp_inv_le (r : Nat → Nat) : ∀ m w, hp_inv r m w ≤ m := by
  intro m
  induction m with
  | zero => intro w; exact Nat.le_refl 0
  | succ m ih =>
    intro w
    have := ih w
    unfold hp_inv
    split <;> omega
theorem hp_inv_n {n : Nat} {r : Nat → Nat} (h : hp_pi n r) {w : Nat} (hw : w < n) : ∀ m, hp_inv r (n + m) w = hp_inv r n w := by
  intro m
  induction m with
  | zero => rfl
  | succ m ih =>
    have e := h.2.1 (n + m) (by omega)
    show (if r (n + m) = w then n + m else hp_inv r (n + m) w) = _
    rw [if_neg (by omega), ih]
theorem hp_swW {D : hy_M} {c i j : Nat} {r : Nat → Nat} (hi : i < 8) (hj : j < 8) (h : ∀ k, k < 8 → D c k = nI (r k)) : ∀ k, k < 8 → hy_w (hy_w D c i (D c j)) c j (D c i) c k = nI (hp_sw r i j k) := fun k hk => by
  unfold hp_sw
  by_cases q : k = j
  · subst q
    rw [hp_ws, if_pos rfl, h i hi]
  · rw [hp_wn (Or.inr q), if_neg q]
    by_cases q2 : k = i
    · subst q2
      rw [hp_ws, if_pos rfl, h j hj]
    · rw [hp_wn (Or.inr q2), if_neg q2, h k hk]
theorem hp_dX21 (N : Nat) {n : Nat} (hn : n ≤ 8) : ∀ i z f D r, i < n → i < f → (∀ j, j < 8 → D 56 j = nI (r j)) → ∃ D1, F_X5_drawRow_21 N f (nI n) z (nI i) D = F_X5_drawRow_88 N N (nI n) 0 D1 ∧ (∀ j, j < 8 → D1 56 j = nI (hp_dr i z r j)) ∧ ∀ c, c ≠ 56 → D1 c = D c := by
  intro i
  induction i with
  | zero =>
    intro z f D r hi hf h
    obtain ⟨f, rfl⟩ : ∃ f', f = f' + 1 := ⟨f - 1, by omega⟩
    refine ⟨D, ?_, h, fun _ _ => rfl⟩
    rw [F_X5_drawRow_21_eq, if_pos (by decide)]
  | succ i ih =>
    intro z f D r hi hf h
    obtain ⟨f, rfl⟩ : ∃ f', f = f' + 1 := ⟨f - 1, by omega⟩
    have hj := hp_zj_lt (hp_nz z) (i + 1)
    obtain ⟨D1, e1, f1, f2⟩ := ih (hp_nz z) f (hy_w (hy_w D 56 (i + 1) (D 56 (hp_zj (hp_nz z) (i + 1)))) 56 (hp_zj (hp_nz z) (i + 1)) (D 56 (i + 1))) (hp_sw r (i + 1) (hp_zj (hp_nz z) (i + 1))) (by omega) (by omega) (hp_swW (by omega) (by omega) h)
    refine ⟨D1, ?_, f1, fun c a => by rw [f2 c a, hy_w_ne a, hy_w_ne a]⟩
    have k1 := hp_zJ (hp_nz z) (i := i + 1) (by omega)
    unfold hp_nz at k1
    rw [F_X5_drawRow_21_eq, if_neg (by rw [show (1 : Int32) = nI 1 from rfl, hp_ltN (by omega) (by omega)]; omega), if_neg (by rw [hp_inc, show (0 : Int32) = nI 0 from rfl, hp_eqN (by omega) (by omega)]; omega), k1, F_X5_drawRow_47_eq, if_pos (hp_in (by omega) (by omega)), if_pos (hp_in (by unfold hp_nz at hj; omega) (by omega)), if_pos (hp_in (by omega) (by omega)), if_pos (hp_in (by unfold hp_nz at hj; omega) (by omega)), hp_cl (by omega), hp_cl (by unfold hp_nz at hj; omega), show nI (i + 1) + (-1) = nI i from hp_dec i]
    exact e1
theorem hp_dX88 (N : Nat) {n : Nat} (hn : n ≤ 8) {r : Nat → Nat} (hr : ∀ j, j < n → r j < n) : ∀ m i f D, i + m = n → m < f → (∀ j, j < 8 → D 56 j = nI (r j)) → (∀ w, (∃ k, k < i ∧ r k = w) → D 57 w = nI (hp_inv r i w)) → ∃ D1, F_X5_drawRow_88 N f (nI n) (nI i) D = some D1 ∧ (∀ w, (∃ k, k < n ∧ r k = w) → D1 57 w = nI (hp_inv r n w)) ∧ ∀ c, c ≠ 57 → D1 c = D c := by
  intro m
  induction m with
  | zero =>
    intro i f D e hf h1 h2
    obtain ⟨f, rfl⟩ : ∃ f', f = f' + 1 := ⟨f - 1, by omega⟩
    have e : i = n := by omega
    subst e
    refine ⟨D, ?_, h2, fun _ _ => rfl⟩
    rw [F_X5_drawRow_88_eq, if_neg]
    rw [hp_ltN (by omega) (by omega)]
    omega
  | succ m ih =>
    intro i f D e hf h1 h2
    obtain ⟨f, rfl⟩ : ∃ f', f = f' + 1 := ⟨f - 1, by omega⟩
    have a := h1 i (by omega)
    have b := hr i (by omega)
    obtain ⟨D1, e1, f1, f2⟩ := ih (i + 1) f (hy_w D 57 (r i) (nI i)) (by omega) (by omega) (fun j hj => by rw [hy_w_ne (by omega)]; exact h1 j hj) (fun w hw => by
      show _ = nI (if r i = w then i else hp_inv r i w)
      by_cases q : r i = w
      · rw [if_pos q, ← q, hp_ws]
      · rw [if_neg q, hp_wn (Or.inr (fun z => q z.symm))]
        refine h2 w ?_
        obtain ⟨k, hk, ek⟩ := hw
        refine ⟨k, ?_, ek⟩
        by_cases z : k = i
        · exact absurd (z ▸ ek) q
        · omega)
    refine ⟨D1, ?_, f1, fun c q => by rw [f2 c q, hy_w_ne q]⟩
    clear ih h1 h2 f1 f2
    rw [F_X5_drawRow_88_eq]
    simp (disch := omega) only [hp_kN, nI_add, pk_mul, hp_isInN, hp_m1L, hp_l0, hp_l1, hp_l2, hp_l3, hp_l4, hp_l5, hp_l7, hp_l8, hp_l10, hp_l17, hp_l20, hp_l24, hp_l48, hp_l50, hp_l55, hp_l127, hp_lm1, hp_eqN, hp_ltN, hp_inN, hp_cl, if_pos, if_neg, if_true, if_false, Option.bind_some, a, e1]
def hp_row (n : Nat) (seed : Int32) : Nat → Nat := hp_dr (n - 1) seed (fun j => j)
theorem hp_drX (N : Nat) (hN : 10 ≤ N) {n : Nat} (hn : n ≤ 8) (seed : Int32) {D : hy_M} (h1000 : ∀ j, j < 8 → D 1000 j = nI j) : ∃ D1, F_X5_drawRow N (nI n) seed D = some D1 ∧ (∀ w, w < n → D1 57 w = nI (hp_inv (hp_row n seed) n w)) ∧ ∀ c, c ≠ 56 → c ≠ 57 → D1 c = D c := by
  by_cases q : n = 0
  · subst q
    refine ⟨hy_cp D 1000 56 0 0 8, ?_, fun w hw => absurd hw (by omega), fun c a _ => hp_cpn a⟩
    obtain ⟨N, rfl⟩ : ∃ n, N = n + 1 := ⟨N - 1, by omega⟩
    rw [F_X5_drawRow_eq, F_X5_drawRow_21_eq, if_pos (by decide), F_X5_drawRow_88_eq, if_neg (by decide)]
  · obtain ⟨D1, e1, f1, f2⟩ := hp_dX21 N hn (n - 1) seed N (hy_cp D 1000 56 0 0 8) (fun j => j) (by omega) (by omega) (fun j hj => by rw [hp_cp0, if_pos hj]; exact h1000 j hj)
    have hp := hp_pi_dr (n := n) (n - 1) seed _ (by omega) (hp_pi_id n)
    obtain ⟨D2, e2, g1, g2⟩ := hp_dX88 N hn (r := hp_dr (n - 1) seed (fun j => j)) hp.1 n 0 N D1 (by omega) (by omega) f1 (fun w hw => by obtain ⟨k, hk, _⟩ := hw; omega)
    refine ⟨D2, ?_, fun w hw => g1 w (hp.2.2 w hw), fun c a b => by rw [g2 c b, f2 c a, hp_cpn a]⟩
    rw [F_X5_drawRow_eq, show nI n - (1 : Int32) = nI (n - 1) from pk_sub (a := n) (b := 1) (by omega)]
    exact e1.trans e2
theorem hp_dM4 (N : Nat) (z : Int32) : ∀ m i f D, i + m = 8 → m < f → (∀ j, j < i → D 78 j = nI j) → ∃ D1, F_X9_draws_4 N f z (nI i) D = F_X9_draws_32 N N z ((D1 68 0) - (1 : Int32)) D1 ∧ (∀ j, j < 8 → D1 78 j = nI j) ∧ ∀ c, c ≠ 78 → D1 c = D c := by
  intro m
  induction m with
  | zero =>
    intro i f D e hf h
    obtain ⟨f, rfl⟩ : ∃ f', f = f' + 1 := ⟨f - 1, by omega⟩
    have e : i = 8 := by omega
    subst e
    refine ⟨D, ?_, h, fun _ _ => rfl⟩
    rw [F_X9_draws_4_eq, if_neg (by decide)]
  | succ m ih =>
    intro i f D e hf h
    obtain ⟨f, rfl⟩ : ∃ f', f = f' + 1 := ⟨f - 1, by omega⟩
    obtain ⟨D1, e1, f1, f2⟩ := ih (i + 1) f (hy_w D 78 i (nI i)) (by omega) (by omega) (fun j hj => by
      by_cases q : j = i
      · subst q
        rw [hp_ws]
      · rw [hp_wn (Or.inr q)]
        exact h j (by omega))
    refine ⟨D1, ?_, f1, fun c q => by rw [f2 c q, hy_w_ne q]⟩
    rw [← e1, F_X9_draws_4_eq, if_pos (by rw [show (8 : Int32) = nI 8 from rfl, hp_ltN (by omega) (by omega)]; omega), if_pos (hp_in (by omega) (by omega)), hp_cl (by omega), hp_inc]
theorem hp_dM32 (N : Nat) : ∀ i z f D r, i < 8 → i < f → (∀ j, j < 8 → D 78 j = nI (r j)) → ∃ D1, F_X9_draws_32 N f z (nI i) D = F_X9_draws_94 N N 0 D1 ∧ (∀ j, j < 8 → D1 78 j = nI (hp_dr i z r j)) ∧ ∀ c, c ≠ 78 → D1 c = D c := by
  intro i
  induction i with
  | zero =>
    intro z f D r hi hf h
    obtain ⟨f, rfl⟩ : ∃ f', f = f' + 1 := ⟨f - 1, by omega⟩
    refine ⟨D, ?_, h, fun _ _ => rfl⟩
    rw [F_X9_draws_32_eq, if_neg (by decide)]
  | succ i ih =>
    intro z f D r hi hf h
    obtain ⟨f, rfl⟩ : ∃ f', f = f' + 1 := ⟨f - 1, by omega⟩
    have hj := hp_zj_lt (hp_nz z) (i + 1)
    obtain ⟨D1, e1, f1, f2⟩ := ih (hp_nz z) f (hy_w (hy_w D 78 (i + 1) (D 78 (hp_zj (hp_nz z) (i + 1)))) 78 (hp_zj (hp_nz z) (i + 1)) (D 78 (i + 1))) (hp_sw r (i + 1) (hp_zj (hp_nz z) (i + 1))) (by omega) (by omega) (hp_swW (by omega) (by omega) h)
    refine ⟨D1, ?_, f1, fun c a => by rw [f2 c a, hy_w_ne a, hy_w_ne a]⟩
    have k1 := hp_zJ (hp_nz z) (i := i + 1) (by omega)
    unfold hp_nz at k1
    rw [F_X9_draws_32_eq, if_pos (by rw [show (0 : Int32) = nI 0 from rfl, hp_ltN (by omega) (by omega)]; omega), if_neg (by rw [hp_inc, show (0 : Int32) = nI 0 from rfl, hp_eqN (by omega) (by omega)]; omega), k1, F_X9_draws_56_eq, if_pos (hp_in (by omega) (by omega)), if_pos (hp_in (by unfold hp_nz at hj; omega) (by omega)), if_pos (hp_in (by omega) (by omega)), if_pos (hp_in (by unfold hp_nz at hj; omega) (by omega)), hp_cl (by omega), hp_cl (by unfold hp_nz at hj; omega), show nI (i + 1) + (-1) = nI i from hp_dec i]
    exact e1
theorem hp_dM94 (N : Nat) {r : Nat → Nat} (hr : ∀ j, j < 8 → r j < 8) : ∀ m i f D, i + m = 8 → m < f → (∀ j, j < 8 → D 78 j = nI (r j)) → (∀ w, (∃ k, k < i ∧ r k = w) → D 72 w = nI (hp_inv r i w)) → ∃ D1, F_X9_draws_94 N f (nI i) D = some D1 ∧ (∀ w, (∃ k, k < 8 ∧ r k = w) → D1 72 w = nI (hp_inv r 8 w)) ∧ ∀ c, c ≠ 72 → D1 c = D c := by
  intro m
  induction m with
  | zero =>
    intro i f D e hf h1 h2
    obtain ⟨f, rfl⟩ : ∃ f', f = f' + 1 := ⟨f - 1, by omega⟩
    have e : i = 8 := by omega
    subst e
    refine ⟨D, ?_, h2, fun _ _ => rfl⟩
    rw [F_X9_draws_94_eq, if_neg (by decide)]
  | succ m ih =>
    intro i f D e hf h1 h2
    obtain ⟨f, rfl⟩ : ∃ f', f = f' + 1 := ⟨f - 1, by omega⟩
    have a := h1 i (by omega)
    have b := hr i (by omega)
    obtain ⟨D1, e1, f1, f2⟩ := ih (i + 1) f (hy_w D 72 (r i) (nI i)) (by omega) (by omega) (fun j hj => by rw [hy_w_ne (by omega)]; exact h1 j hj) (fun w hw => by
      show _ = nI (if r i = w then i else hp_inv r i w)
      by_cases q : r i = w
      · rw [if_pos q, ← q, hp_ws]
      · rw [if_neg q, hp_wn (Or.inr (fun z => q z.symm))]
        refine h2 w ?_
        obtain ⟨k, hk, ek⟩ := hw
        refine ⟨k, ?_, ek⟩
        by_cases z : k = i
        · exact absurd (z ▸ ek) q
        · omega)
    refine ⟨D1, ?_, f1, fun c q => by rw [f2 c q, hy_w_ne q]⟩
    clear ih h1 h2 f1 f2
    rw [F_X9_draws_94_eq]
    simp (disch := omega) only [hp_kN, nI_add, pk_mul, hp_isInN, hp_m1L, hp_l0, hp_l1, hp_l2, hp_l3, hp_l4, hp_l5, hp_l7, hp_l8, hp_l10, hp_l17, hp_l20, hp_l24, hp_l48, hp_l50, hp_l55, hp_l127, hp_lm1, hp_eqN, hp_ltN, hp_inN, hp_cl, if_pos, if_neg, if_true, if_false, Option.bind_some, a, e1]
theorem hp_drM (N : Nat) (hN : 10 ≤ N) {n : Nat} (hn : n ≤ 8) (seed : Int32) {D : hy_M} (h0 : D 68 0 = nI n) : ∃ D1, F_X9_draws N seed D = some D1 ∧ (∀ w, w < n → D1 72 w = nI (hp_inv (hp_row n seed) n w)) ∧ ∀ c, c ≠ 72 → c ≠ 78 → D1 c = D c := by
  obtain ⟨D1, e1, f1, f2⟩ := hp_dM4 N seed 8 0 N D rfl (by omega) (fun j hj => absurd hj (by omega))
  have h0' : D1 68 0 = nI n := by rw [f2 68 (by omega)]; exact h0
  by_cases q : n = 0
  · subst q
    obtain ⟨D2, e2, g1, g2⟩ := hp_dM94 N (r := fun j => j) (fun j hj => hj) 8 0 N D1 rfl (by omega) f1 (fun w hw => by obtain ⟨k, hk, _⟩ := hw; omega)
    refine ⟨D2, ?_, fun w hw => absurd hw (by omega), fun c a b => by rw [g2 c a, f2 c b]⟩
    have e3 : F_X9_draws_32 N N seed (nI 0 - (1 : Int32)) D1 = F_X9_draws_94 N N 0 D1 := by
      obtain ⟨N, rfl⟩ : ∃ n, N = n + 1 := ⟨N - 1, by omega⟩
      rw [F_X9_draws_32_eq, if_neg (by decide)]
    rw [F_X9_draws_eq]
    rw [h0'] at e1
    exact e1.trans (e3.trans e2)
  · obtain ⟨D2, e2, g1, g2⟩ := hp_dM32 N (n - 1) seed N D1 (fun j => j) (by omega) (by omega) f1
    have hp := hp_pi_dr (n := n) (n - 1) seed _ (by omega) (hp_pi_id n)
    obtain ⟨D3, e3, k1, k2⟩ := hp_dM94 N (r := hp_dr (n - 1) seed (fun j => j)) (fun j hj => by
      by_cases z : j < n
      · have := hp.1 j z
        omega
      · rw [hp.2.1 j (by omega)]
        exact hj) 8 0 N D2 rfl (by omega) g1 (fun w hw => by obtain ⟨k, hk, _⟩ := hw; omega)
    refine ⟨D3, ?_, fun w hw => ?_, fun c a b => by rw [k2 c a, g2 c b, f2 c b]⟩
    · rw [h0', show nI n - (1 : Int32) = nI (n - 1) from pk_sub (a := n) (b := 1) (by omega)] at e1
      rw [F_X9_draws_eq]
      exact e1.trans (e2.trans e3)
    · obtain ⟨i, hi, ei⟩ := hp.2.2 w hw
      have e8 := hp_inv_n hp hw (8 - n)
      rw [show n + (8 - n) = 8 by omega] at e8
      rw [k1 w ⟨i, by omega, ei⟩, e8]
      rfl
