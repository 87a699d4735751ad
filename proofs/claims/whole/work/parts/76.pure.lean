/-! ===== judging codes ===== -/
abbrev hp_jok (bn told : Nat) (c : Nat → Int32) (i : Nat) : Prop := i < told ∧ 0 ≤ (c i).toInt ∧ (c i).toInt < 8 ∧ hp_may bn (c i).toNatClampNeg = 1
def hp_j1 (bn told : Nat) (c : Nat → Int32) : Nat → Nat → Option Nat
  | 0, _ => none
  | m + 1, i => if hp_jok bn told c i then hp_j1 bn told c m (i + 1) else some i
theorem hp_j1_n {bn told : Nat} {c : Nat → Int32} : ∀ m i, hp_j1 bn told c m i = none → ∀ j, i ≤ j → j < i + m → hp_jok bn told c j := by
  intro m
  induction m with
  | zero => intro i _ j h1 h2; exact absurd h2 (by omega)
  | succ m ih =>
    intro i h j h1 h2
    unfold hp_j1 at h
    by_cases q : hp_jok bn told c i
    · rw [if_pos q] at h
      by_cases e : j = i
      · subst e
        exact q
      · exact ih (i + 1) h j (by omega) (by omega)
    · rw [if_neg q] at h
      cases h
theorem hp_j1_lt {bn told : Nat} {c : Nat → Int32} : ∀ m i w, hp_j1 bn told c m i = some w → w < i + m := by
  intro m
  induction m with
  | zero => intro i w h; cases h
  | succ m ih =>
    intro i w h
    unfold hp_j1 at h
    by_cases q : hp_jok bn told c i
    · rw [if_pos q] at h
      have := ih (i + 1) w h
      omega
    · rw [if_neg q] at h
      injection h with h
      omega
def hp_jn (c : Nat → Int32) (j : Nat) : Nat := (c j).toNatClampNeg
theorem hp_jI {x : Int32} (h : 0 ≤ x.toInt) : nI x.toNatClampNeg = x := by
  obtain ⟨k, hk, rfl, e⟩ := hp_ofI h
  rw [hp_cl hk]
theorem hp_jlt {x : Int32} (h : 0 ≤ x.toInt) (h8 : x.toInt < 8) : x.toNatClampNeg < 8 := by
  obtain ⟨k, hk, rfl, e⟩ := hp_ofI h
  rw [hp_cl hk]
  omega
/-- what is amiss -/
def hp_jA (y : Nat → Nat → Nat) (told : Nat) (c : Nat → Int32) : Int32 := match hp_j1 (y 0 1) told c (y 0 0) 0 with
  | some w => nI w
  | none => match hp_nr y (hp_jn c) with
    | some w => nI (100 + w)
    | none => match hp_tl y (hp_jn c) with
      | some t => nI (200 + t)
      | none => -nI 5
theorem hp_jlX (N : Nat) (hN : 10 ≤ N) {y : Nat → Nat → Nat} (hw : hp_WF y) {b : Nat → Nat} {D : hy_M} (h0 : D 1 0 = nI (y 0 0)) (h1 : ∀ j, j < 8 → D 2 j = nI (y 1 j)) (h10 : ∀ t, t < 3 → D 10 t = nI (y 9 t)) (hb : ∀ j, j < y 0 0 → D 3 j = nI (b j)) (hb8 : ∀ j, j < y 0 0 → b j < 8) : F_X7_judgeCodes_69 N N (nI 0) D = some (match hp_tl y b with | some t => nI (200 + t) | none => -nI 5, D) := by
  obtain ⟨b0, b1, b2, b8, b17, b9⟩ := hp_Wb hw
  obtain ⟨N, rfl⟩ : ∃ n, N = n + 10 := ⟨N - 10, by omega⟩
  have l0 := hp_loX (N + 10) (by omega) b0 h0 h1 hb hb8 (t := 0) (by omega)
  have l1 := hp_loX (N + 10) (by omega) b0 h0 h1 hb hb8 (t := 1) (by omega)
  have l2 := hp_loX (N + 10) (by omega) b0 h0 h1 hb hb8 (t := 2) (by omega)
  have q0 := hp_load_le hw b 0
  have q1 := hp_load_le hw b 1
  have q2 := hp_load_le hw b 2
  have r0 := b9 0 (by omega)
  have r1 := b9 1 (by omega)
  have r2 := b9 2 (by omega)
  rw [F_X7_judgeCodes_69_eq]
  unfold hp_tl
  by_cases c0 : y 9 0 < hp_load y b 0
  · simp (disch := omega) only [hp_kN, nI_add, pk_mul, hp_isInN, hp_m1L, hp_l0, hp_l1, hp_l2, hp_l3, hp_l4, hp_l5, hp_l7, hp_l8, hp_l10, hp_l17, hp_l20, hp_l24, hp_l48, hp_l50, hp_l55, hp_l127, hp_lm1, hp_eqN, hp_ltN, hp_inN, hp_cl, if_pos, if_neg, if_true, if_false, Option.bind_some, l0, h10, Nat.reduceAdd]
  · simp (disch := omega) only [hp_kN, nI_add, pk_mul, hp_isInN, hp_m1L, hp_l0, hp_l1, hp_l2, hp_l3, hp_l4, hp_l5, hp_l7, hp_l8, hp_l10, hp_l17, hp_l20, hp_l24, hp_l48, hp_l50, hp_l55, hp_l127, hp_lm1, hp_eqN, hp_ltN, hp_inN, hp_cl, if_pos, if_neg, if_true, if_false, Option.bind_some, l0, h10, Nat.reduceAdd]
    rw [F_X7_judgeCodes_69_eq]
    by_cases c1 : y 9 1 < hp_load y b 1
    · simp (disch := omega) only [hp_kN, nI_add, pk_mul, hp_isInN, hp_m1L, hp_l0, hp_l1, hp_l2, hp_l3, hp_l4, hp_l5, hp_l7, hp_l8, hp_l10, hp_l17, hp_l20, hp_l24, hp_l48, hp_l50, hp_l55, hp_l127, hp_lm1, hp_eqN, hp_ltN, hp_inN, hp_cl, if_pos, if_neg, if_true, if_false, Option.bind_some, l1, h10, Nat.reduceAdd]
    · simp (disch := omega) only [hp_kN, nI_add, pk_mul, hp_isInN, hp_m1L, hp_l0, hp_l1, hp_l2, hp_l3, hp_l4, hp_l5, hp_l7, hp_l8, hp_l10, hp_l17, hp_l20, hp_l24, hp_l48, hp_l50, hp_l55, hp_l127, hp_lm1, hp_eqN, hp_ltN, hp_inN, hp_cl, if_pos, if_neg, if_true, if_false, Option.bind_some, l1, h10, Nat.reduceAdd]
      rw [F_X7_judgeCodes_69_eq]
      by_cases c2 : y 9 2 < hp_load y b 2
      · simp (disch := omega) only [hp_kN, nI_add, pk_mul, hp_isInN, hp_m1L, hp_l0, hp_l1, hp_l2, hp_l3, hp_l4, hp_l5, hp_l7, hp_l8, hp_l10, hp_l17, hp_l20, hp_l24, hp_l48, hp_l50, hp_l55, hp_l127, hp_lm1, hp_eqN, hp_ltN, hp_inN, hp_cl, if_pos, if_neg, if_true, if_false, Option.bind_some, l2, h10, Nat.reduceAdd]
      · simp (disch := omega) only [hp_kN, nI_add, pk_mul, hp_isInN, hp_m1L, hp_l0, hp_l1, hp_l2, hp_l3, hp_l4, hp_l5, hp_l7, hp_l8, hp_l10, hp_l17, hp_l20, hp_l24, hp_l48, hp_l50, hp_l55, hp_l127, hp_lm1, hp_eqN, hp_ltN, hp_inN, hp_cl, if_pos, if_neg, if_true, if_false, Option.bind_some, l2, h10, Nat.reduceAdd]
        rw [F_X7_judgeCodes_69_eq]
        simp (disch := omega) only [hp_kN, nI_add, pk_mul, hp_isInN, hp_m1L, hp_l0, hp_l1, hp_l2, hp_l3, hp_l4, hp_l5, hp_l7, hp_l8, hp_l10, hp_l17, hp_l20, hp_l24, hp_l48, hp_l50, hp_l55, hp_l127, hp_lm1, hp_eqN, hp_ltN, hp_inN, hp_cl, if_pos, if_neg, if_true, if_false, Option.bind_some, Nat.reduceAdd]
theorem hp_jX (N : Nat) (hN : 10 ≤ N) {y : Nat → Nat → Nat} (hw : hp_WF y) {c : Nat → Int32} {told : Nat} {D : hy_M} (x00 : D 1 0 = nI (y 0 0)) (x01 : D 1 1 = nI (y 0 1)) (x1 : ∀ j, j < 8 → D 2 j = nI (y 1 j)) (x6 : ∀ t, t < 2 → ∀ j, j < 8 → D (7 + t) j = nI (y (6 + t) j)) (x8 : ∀ t, t < 2 → D 9 t = nI (y 8 t)) (x9 : ∀ t, t < 3 → D 10 t = nI (y 9 t)) (ht : told ≤ y 0 0) (hc : ∀ j, j < told → D 3 j = c j) : F_X7_judgeCodes N (nI told) D = some (hp_jA y told c, D) := by
  have b0 := hw.1
  have l : ∀ m i n, i + m = y 0 0 → m < n → (∀ j, j < i → hp_jok (y 0 1) told c j) → F_X7_judgeCodes_2 N n (nI told) (nI i) D = some (match hp_j1 (y 0 1) told c m i with | some w => nI w | none => match hp_nr y (hp_jn c) with | some w => nI (100 + w) | none => match hp_tl y (hp_jn c) with | some t => nI (200 + t) | none => -nI 5, D) := by
    intro m
    induction m with
    | zero =>
      intro i n e hm hj
      obtain ⟨n, rfl⟩ : ∃ n', n = n' + 1 := ⟨n - 1, by omega⟩
      have e : i = y 0 0 := by omega
      subst e
      have hb : ∀ j, j < y 0 0 → D 3 j = nI (hp_jn c j) := fun j hj2 => by
        have q := hj j hj2
        rw [hc j q.1]
        exact (hp_jI q.2.1).symm
      have hb8 : ∀ j, j < y 0 0 → hp_jn c j < 8 := fun j hj2 => hp_jlt (hj j hj2).2.1 (hj j hj2).2.2.1
      have k1 := hp_nrX N hN hw x6 x8 hb hb8
      have k2 := hp_jlX N hN hw x00 x1 x9 hb hb8
      rw [F_X7_judgeCodes_2_eq, x00]
      unfold hp_j1
      clear hj hc
      cases e : hp_nr y (hp_jn c) with
      | some w =>
        have := hp_nr_lt hw _ e
        rw [e] at k1
        have k1' : F_X7_firstNotRight N D = some (nI w, D) := k1
        simp (disch := omega) only [hp_kN, nI_add, pk_mul, hp_isInN, hp_m1L, hp_l0, hp_l1, hp_l2, hp_l3, hp_l4, hp_l5, hp_l7, hp_l8, hp_l10, hp_l17, hp_l20, hp_l24, hp_l48, hp_l50, hp_l55, hp_l127, hp_lm1, hp_eqN, hp_ltN, hp_inN, hp_cl, if_pos, if_neg, if_true, if_false, Option.bind_some, k1', hp_n5]
      | none =>
        rw [e] at k1
        have k1' : F_X7_firstNotRight N D = some (-nI 1, D) := k1
        simp (disch := omega) only [hp_kN, nI_add, pk_mul, hp_isInN, hp_m1L, hp_l0, hp_l1, hp_l2, hp_l3, hp_l4, hp_l5, hp_l7, hp_l8, hp_l10, hp_l17, hp_l20, hp_l24, hp_l48, hp_l50, hp_l55, hp_l127, hp_lm1, hp_eqN, hp_ltN, hp_inN, hp_cl, if_pos, if_neg, if_true, if_false, Option.bind_some, k1', k2]
    | succ m ih =>
      intro i n e hm hj
      obtain ⟨n, rfl⟩ : ∃ n', n = n' + 1 := ⟨n - 1, by omega⟩
      rw [F_X7_judgeCodes_2_eq, x00, x01]
      unfold hp_j1
      by_cases q : hp_jok (y 0 1) told c i
      · rw [if_pos q, ← ih (i + 1) n (by omega) (by omega) (fun j hj2 => by
          by_cases e : j = i
          · subst e
            exact q
          · exact hj j (by omega))]
        have hci := hc i q.1
        have e1 : D 3 i = nI (hp_jn c i) := hci.trans (hp_jI q.2.1).symm
        have e2 : hp_jn c i < 8 := hp_jlt q.2.1 q.2.2.1
        have e3 : hp_may (y 0 1) (hp_jn c i) = 1 := q.2.2.2
        have q1 := q.1
        clear ih hj hc q hci
        simp (disch := omega) only [hp_kN, nI_add, pk_mul, hp_isInN, hp_m1L, hp_l0, hp_l1, hp_l2, hp_l3, hp_l4, hp_l5, hp_l7, hp_l8, hp_l10, hp_l17, hp_l20, hp_l24, hp_l48, hp_l50, hp_l55, hp_l127, hp_lm1, hp_eqN, hp_ltN, hp_inN, hp_cl, if_pos, if_neg, if_true, if_false, Option.bind_some, e1, hp_mayX N hw.2.1, e3]
      · rw [if_neg q]
        by_cases q1 : i < told
        · have hci := hc i q1
          clear ih hj hc
          rcases hp_arg (c i) with ⟨a0, a1, a2⟩ | ⟨u, hu, eu⟩
          · simp (disch := omega) only [hp_kN, nI_add, pk_mul, hp_isInN, hp_m1L, hp_l0, hp_l1, hp_l2, hp_l3, hp_l4, hp_l5, hp_l7, hp_l8, hp_l10, hp_l17, hp_l20, hp_l24, hp_l48, hp_l50, hp_l55, hp_l127, hp_lm1, hp_eqN, hp_ltN, hp_inN, hp_cl, if_pos, if_neg, if_true, if_false, Option.bind_some, hci, a1]
          · rw [eu] at hci
            have tu := hp_ti hu
            by_cases u8 : u < 8
            · have e3 : hp_may (y 0 1) u = 0 := by
                rcases hp_may01 (y 0 1) u with z | z
                · exact z
                · exfalso
                  apply q
                  refine ⟨q1, ?_, ?_, ?_⟩
                  · rw [eu, tu]; omega
                  · rw [eu, tu]; omega
                  · rw [eu, hp_cl hu]; exact z
              clear q
              simp (disch := omega) only [hp_kN, nI_add, pk_mul, hp_isInN, hp_m1L, hp_l0, hp_l1, hp_l2, hp_l3, hp_l4, hp_l5, hp_l7, hp_l8, hp_l10, hp_l17, hp_l20, hp_l24, hp_l48, hp_l50, hp_l55, hp_l127, hp_lm1, hp_eqN, hp_ltN, hp_inN, hp_cl, if_pos, if_neg, if_true, if_false, Option.bind_some, hci, hp_mayX N hw.2.1, e3]
            · clear q
              simp (disch := omega) only [hp_kN, nI_add, pk_mul, hp_isInN, hp_m1L, hp_l0, hp_l1, hp_l2, hp_l3, hp_l4, hp_l5, hp_l7, hp_l8, hp_l10, hp_l17, hp_l20, hp_l24, hp_l48, hp_l50, hp_l55, hp_l127, hp_lm1, hp_eqN, hp_ltN, hp_inN, hp_cl, if_pos, if_neg, if_true, if_false, Option.bind_some, hci]
        · clear ih hj hc q
          simp (disch := omega) only [hp_kN, nI_add, pk_mul, hp_isInN, hp_m1L, hp_l0, hp_l1, hp_l2, hp_l3, hp_l4, hp_l5, hp_l7, hp_l8, hp_l10, hp_l17, hp_l20, hp_l24, hp_l48, hp_l50, hp_l55, hp_l127, hp_lm1, hp_eqN, hp_ltN, hp_inN, hp_cl, if_pos, if_neg, if_true, if_false, Option.bind_some]
  rw [F_X7_judgeCodes_eq]
  exact l (y 0 0) 0 N (by omega) (by omega) (fun j hj => absurd hj (by omega))
theorem hp_jlX_1_66 (N : Nat) (hN : 10 ≤ N) {y : Nat → Nat → Nat} (hw : hp_WF y) {b : Nat → Nat} {D : hy_M} (h0 : D 1 0 = nI (y 0 0)) (h1 : ∀ j, j < 8 → D 2 j = nI (y 1 j)) (h10 : ∀ t, t < 3 → D 10 t = nI (y 9 t)) (hb : ∀ j, j < y 0 0 → D 66 j = nI (b j)) (hb8 : ∀ j, j < y 0 0 → b j < 8) : F_X7_judgeCodes_1_66_69 N N (nI 0) D = some (match hp_tl y b with | some t => nI (200 + t) | none => -nI 5, D) := by
  obtain ⟨b0, b1, b2, b8, b17, b9⟩ := hp_Wb hw
  obtain ⟨N, rfl⟩ : ∃ n, N = n + 10 := ⟨N - 10, by omega⟩
  have l0 := hp_loX_1_66 (N + 10) (by omega) b0 h0 h1 hb hb8 (t := 0) (by omega)
  have l1 := hp_loX_1_66 (N + 10) (by omega) b0 h0 h1 hb hb8 (t := 1) (by omega)
  have l2 := hp_loX_1_66 (N + 10) (by omega) b0 h0 h1 hb hb8 (t := 2) (by omega)
  have q0 := hp_load_le hw b 0
  have q1 := hp_load_le hw b 1
  have q2 := hp_load_le hw b 2
  have r0 := b9 0 (by omega)
  have r1 := b9 1 (by omega)
  have r2 := b9 2 (by omega)
  rw [F_X7_judgeCodes_1_66_69_eq]
  unfold hp_tl
  by_cases c0 : y 9 0 < hp_load y b 0
  · simp (disch := omega) only [hp_kN, nI_add, pk_mul, hp_isInN, hp_m1L, hp_l0, hp_l1, hp_l2, hp_l3, hp_l4, hp_l5, hp_l7, hp_l8, hp_l10, hp_l17, hp_l20, hp_l24, hp_l48, hp_l50, hp_l55, hp_l127, hp_lm1, hp_eqN, hp_ltN, hp_inN, hp_cl, if_pos, if_neg, if_true, if_false, Option.bind_some, l0, h10, Nat.reduceAdd]
  · simp (disch := omega) only [hp_kN, nI_add, pk_mul, hp_isInN, hp_m1L, hp_l0, hp_l1, hp_l2, hp_l3, hp_l4, hp_l5, hp_l7, hp_l8, hp_l10, hp_l17, hp_l20, hp_l24, hp_l48, hp_l50, hp_l55, hp_l127, hp_lm1, hp_eqN, hp_ltN, hp_inN, hp_cl, if_pos, if_neg, if_true, if_false, Option.bind_some, l0, h10, Nat.reduceAdd]
    rw [F_X7_judgeCodes_1_66_69_eq]
    by_cases c1 : y 9 1 < hp_load y b 1
    · simp (disch := omega) only [hp_kN, nI_add, pk_mul, hp_isInN, hp_m1L, hp_l0, hp_l1, hp_l2, hp_l3, hp_l4, hp_l5, hp_l7, hp_l8, hp_l10, hp_l17, hp_l20, hp_l24, hp_l48, hp_l50, hp_l55, hp_l127, hp_lm1, hp_eqN, hp_ltN, hp_inN, hp_cl, if_pos, if_neg, if_true, if_false, Option.bind_some, l1, h10, Nat.reduceAdd]
    · simp (disch := omega) only [hp_kN, nI_add, pk_mul, hp_isInN, hp_m1L, hp_l0, hp_l1, hp_l2, hp_l3, hp_l4, hp_l5, hp_l7, hp_l8, hp_l10, hp_l17, hp_l20, hp_l24, hp_l48, hp_l50, hp_l55, hp_l127, hp_lm1, hp_eqN, hp_ltN, hp_inN, hp_cl, if_pos, if_neg, if_true, if_false, Option.bind_some, l1, h10, Nat.reduceAdd]
      rw [F_X7_judgeCodes_1_66_69_eq]
      by_cases c2 : y 9 2 < hp_load y b 2
      · simp (disch := omega) only [hp_kN, nI_add, pk_mul, hp_isInN, hp_m1L, hp_l0, hp_l1, hp_l2, hp_l3, hp_l4, hp_l5, hp_l7, hp_l8, hp_l10, hp_l17, hp_l20, hp_l24, hp_l48, hp_l50, hp_l55, hp_l127, hp_lm1, hp_eqN, hp_ltN, hp_inN, hp_cl, if_pos, if_neg, if_true, if_false, Option.bind_some, l2, h10, Nat.reduceAdd]
      · simp (disch := omega) only [hp_kN, nI_add, pk_mul, hp_isInN, hp_m1L, hp_l0, hp_l1, hp_l2, hp_l3, hp_l4, hp_l5, hp_l7, hp_l8, hp_l10, hp_l17, hp_l20, hp_l24, hp_l48, hp_l50, hp_l55, hp_l127, hp_lm1, hp_eqN, hp_ltN, hp_inN, hp_cl, if_pos, if_neg, if_true, if_false, Option.bind_some, l2, h10, Nat.reduceAdd]
        rw [F_X7_judgeCodes_1_66_69_eq]
        simp (disch := omega) only [hp_kN, nI_add, pk_mul, hp_isInN, hp_m1L, hp_l0, hp_l1, hp_l2, hp_l3, hp_l4, hp_l5, hp_l7, hp_l8, hp_l10, hp_l17, hp_l20, hp_l24, hp_l48, hp_l50, hp_l55, hp_l127, hp_lm1, hp_eqN, hp_ltN, hp_inN, hp_cl, if_pos, if_neg, if_true, if_false, Option.bind_some, Nat.reduceAdd]
theorem hp_jX_1_66 (N : Nat) (hN : 10 ≤ N) {y : Nat → Nat → Nat} (hw : hp_WF y) {c : Nat → Int32} {told : Nat} {D : hy_M} (x00 : D 1 0 = nI (y 0 0)) (x01 : D 1 1 = nI (y 0 1)) (x1 : ∀ j, j < 8 → D 2 j = nI (y 1 j)) (x6 : ∀ t, t < 2 → ∀ j, j < 8 → D (7 + t) j = nI (y (6 + t) j)) (x8 : ∀ t, t < 2 → D 9 t = nI (y 8 t)) (x9 : ∀ t, t < 3 → D 10 t = nI (y 9 t)) (ht : told ≤ y 0 0) (hc : ∀ j, j < told → D 66 j = c j) : F_X7_judgeCodes_1_66 N (nI told) D = some (hp_jA y told c, D) := by
  have b0 := hw.1
  have l : ∀ m i n, i + m = y 0 0 → m < n → (∀ j, j < i → hp_jok (y 0 1) told c j) → F_X7_judgeCodes_1_66_2 N n (nI told) (nI i) D = some (match hp_j1 (y 0 1) told c m i with | some w => nI w | none => match hp_nr y (hp_jn c) with | some w => nI (100 + w) | none => match hp_tl y (hp_jn c) with | some t => nI (200 + t) | none => -nI 5, D) := by
    intro m
    induction m with
    | zero =>
      intro i n e hm hj
      obtain ⟨n, rfl⟩ : ∃ n', n = n' + 1 := ⟨n - 1, by omega⟩
      have e : i = y 0 0 := by omega
      subst e
      have hb : ∀ j, j < y 0 0 → D 66 j = nI (hp_jn c j) := fun j hj2 => by
        have q := hj j hj2
        rw [hc j q.1]
        exact (hp_jI q.2.1).symm
      have hb8 : ∀ j, j < y 0 0 → hp_jn c j < 8 := fun j hj2 => hp_jlt (hj j hj2).2.1 (hj j hj2).2.2.1
      have k1 := hp_nrX_1_66 N hN hw x6 x8 hb hb8
      have k2 := hp_jlX_1_66 N hN hw x00 x1 x9 hb hb8
      rw [F_X7_judgeCodes_1_66_2_eq, x00]
      unfold hp_j1
      clear hj hc
      cases e : hp_nr y (hp_jn c) with
      | some w =>
        have := hp_nr_lt hw _ e
        rw [e] at k1
        have k1' : F_X7_firstNotRight_1_66 N D = some (nI w, D) := k1
        simp (disch := omega) only [hp_kN, nI_add, pk_mul, hp_isInN, hp_m1L, hp_l0, hp_l1, hp_l2, hp_l3, hp_l4, hp_l5, hp_l7, hp_l8, hp_l10, hp_l17, hp_l20, hp_l24, hp_l48, hp_l50, hp_l55, hp_l127, hp_lm1, hp_eqN, hp_ltN, hp_inN, hp_cl, if_pos, if_neg, if_true, if_false, Option.bind_some, k1', hp_n5]
      | none =>
        rw [e] at k1
        have k1' : F_X7_firstNotRight_1_66 N D = some (-nI 1, D) := k1
        simp (disch := omega) only [hp_kN, nI_add, pk_mul, hp_isInN, hp_m1L, hp_l0, hp_l1, hp_l2, hp_l3, hp_l4, hp_l5, hp_l7, hp_l8, hp_l10, hp_l17, hp_l20, hp_l24, hp_l48, hp_l50, hp_l55, hp_l127, hp_lm1, hp_eqN, hp_ltN, hp_inN, hp_cl, if_pos, if_neg, if_true, if_false, Option.bind_some, k1', k2]
    | succ m ih =>
      intro i n e hm hj
      obtain ⟨n, rfl⟩ : ∃ n', n = n' + 1 := ⟨n - 1, by omega⟩
      rw [F_X7_judgeCodes_1_66_2_eq, x00, x01]
      unfold hp_j1
      by_cases q : hp_jok (y 0 1) told c i
      · rw [if_pos q, ← ih (i + 1) n (by omega) (by omega) (fun j hj2 => by
          by_cases e : j = i
          · subst e
            exact q
          · exact hj j (by omega))]
        have hci := hc i q.1
        have e1 : D 66 i = nI (hp_jn c i) := hci.trans (hp_jI q.2.1).symm
        have e2 : hp_jn c i < 8 := hp_jlt q.2.1 q.2.2.1
        have e3 : hp_may (y 0 1) (hp_jn c i) = 1 := q.2.2.2
        have q1 := q.1
        clear ih hj hc q hci
        simp (disch := omega) only [hp_kN, nI_add, pk_mul, hp_isInN, hp_m1L, hp_l0, hp_l1, hp_l2, hp_l3, hp_l4, hp_l5, hp_l7, hp_l8, hp_l10, hp_l17, hp_l20, hp_l24, hp_l48, hp_l50, hp_l55, hp_l127, hp_lm1, hp_eqN, hp_ltN, hp_inN, hp_cl, if_pos, if_neg, if_true, if_false, Option.bind_some, e1, hp_mayX N hw.2.1, e3]
      · rw [if_neg q]
        by_cases q1 : i < told
        · have hci := hc i q1
          clear ih hj hc
          rcases hp_arg (c i) with ⟨a0, a1, a2⟩ | ⟨u, hu, eu⟩
          · simp (disch := omega) only [hp_kN, nI_add, pk_mul, hp_isInN, hp_m1L, hp_l0, hp_l1, hp_l2, hp_l3, hp_l4, hp_l5, hp_l7, hp_l8, hp_l10, hp_l17, hp_l20, hp_l24, hp_l48, hp_l50, hp_l55, hp_l127, hp_lm1, hp_eqN, hp_ltN, hp_inN, hp_cl, if_pos, if_neg, if_true, if_false, Option.bind_some, hci, a1]
          · rw [eu] at hci
            have tu := hp_ti hu
            by_cases u8 : u < 8
            · have e3 : hp_may (y 0 1) u = 0 := by
                rcases hp_may01 (y 0 1) u with z | z
                · exact z
                · exfalso
                  apply q
                  refine ⟨q1, ?_, ?_, ?_⟩
                  · rw [eu, tu]; omega
                  · rw [eu, tu]; omega
                  · rw [eu, hp_cl hu]; exact z
              clear q
              simp (disch := omega) only [hp_kN, nI_add, pk_mul, hp_isInN, hp_m1L, hp_l0, hp_l1, hp_l2, hp_l3, hp_l4, hp_l5, hp_l7, hp_l8, hp_l10, hp_l17, hp_l20, hp_l24, hp_l48, hp_l50, hp_l55, hp_l127, hp_lm1, hp_eqN, hp_ltN, hp_inN, hp_cl, if_pos, if_neg, if_true, if_false, Option.bind_some, hci, hp_mayX N hw.2.1, e3]
            · clear q
              simp (disch := omega) only [hp_kN, nI_add, pk_mul, hp_isInN, hp_m1L, hp_l0, hp_l1, hp_l2, hp_l3, hp_l4, hp_l5, hp_l7, hp_l8, hp_l10, hp_l17, hp_l20, hp_l24, hp_l48, hp_l50, hp_l55, hp_l127, hp_lm1, hp_eqN, hp_ltN, hp_inN, hp_cl, if_pos, if_neg, if_true, if_false, Option.bind_some, hci]
        · clear ih hj hc q
          simp (disch := omega) only [hp_kN, nI_add, pk_mul, hp_isInN, hp_m1L, hp_l0, hp_l1, hp_l2, hp_l3, hp_l4, hp_l5, hp_l7, hp_l8, hp_l10, hp_l17, hp_l20, hp_l24, hp_l48, hp_l50, hp_l55, hp_l127, hp_lm1, hp_eqN, hp_ltN, hp_inN, hp_cl, if_pos, if_neg, if_true, if_false, Option.bind_some]
  rw [F_X7_judgeCodes_1_66_eq]
  exact l (y 0 0) 0 N (by omega) (by omega) (fun j hj => absurd hj (by omega))
