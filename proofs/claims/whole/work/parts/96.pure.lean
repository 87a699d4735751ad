/-! ===== yard: the text ===== -/
theorem hp_bit8_t : ((List.range 256).all fun c => (List.range 8).all fun t => decide ((nI c >>> (nI t &&& nI 31) &&& nI 1 = nI 1) ↔ hp_bit c t = 1)) = true := by decide +kernel
theorem hp_bit8 {c t : Nat} (hc : c < 256) (ht : t < 8) : (nI c >>> (nI t &&& nI 31) &&& nI 1 = nI 1) = (hp_bit c t = 1) := propext (of_decide_eq_true (hp_all1 (hp_all1 hp_bit8_t hc) ht))
theorem hp_or8_t : ((List.range 256).all fun a => (List.range 8).all fun t => decide (nI a ||| nI (2 ^ t) = nI (a ||| 2 ^ t)) && decide (a ||| 2 ^ t < 256) && (decide (hp_bit a t = 1) || decide (hp_pc (a ||| 2 ^ t) = hp_pc a + 1)) && (List.range 8).all fun w => decide (hp_bit (a ||| 2 ^ t) w = 1 ↔ (hp_bit a w = 1 ∨ w = t))) = true := by decide +kernel
theorem hp_or8f {a t : Nat} (ha : a < 256) (ht : t < 8) : nI a ||| nI (2 ^ t) = nI (a ||| 2 ^ t) ∧ a ||| 2 ^ t < 256 ∧ (hp_bit a t = 1 ∨ hp_pc (a ||| 2 ^ t) = hp_pc a + 1) ∧ ∀ w, w < 8 → (hp_bit (a ||| 2 ^ t) w = 1 ↔ (hp_bit a w = 1 ∨ w = t)) := by
  have h := hp_all1 (hp_all1 hp_or8_t ha) ht
  simp only [Bool.and_eq_true, Bool.or_eq_true, decide_eq_true_eq] at h
  exact ⟨h.1.1.1, h.1.1.2, h.1.2, fun w hw => of_decide_eq_true (hp_all1 h.2 hw)⟩
theorem hp_or8L {a t : Nat} (ha : a < 256) (ht : t < 8) : nI a ||| nI (2 ^ t) = nI (a ||| 2 ^ t) := (hp_or8f ha ht).1
theorem hp_pc8_t : ((List.range 256).all fun a => decide (hp_pc a ≤ 8) && ((List.range 8).any (fun w => decide (hp_bit a w = 1) && decide (hp_pc a ≤ w)) || (List.range 8).all (fun w => !(decide (w < hp_pc a)) || decide (hp_bit a w = 1)))) = true := by decide +kernel
theorem hp_pc8 {a : Nat} (ha : a < 256) : hp_pc a ≤ 8 := by
  have h := hp_all1 hp_pc8_t ha
  simp only [Bool.and_eq_true, decide_eq_true_eq] at h
  exact h.1
theorem hp_pc8b {a : Nat} (ha : a < 256) (h1 : ∀ w, w < 8 → hp_bit a w = 1 → w < hp_pc a) : ∀ w, w < hp_pc a → hp_bit a w = 1 := fun w hw => by
  have h := hp_all1 hp_pc8_t ha
  simp only [Bool.and_eq_true, Bool.or_eq_true, decide_eq_true_eq] at h
  rcases h.2 with q | q
  · obtain ⟨v, hv, e⟩ := List.any_eq_true.mp q
    simp only [Bool.and_eq_true, decide_eq_true_eq] at e
    have := h1 v (List.mem_range.mp hv) e.1
    omega
  · have := hp_all1 q (show w < 8 by have := h.1; omega)
    simp only [Bool.or_eq_true, Bool.not_eq_true', decide_eq_false_iff_not, decide_eq_true_eq] at this
    rcases this with z | z
    · exact absurd hw z
    · exact z
theorem hp_has8 (N : Nat) {c t : Nat} (hc : c < 256) (ht : t < 8) (D : hy_M) : F_X9_has N (nI c) (nI t) D = some (nI (if hp_bit c t = 1 then 1 else 0), D) := by
  rw [F_X9_has_eq]
  by_cases q : hp_bit c t = 1
  · simp (disch := omega) only [hp_kN, nI_add, pk_mul, hp_isInN, hp_m1L, hp_l0, hp_l1, hp_l2, hp_l3, hp_l4, hp_l5, hp_l7, hp_l8, hp_l10, hp_l17, hp_l20, hp_l24, hp_l48, hp_l50, hp_l55, hp_l127, hp_lm1, hp_eqN, hp_ltN, hp_inN, hp_cl, if_pos, if_neg, if_true, if_false, Option.bind_some, hp_bit8, q]
  · simp (disch := omega) only [hp_kN, nI_add, pk_mul, hp_isInN, hp_m1L, hp_l0, hp_l1, hp_l2, hp_l3, hp_l4, hp_l5, hp_l7, hp_l8, hp_l10, hp_l17, hp_l20, hp_l24, hp_l48, hp_l50, hp_l55, hp_l127, hp_lm1, hp_eqN, hp_ltN, hp_inN, hp_cl, if_pos, if_neg, if_true, if_false, Option.bind_some, hp_bit8, q]
theorem hp_sub97 {a b : Nat} (ha : a < 1000) (hb : b < 1000) : (nI a - nI 97 < nI b) = (a < 97 + b) := by
  apply propext
  rw [Int32.lt_iff_toInt_lt, pk_sub_toInt (by omega) (by omega), hp_ti (by omega)]
  omega
def hp_yf (tp : Nat → Nat) : Nat → Nat → Nat → Nat → Option Nat × Nat
  | 0, _, met, _ => (none, met)
  | m + 1, i, met, bar => if tp i = 124 then (if bar = 0 then hp_yf tp m (i + 1) met 1 else (some i, met)) else if 97 ≤ tp i ∧ tp i < 105 ∧ hp_bit met (tp i - 97) ≠ 1 then hp_yf tp m (i + 1) (met ||| 2 ^ (tp i - 97)) bar else (some i, met)
def hp_yg (tp : Nat → Nat) (many : Nat) : Nat → Nat → Option Nat
  | 0, _ => none
  | m + 1, i => if tp i = 124 then hp_yg tp many m (i + 1) else if tp i < 97 + many then hp_yg tp many m (i + 1) else some i
theorem hp_yg_lt {tp : Nat → Nat} {many : Nat} : ∀ m i w, hp_yg tp many m i = some w → w < i + m := by
  intro m
  induction m with
  | zero => intro i w h; cases h
  | succ m ih =>
    intro i w h
    unfold hp_yg at h
    split at h
    · have := ih (i + 1) w h
      omega
    · split at h
      · have := ih (i + 1) w h
        omega
      · injection h with h
        omega
theorem hp_yg_n {tp : Nat → Nat} {many : Nat} : ∀ m i, hp_yg tp many m i = none → ∀ j, i ≤ j → j < i + m → tp j = 124 ∨ tp j < 97 + many := by
  intro m
  induction m with
  | zero => intro i _ j a b; omega
  | succ m ih =>
    intro i h j a b
    unfold hp_yg at h
    by_cases q : tp i = 124
    · rw [if_pos q] at h
      by_cases e : j = i
      · subst e
        exact Or.inl q
      · exact ih (i + 1) h j (by omega) (by omega)
    · rw [if_neg q] at h
      by_cases q2 : tp i < 97 + many
      · rw [if_pos q2] at h
        by_cases e : j = i
        · subst e
          exact Or.inr q2
        · exact ih (i + 1) h j (by omega) (by omega)
      · rw [if_neg q2] at h
        cases h
theorem hp_yf_lt {tp : Nat → Nat} : ∀ m i met bar w M, hp_yf tp m i met bar = (some w, M) → w < i + m := by
  intro m
  induction m with
  | zero => intro i met bar w M h; cases h
  | succ m ih =>
    intro i met bar w M h
    unfold hp_yf at h
    split at h
    · split at h
      · have := ih _ _ _ _ _ h
        omega
      · injection h with h _
        injection h with h
        omega
    · split at h
      · have := ih _ _ _ _ _ h
        omega
      · injection h with h _
        injection h with h
        omega
theorem hp_yf_b {tp : Nat → Nat} : ∀ m i met bar M, met < 256 → hp_yf tp m i met bar = (none, M) → M < 256 ∧ ∀ w, w < 8 → hp_bit M w = 1 → hp_bit met w = 1 ∨ ∃ j, i ≤ j ∧ j < i + m ∧ tp j = 97 + w := by
  intro m
  induction m with
  | zero =>
    intro i met bar M hm h
    injection h with _ h
    subst h
    exact ⟨hm, fun w _ q => Or.inl q⟩
  | succ m ih =>
    intro i met bar M hm h
    unfold hp_yf at h
    by_cases q : tp i = 124
    · rw [if_pos q] at h
      by_cases q2 : bar = 0
      · rw [if_pos q2] at h
        obtain ⟨a, b⟩ := ih _ _ _ _ hm h
        refine ⟨a, fun w hw z => ?_⟩
        rcases b w hw z with z2 | ⟨j, h1, h2, h3⟩
        · exact Or.inl z2
        · exact Or.inr ⟨j, by omega, by omega, h3⟩
      · rw [if_neg q2] at h
        cases h
    · rw [if_neg q] at h
      by_cases q2 : 97 ≤ tp i ∧ tp i < 105 ∧ hp_bit met (tp i - 97) ≠ 1
      · rw [if_pos q2] at h
        have o := hp_or8f (a := met) (t := tp i - 97) hm (by omega)
        obtain ⟨a, b⟩ := ih _ _ _ _ o.2.1 h
        refine ⟨a, fun w hw z => ?_⟩
        rcases b w hw z with z2 | ⟨j, h1, h2, h3⟩
        · rcases (o.2.2.2 w hw).mp z2 with z3 | z3
          · exact Or.inl z3
          · exact Or.inr ⟨i, by omega, by omega, by omega⟩
        · exact Or.inr ⟨j, by omega, by omega, h3⟩
      · rw [if_neg q2] at h
        cases h
theorem hp_ygX (N : Nat) {T many : Nat} {tp : Nat → Nat} {D : hy_M} (hT40 : T ≤ 40) (hm8 : many ≤ 8) (hT : D 37 1 = nI T) (htp : ∀ j, j < T → D 38 j = nI (tp j)) (htb : ∀ j, j < T → 1 ≤ tp j ∧ tp j ≤ 127) : ∀ m i n, i + m = T → m < n → F_X6_firstLetterFrom_2 N n (nI many) (nI i) D = some (hp_oI (hp_yg tp many m i), D) := by
  intro m
  induction m with
  | zero =>
    intro i n e hm
    obtain ⟨n, rfl⟩ : ∃ n', n = n' + 1 := ⟨n - 1, by omega⟩
    have e : i = T := by omega
    subst e
    rw [F_X6_firstLetterFrom_2_eq]
    clear htp htb
    simp (disch := omega) only [hp_kN, nI_add, pk_mul, hp_isInN, hp_m1L, hp_l0, hp_l1, hp_l2, hp_l3, hp_l4, hp_l5, hp_l7, hp_l8, hp_l10, hp_l17, hp_l20, hp_l24, hp_l48, hp_l50, hp_l55, hp_l127, hp_lm1, hp_eqN, hp_ltN, hp_inN, hp_cl, if_pos, if_neg, if_true, if_false, Option.bind_some, hT]
    rfl
  | succ m ih =>
    intro i n e hm
    obtain ⟨n, rfl⟩ : ∃ n', n = n' + 1 := ⟨n - 1, by omega⟩
    have hi := ih (i + 1) n (by omega) (by omega)
    have t1 := htp i (by omega)
    have t2 := htb i (by omega)
    clear ih htp htb
    rw [F_X6_firstLetterFrom_2_eq]
    unfold hp_yg
    by_cases q : tp i = 124
    · rw [if_pos q]
      rw [q] at t1
      simp (disch := omega) only [hp_kN, nI_add, pk_mul, hp_isInN, hp_m1L, hp_l0, hp_l1, hp_l2, hp_l3, hp_l4, hp_l5, hp_l7, hp_l8, hp_l10, hp_l17, hp_l20, hp_l24, hp_l48, hp_l50, hp_l55, hp_l127, hp_lm1, hp_eqN, hp_ltN, hp_inN, hp_cl, if_pos, if_neg, if_true, if_false, Option.bind_some, hT, t1, hi]
    · rw [if_neg q]
      by_cases q2 : tp i < 97 + many
      · rw [if_pos q2]
        simp (disch := omega) only [hp_kN, nI_add, pk_mul, hp_isInN, hp_m1L, hp_l0, hp_l1, hp_l2, hp_l3, hp_l4, hp_l5, hp_l7, hp_l8, hp_l10, hp_l17, hp_l20, hp_l24, hp_l48, hp_l50, hp_l55, hp_l127, hp_lm1, hp_eqN, hp_ltN, hp_inN, hp_cl, if_pos, if_neg, if_true, if_false, Option.bind_some, hT, t1, hp_sub97, hi]
      · rw [if_neg q2]
        simp (disch := omega) only [hp_kN, nI_add, pk_mul, hp_isInN, hp_m1L, hp_l0, hp_l1, hp_l2, hp_l3, hp_l4, hp_l5, hp_l7, hp_l8, hp_l10, hp_l17, hp_l20, hp_l24, hp_l48, hp_l50, hp_l55, hp_l127, hp_lm1, hp_eqN, hp_ltN, hp_inN, hp_cl, if_pos, if_neg, if_true, if_false, Option.bind_some, hT, t1, hp_sub97]
        rfl
theorem hp_yfX (N : Nat) (hN : 100 ≤ N) {T : Nat} {tp : Nat → Nat} {D : hy_M} (hT40 : T ≤ 40) (hT : D 37 1 = nI T) (htp : ∀ j, j < T → D 38 j = nI (tp j)) (htb : ∀ j, j < T → 1 ≤ tp j ∧ tp j ≤ 127) : ∀ m i n met bar, i + m = T → m < n → met < 256 → bar ≤ 1 → F_X6_faultOfYard_6 N n (nI met) (nI bar) (nI i) D = some (match hp_yf tp m i met bar with | (some w, _) => nI w | (none, M) => hp_oI (hp_yg tp (hp_pc M) T 0), D) := by
  intro m
  induction m with
  | zero =>
    intro i n met bar e hm hmet hbar
    obtain ⟨n, rfl⟩ : ∃ n', n = n' + 1 := ⟨n - 1, by omega⟩
    have e : i = T := by omega
    subst e
    have k1 := hp_bc N hmet D
    have k2 := hp_ygX N hT40 (hp_pc8 hmet) hT htp htb i 0 N (by omega) (by omega)
    have k3 : F_X6_firstLetterFrom N (nI (hp_pc met)) D = some (hp_oI (hp_yg tp (hp_pc met) i 0), D) := by
      rw [F_X6_firstLetterFrom_eq]
      exact k2
    rw [F_X6_faultOfYard_6_eq, hT, if_neg (by rw [hp_ltN (by omega) (by omega)]; omega), k1, Option.bind_some, k3, Option.bind_some]
    rfl
  | succ m ih =>
    intro i n met bar e hm hmet hbar
    obtain ⟨n, rfl⟩ : ∃ n', n = n' + 1 := ⟨n - 1, by omega⟩
    have t1 := htp i (by omega)
    have t2 := htb i (by omega)
    rw [F_X6_faultOfYard_6_eq]
    unfold hp_yf
    by_cases q : tp i = 124
    · rw [if_pos q]
      rw [q] at t1
      by_cases q2 : bar = 0
      · have hi := ih (i + 1) n met 1 (by omega) (by omega) hmet (by omega)
        rw [if_pos q2]
        subst q2
        clear ih htp htb
        simp (disch := omega) only [hp_kN, nI_add, pk_mul, hp_isInN, hp_m1L, hp_l0, hp_l1, hp_l2, hp_l3, hp_l4, hp_l5, hp_l7, hp_l8, hp_l10, hp_l17, hp_l20, hp_l24, hp_l48, hp_l50, hp_l55, hp_l127, hp_lm1, hp_eqN, hp_ltN, hp_inN, hp_cl, if_pos, if_neg, if_true, if_false, Option.bind_some, hT, t1, hi]
      · rw [if_neg q2]
        have q3 : bar = 1 := by omega
        subst q3
        clear ih htp htb
        simp (disch := omega) only [hp_kN, nI_add, pk_mul, hp_isInN, hp_m1L, hp_l0, hp_l1, hp_l2, hp_l3, hp_l4, hp_l5, hp_l7, hp_l8, hp_l10, hp_l17, hp_l20, hp_l24, hp_l48, hp_l50, hp_l55, hp_l127, hp_lm1, hp_eqN, hp_ltN, hp_inN, hp_cl, if_pos, if_neg, if_true, if_false, Option.bind_some, hT, t1]
    · rw [if_neg q]
      by_cases q2 : 97 ≤ tp i ∧ tp i < 105 ∧ hp_bit met (tp i - 97) ≠ 1
      · rw [if_pos q2]
        obtain ⟨q3, q4, q5⟩ := q2
        have o := hp_or8f (a := met) (t := tp i - 97) hmet (by omega)
        have hi := ih (i + 1) n (met ||| 2 ^ (tp i - 97)) bar (by omega) (by omega) o.2.1 hbar
        clear ih htp htb o
        simp (disch := omega) only [hp_kN, nI_add, pk_mul, hp_isInN, hp_m1L, hp_l0, hp_l1, hp_l2, hp_l3, hp_l4, hp_l5, hp_l7, hp_l8, hp_l10, hp_l17, hp_l20, hp_l24, hp_l48, hp_l50, hp_l55, hp_l127, hp_lm1, hp_eqN, hp_ltN, hp_inN, hp_cl, if_pos, if_neg, if_true, if_false, Option.bind_some, hT, t1, pk_sub, hp_bit8, q5, hp_shl, hp_or8L, hi]
      · rw [if_neg q2]
        clear ih htp htb
        by_cases q3 : 97 ≤ tp i
        · by_cases q4 : tp i < 105
          · have q5 : hp_bit met (tp i - 97) = 1 := Classical.byContradiction fun z => q2 ⟨q3, q4, z⟩
            clear q2
            simp (disch := omega) only [hp_kN, nI_add, pk_mul, hp_isInN, hp_m1L, hp_l0, hp_l1, hp_l2, hp_l3, hp_l4, hp_l5, hp_l7, hp_l8, hp_l10, hp_l17, hp_l20, hp_l24, hp_l48, hp_l50, hp_l55, hp_l127, hp_lm1, hp_eqN, hp_ltN, hp_inN, hp_cl, if_pos, if_neg, if_true, if_false, Option.bind_some, hT, t1, pk_sub, hp_bit8, q5]
          · clear q2
            simp (disch := omega) only [hp_kN, nI_add, pk_mul, hp_isInN, hp_m1L, hp_l0, hp_l1, hp_l2, hp_l3, hp_l4, hp_l5, hp_l7, hp_l8, hp_l10, hp_l17, hp_l20, hp_l24, hp_l48, hp_l50, hp_l55, hp_l127, hp_lm1, hp_eqN, hp_ltN, hp_inN, hp_cl, if_pos, if_neg, if_true, if_false, Option.bind_some, hT, t1, pk_sub]
        · clear q2
          simp (disch := omega) only [hp_kN, nI_add, pk_mul, hp_isInN, hp_m1L, hp_l0, hp_l1, hp_l2, hp_l3, hp_l4, hp_l5, hp_l7, hp_l8, hp_l10, hp_l17, hp_l20, hp_l24, hp_l48, hp_l50, hp_l55, hp_l127, hp_lm1, hp_eqN, hp_ltN, hp_inN, hp_cl, if_pos, if_neg, if_true, if_false, Option.bind_some, hT, t1, hp_sublt]
theorem hp_ygM (N : Nat) {T many : Nat} {tp : Nat → Nat} {D : hy_M} (hT40 : T ≤ 40) (hm8 : many ≤ 8) (hT : D 67 5 = nI T) (htp : ∀ j, j < T → D 71 j = nI (tp j)) (htb : ∀ j, j < T → 1 ≤ tp j ∧ tp j ≤ 127) : ∀ m i n, i + m = T → m < n → F_X9_yardFault_90 N n (nI many) (nI i) D = some (nI (match hp_yg tp many m i with | some w => w | none => T), D) := by
  intro m
  induction m with
  | zero =>
    intro i n e hm
    obtain ⟨n, rfl⟩ : ∃ n', n = n' + 1 := ⟨n - 1, by omega⟩
    have e : i = T := by omega
    subst e
    rw [F_X9_yardFault_90_eq]
    clear htp htb
    simp (disch := omega) only [hp_kN, nI_add, pk_mul, hp_isInN, hp_m1L, hp_l0, hp_l1, hp_l2, hp_l3, hp_l4, hp_l5, hp_l7, hp_l8, hp_l10, hp_l17, hp_l20, hp_l24, hp_l48, hp_l50, hp_l55, hp_l127, hp_lm1, hp_eqN, hp_ltN, hp_inN, hp_cl, if_pos, if_neg, if_true, if_false, Option.bind_some, hT]
    rfl
  | succ m ih =>
    intro i n e hm
    obtain ⟨n, rfl⟩ : ∃ n', n = n' + 1 := ⟨n - 1, by omega⟩
    have hi := ih (i + 1) n (by omega) (by omega)
    have t1 := htp i (by omega)
    have t2 := htb i (by omega)
    clear ih htp htb
    rw [F_X9_yardFault_90_eq]
    unfold hp_yg
    by_cases q : tp i = 124
    · rw [if_pos q]
      rw [q] at t1
      simp (disch := omega) only [hp_kN, nI_add, pk_mul, hp_isInN, hp_m1L, hp_l0, hp_l1, hp_l2, hp_l3, hp_l4, hp_l5, hp_l7, hp_l8, hp_l10, hp_l17, hp_l20, hp_l24, hp_l48, hp_l50, hp_l55, hp_l127, hp_lm1, hp_eqN, hp_ltN, hp_inN, hp_cl, if_pos, if_neg, if_true, if_false, Option.bind_some, hT, t1, hi]
    · rw [if_neg q]
      by_cases q2 : tp i < 97 + many
      · rw [if_pos q2]
        simp (disch := omega) only [hp_kN, nI_add, pk_mul, hp_isInN, hp_m1L, hp_l0, hp_l1, hp_l2, hp_l3, hp_l4, hp_l5, hp_l7, hp_l8, hp_l10, hp_l17, hp_l20, hp_l24, hp_l48, hp_l50, hp_l55, hp_l127, hp_lm1, hp_eqN, hp_ltN, hp_inN, hp_cl, if_pos, if_neg, if_true, if_false, Option.bind_some, hT, t1, hp_sub97, hi]
      · rw [if_neg q2]
        simp (disch := omega) only [hp_kN, nI_add, pk_mul, hp_isInN, hp_m1L, hp_l0, hp_l1, hp_l2, hp_l3, hp_l4, hp_l5, hp_l7, hp_l8, hp_l10, hp_l17, hp_l20, hp_l24, hp_l48, hp_l50, hp_l55, hp_l127, hp_lm1, hp_eqN, hp_ltN, hp_inN, hp_cl, if_pos, if_neg, if_true, if_false, Option.bind_some, hT, t1, hp_sub97]
theorem hp_yfM (N : Nat) (hN : 100 ≤ N) {T : Nat} {tp : Nat → Nat} {D : hy_M} (hT40 : T ≤ 40) (hT : D 67 5 = nI T) (htp : ∀ j, j < T → D 71 j = nI (tp j)) (htb : ∀ j, j < T → 1 ≤ tp j ∧ tp j ≤ 127) : ∀ m i n met bar, i + m = T → m < n → met < 256 → bar ≤ 1 → F_X9_yardFault_6 N n (nI met) (nI bar) (nI i) D = some (nI (match hp_yf tp m i met bar with | (some w, _) => w | (none, M) => (match hp_yg tp (hp_pc M) T 0 with | some w => w | none => T)), D) := by
  intro m
  induction m with
  | zero =>
    intro i n met bar e hm hmet hbar
    obtain ⟨n, rfl⟩ : ∃ n', n = n' + 1 := ⟨n - 1, by omega⟩
    have e : i = T := by omega
    subst e
    have k1 := hp_on N (by omega) hmet D
    have k2 := hp_ygM N hT40 (hp_pc8 hmet) hT htp htb i 0 N (by omega) (by omega)
    rw [F_X9_yardFault_6_eq, hT, if_neg (by rw [hp_ltN (by omega) (by omega)]; omega), k1, Option.bind_some]
    exact k2
  | succ m ih =>
    intro i n met bar e hm hmet hbar
    obtain ⟨n, rfl⟩ : ∃ n', n = n' + 1 := ⟨n - 1, by omega⟩
    have t1 := htp i (by omega)
    have t2 := htb i (by omega)
    rw [F_X9_yardFault_6_eq]
    unfold hp_yf
    by_cases q : tp i = 124
    · rw [if_pos q]
      rw [q] at t1
      by_cases q2 : bar = 0
      · have hi := ih (i + 1) n met 1 (by omega) (by omega) hmet (by omega)
        rw [if_pos q2]
        subst q2
        clear ih htp htb
        simp (disch := omega) only [hp_kN, nI_add, pk_mul, hp_isInN, hp_m1L, hp_l0, hp_l1, hp_l2, hp_l3, hp_l4, hp_l5, hp_l7, hp_l8, hp_l10, hp_l17, hp_l20, hp_l24, hp_l48, hp_l50, hp_l55, hp_l127, hp_lm1, hp_eqN, hp_ltN, hp_inN, hp_cl, if_pos, if_neg, if_true, if_false, Option.bind_some, hT, t1, hi]
      · rw [if_neg q2]
        have q3 : bar = 1 := by omega
        subst q3
        clear ih htp htb
        simp (disch := omega) only [hp_kN, nI_add, pk_mul, hp_isInN, hp_m1L, hp_l0, hp_l1, hp_l2, hp_l3, hp_l4, hp_l5, hp_l7, hp_l8, hp_l10, hp_l17, hp_l20, hp_l24, hp_l48, hp_l50, hp_l55, hp_l127, hp_lm1, hp_eqN, hp_ltN, hp_inN, hp_cl, if_pos, if_neg, if_true, if_false, Option.bind_some, hT, t1, F_X9_yardFault_45_eq, pk_sub, Nat.reduceSub]
    · rw [if_neg q]
      by_cases q2 : 97 ≤ tp i ∧ tp i < 105 ∧ hp_bit met (tp i - 97) ≠ 1
      · rw [if_pos q2]
        obtain ⟨q3, q4, q5⟩ := q2
        have o := hp_or8f (a := met) (t := tp i - 97) hmet (by omega)
        have hi := ih (i + 1) n (met ||| 2 ^ (tp i - 97)) bar (by omega) (by omega) o.2.1 hbar
        have k := hp_has8 N (c := met) (t := tp i - 97) hmet (by omega) D
        rw [if_neg q5] at k
        clear ih htp htb o
        simp (disch := omega) only [hp_kN, nI_add, pk_mul, hp_isInN, hp_m1L, hp_l0, hp_l1, hp_l2, hp_l3, hp_l4, hp_l5, hp_l7, hp_l8, hp_l10, hp_l17, hp_l20, hp_l24, hp_l48, hp_l50, hp_l55, hp_l127, hp_lm1, hp_eqN, hp_ltN, hp_inN, hp_cl, if_pos, if_neg, if_true, if_false, Option.bind_some, hT, t1, F_X9_yardFault_45_eq, pk_sub, k, hp_shl, hp_or8L, hi]
      · rw [if_neg q2]
        clear ih htp htb
        by_cases q3 : 97 ≤ tp i
        · by_cases q4 : tp i < 105
          · have q5 : hp_bit met (tp i - 97) = 1 := Classical.byContradiction fun z => q2 ⟨q3, q4, z⟩
            have k := hp_has8 N (c := met) (t := tp i - 97) hmet (by omega) D
            rw [if_pos q5] at k
            clear q2
            simp (disch := omega) only [hp_kN, nI_add, pk_mul, hp_isInN, hp_m1L, hp_l0, hp_l1, hp_l2, hp_l3, hp_l4, hp_l5, hp_l7, hp_l8, hp_l10, hp_l17, hp_l20, hp_l24, hp_l48, hp_l50, hp_l55, hp_l127, hp_lm1, hp_eqN, hp_ltN, hp_inN, hp_cl, if_pos, if_neg, if_true, if_false, Option.bind_some, hT, t1, F_X9_yardFault_45_eq, pk_sub, k]
          · clear q2
            simp (disch := omega) only [hp_kN, nI_add, pk_mul, hp_isInN, hp_m1L, hp_l0, hp_l1, hp_l2, hp_l3, hp_l4, hp_l5, hp_l7, hp_l8, hp_l10, hp_l17, hp_l20, hp_l24, hp_l48, hp_l50, hp_l55, hp_l127, hp_lm1, hp_eqN, hp_ltN, hp_inN, hp_cl, if_pos, if_neg, if_true, if_false, Option.bind_some, hT, t1, F_X9_yardFault_45_eq, pk_sub]
        · clear q2
          have k := hp_isIng N (a := nI (tp i) - nI 97) (by rw [pk_sub_toInt (by omega) (by omega)]; omega) 0 7 (by decide) D
          simp (disch := omega) only [hp_kN, nI_add, pk_mul, hp_isInN, hp_m1L, hp_l0, hp_l1, hp_l2, hp_l3, hp_l4, hp_l5, hp_l7, hp_l8, hp_l10, hp_l17, hp_l20, hp_l24, hp_l48, hp_l50, hp_l55, hp_l127, hp_lm1, hp_eqN, hp_ltN, hp_inN, hp_cl, if_pos, if_neg, if_true, if_false, Option.bind_some, hT, t1, F_X9_yardFault_45_eq, k]
