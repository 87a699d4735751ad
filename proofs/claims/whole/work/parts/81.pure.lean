/-! ===== figures on the tape ===== -/
abbrev hp_fok (bound most : Nat) (tp : Nat → Nat) (i : Nat) : Prop := i < most ∧ 48 ≤ tp i ∧ tp i < 48 + bound
def hp_ff (bound most : Nat) (tp : Nat → Nat) : Nat → Nat → Option Nat
  | 0, _ => none
  | m + 1, i => if hp_fok bound most tp i then hp_ff bound most tp m (i + 1) else some i
theorem hp_ff_n {bound most : Nat} {tp : Nat → Nat} : ∀ m i, hp_ff bound most tp m i = none → ∀ j, i ≤ j → j < i + m → hp_fok bound most tp j := by
  intro m
  induction m with
  | zero => intro i _ j h1 h2; exact absurd h2 (by omega)
  | succ m ih =>
    intro i h j h1 h2
    unfold hp_ff at h
    by_cases q : hp_fok bound most tp i
    · rw [if_pos q] at h
      by_cases e : j = i
      · subst e
        exact q
      · exact ih (i + 1) h j (by omega) (by omega)
    · rw [if_neg q] at h
      cases h
theorem hp_ff_s {bound most : Nat} {tp : Nat → Nat} : ∀ m i w, hp_ff bound most tp m i = some w → i ≤ w ∧ w < i + m ∧ ¬ hp_fok bound most tp w ∧ ∀ j, i ≤ j → j < w → hp_fok bound most tp j := by
  intro m
  induction m with
  | zero => intro i w h; cases h
  | succ m ih =>
    intro i w h
    unfold hp_ff at h
    by_cases q : hp_fok bound most tp i
    · rw [if_pos q] at h
      obtain ⟨h1, h2, h3, h4⟩ := ih (i + 1) w h
      refine ⟨by omega, by omega, h3, fun j a b => ?_⟩
      by_cases e : j = i
      · subst e
        exact q
      · exact h4 j (by omega) b
    · rw [if_neg q] at h
      injection h with h
      subst h
      exact ⟨Nat.le_refl _, by omega, q, fun j a b => absurd b (by omega)⟩
theorem hp_sublt {a b : Nat} (ha : a < 1000) (hb : b < 1000) : (nI a - nI b < nI 0) = (a < b) := by
  apply propext
  rw [Int32.lt_iff_toInt_lt, hp_ti (by omega), pk_sub_toInt (by omega) (by omega)]
  omega
theorem hp_ffX (N : Nat) {bound least most T : Nat} {tp : Nat → Nat} {D : hy_M} (hb : bound ≤ 8) (hl : least ≤ 40) (hm : most ≤ 40) (hT : D 37 1 = nI T) (hT40 : T ≤ 40) (htp : ∀ j, j < T → D 38 j = nI (tp j)) (htb : ∀ j, j < T → 1 ≤ tp j ∧ tp j ≤ 127) : ∀ m i n, i + m = T → m < n → F_X6_faultOfFigures_3 N n (nI bound) (nI least) (nI most) (nI i) D = some (match hp_ff bound most tp m i with | some w => nI w | none => if T < least then nI T else -nI 1, D) := by
  intro m
  induction m with
  | zero =>
    intro i n e hn
    obtain ⟨n, rfl⟩ : ∃ n', n = n' + 1 := ⟨n - 1, by omega⟩
    rw [F_X6_faultOfFigures_3_eq]
    unfold hp_ff
    clear htb htp
    by_cases q : T < least
    · simp (disch := omega) only [hp_kN, nI_add, pk_mul, hp_isInN, hp_m1L, hp_l0, hp_l1, hp_l2, hp_l3, hp_l4, hp_l5, hp_l7, hp_l8, hp_l10, hp_l17, hp_l20, hp_l24, hp_l48, hp_l50, hp_l55, hp_l127, hp_lm1, hp_eqN, hp_ltN, hp_inN, hp_cl, if_pos, if_neg, if_true, if_false, Option.bind_some, hT]
    · simp (disch := omega) only [hp_kN, nI_add, pk_mul, hp_isInN, hp_m1L, hp_l0, hp_l1, hp_l2, hp_l3, hp_l4, hp_l5, hp_l7, hp_l8, hp_l10, hp_l17, hp_l20, hp_l24, hp_l48, hp_l50, hp_l55, hp_l127, hp_lm1, hp_eqN, hp_ltN, hp_inN, hp_cl, if_pos, if_neg, if_true, if_false, Option.bind_some, hT]
  | succ m ih =>
    intro i n e hn
    obtain ⟨n, rfl⟩ : ∃ n', n = n' + 1 := ⟨n - 1, by omega⟩
    have hi := ih (i + 1) n (by omega) (by omega)
    have t1 := htp i (by omega)
    have t2 := htb i (by omega)
    rw [F_X6_faultOfFigures_3_eq]
    unfold hp_ff
    clear ih htb htp
    by_cases q : hp_fok bound most tp i
    · rw [if_pos q, ← hi]
      obtain ⟨q1, q2, q3⟩ := q
      clear hi
      simp (disch := omega) only [hp_kN, nI_add, pk_mul, hp_isInN, hp_m1L, hp_l0, hp_l1, hp_l2, hp_l3, hp_l4, hp_l5, hp_l7, hp_l8, hp_l10, hp_l17, hp_l20, hp_l24, hp_l48, hp_l50, hp_l55, hp_l127, hp_lm1, hp_eqN, hp_ltN, hp_inN, hp_cl, if_pos, if_neg, if_true, if_false, Option.bind_some, hT, F_X6_figureAt_eq, t1, hp_sublt, pk_sub]
    · rw [if_neg q]
      clear hi
      by_cases q1 : i < most
      · by_cases q2 : tp i < 48
        · simp (disch := omega) only [hp_kN, nI_add, pk_mul, hp_isInN, hp_m1L, hp_l0, hp_l1, hp_l2, hp_l3, hp_l4, hp_l5, hp_l7, hp_l8, hp_l10, hp_l17, hp_l20, hp_l24, hp_l48, hp_l50, hp_l55, hp_l127, hp_lm1, hp_eqN, hp_ltN, hp_inN, hp_cl, if_pos, if_neg, if_true, if_false, Option.bind_some, hT, F_X6_figureAt_eq, t1, hp_sublt]
        · have q3 : ¬ tp i - 48 < bound := fun z => q ⟨q1, by omega, by omega⟩
          clear q
          simp (disch := omega) only [hp_kN, nI_add, pk_mul, hp_isInN, hp_m1L, hp_l0, hp_l1, hp_l2, hp_l3, hp_l4, hp_l5, hp_l7, hp_l8, hp_l10, hp_l17, hp_l20, hp_l24, hp_l48, hp_l50, hp_l55, hp_l127, hp_lm1, hp_eqN, hp_ltN, hp_inN, hp_cl, if_pos, if_neg, if_true, if_false, Option.bind_some, hT, F_X6_figureAt_eq, t1, hp_sublt, pk_sub]
      · clear q
        simp (disch := omega) only [hp_kN, nI_add, pk_mul, hp_isInN, hp_m1L, hp_l0, hp_l1, hp_l2, hp_l3, hp_l4, hp_l5, hp_l7, hp_l8, hp_l10, hp_l17, hp_l20, hp_l24, hp_l48, hp_l50, hp_l55, hp_l127, hp_lm1, hp_eqN, hp_ltN, hp_inN, hp_cl, if_pos, if_neg, if_true, if_false, Option.bind_some, hT]
/-- codes written so far -/
def hp_cs (y : Nat → Nat → Nat) (f : Nat → Nat) : Nat → Nat → Nat → Nat
  | 0 => y
  | i + 1 => hp_yw (hp_cs y f i) 2 i (f i)
theorem hp_cs_n (y : Nat → Nat → Nat) (f : Nat → Nat) (n i j : Nat) (h : i ≠ 2) : hp_cs y f n i j = y i j := by
  induction n with
  | zero => rfl
  | succ n ih =>
    show hp_yw (hp_cs y f n) 2 n _ i j = y i j
    rw [hp_yw_n (Or.inl h)]
    exact ih
theorem hp_cs_WF {y : Nat → Nat → Nat} {f : Nat → Nat} (hw : hp_WF y) : ∀ n, (∀ j, j < n → f j < 8) → hp_WF (hp_cs y f n) := by
  intro n
  induction n with
  | zero => intro _; exact hw
  | succ n ih =>
    intro hf
    exact hp_WF_w (ih (fun j hj => hf j (by omega))) (Or.inr (Or.inr (Or.inl ⟨rfl, hf n (by omega)⟩)))
