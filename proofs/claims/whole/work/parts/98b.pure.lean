/-! ===== bounded codes: the reference's pieces ===== -/
def hq_F (D0 D : hy_M) : Prop := (∀ c, (c < 73 ∨ 77 ≤ c) → c ≠ 67 → D c = D0 c) ∧ ∀ j, j ≠ 11 → j ≠ 12 → D 67 j = D0 67 j
theorem hq_F_w {D0 D D1 : hy_M} (h : hq_F D0 D) (f : ∀ c, (c < 73 ∨ 77 ≤ c) → D1 c = D c) : hq_F D0 D1 := ⟨fun c a b => by rw [f c a, h.1 c a b], fun j a b => by rw [f 67 (by omega), h.2 j a b]⟩
theorem hq_F_sm {D0 D : hy_M} (h : hq_F D0 D) : hp_sm D0 D := ⟨fun c a => h.1 c (by omega) (by omega), fun j a => h.2 j (by omega) (by omega)⟩
def hq_ld (x len t : Nat) : Nat := if hp_bit x t = 1 then len else 0
theorem hq_ngm_t : ((List.range 40).all fun a => (List.range 4).all fun b => decide (nI (a + b) + -nI 1 * nI b = nI a) && decide (nI (a + b) + -nI b = nI a)) = true := by decide +kernel
theorem hq_ngm {a b : Nat} (ha : a < 40) (hb : b < 4) : nI (a + b) + -nI 1 * nI b = nI a := by
  have := hp_all1 (hp_all1 hq_ngm_t ha) hb
  simp only [Bool.and_eq_true, decide_eq_true_eq] at this
  exact this.1
theorem hq_ngp {a b : Nat} (ha : a < 40) (hb : b < 4) : nI (a + b) + -nI b = nI a := by
  have := hp_all1 (hp_all1 hq_ngm_t ha) hb
  simp only [Bool.and_eq_true, decide_eq_true_eq] at this
  exact this.2
theorem hq_a0 (a : Int32) : a + nI 0 = a := Int32.add_zero a
theorem hq_orM (N : Nat) {y : Nat → Nat → Nat} {pu : Int32} (hw : hp_WF y) {D0 : hy_M} (hM : hp_MY 68 y pu D0) : ∀ m i f D, i + m = y 0 0 → m < f → D 68 = D0 68 → (∀ j, j < i → D 75 j = nI (hq_tu y j)) → ∃ D1, F_X9_orders_2 N f (nI i) D = some D1 ∧ (∀ j, j < y 0 0 → D1 75 j = nI (hq_tu y j)) ∧ ∀ c, c ≠ 75 → D1 c = D c := by
  have b0 := hw.1
  have h6 := hw.2.2.2.2.2.1
  obtain ⟨m00, m01, m02, m03, m4, m12, m20, m30, m28, m46, m70, m51, m67, m49⟩ := hp_Mf hw hM
  intro m
  induction m with
  | zero =>
    intro i f D e hf h68 h
    obtain ⟨f, rfl⟩ : ∃ f', f = f' + 1 := ⟨f - 1, by omega⟩
    have e : i = y 0 0 := by omega
    refine ⟨D, ?_, fun j hj => h j (by omega), fun _ _ => rfl⟩
    rw [F_X9_orders_2_eq, h68, m00, if_neg]
    rw [hp_ltN (by omega) (by omega)]
    omega
  | succ m ih =>
    intro i f D e hf h68 h
    obtain ⟨f, rfl⟩ : ∃ f', f = f' + 1 := ⟨f - 1, by omega⟩
    obtain ⟨D1, e1, f1, f2⟩ := ih (i + 1) f (hy_w D 75 i (nI (hq_tu y i))) (by omega) (by omega) (by rw [hy_w_ne (by omega), h68]) (fun j hj => by
      by_cases q : j = i
      · subst q
        rw [hp_ws]
      · rw [hp_wn (Or.inr q)]
        exact h j (by omega))
    refine ⟨D1, ?_, f1, fun c hc => by rw [f2 c hc, hy_w_ne hc]⟩
    have z28 : D 68 28 = nI (y 8 0) := by rw [h68]; exact m28 0 (by omega)
    have z00 : D 68 0 = nI (y 0 0) := by rw [h68]; exact m00
    rw [← e1, F_X9_orders_2_eq]
    clear ih e1 f1 f2 h
    unfold hq_tu
    by_cases q : i < y 8 0
    · have z : D 68 (30 + 8 * 0 + i) = nI (y 6 i) := by rw [h68]; exact m30 0 (by omega) i (by omega)
      rw [if_pos q]
      clear m4 m12 m20 m30 m28 m46 m70 m51 m67 m49
      simp (disch := omega) only [hp_kN, nI_add, pk_mul, hp_isInN, hp_m1L, hp_l0, hp_l1, hp_l2, hp_l3, hp_l4, hp_l5, hp_l7, hp_l8, hp_l10, hp_l17, hp_l20, hp_l24, hp_l48, hp_l50, hp_l55, hp_l127, hp_lm1, hp_eqN, hp_ltN, hp_inN, hp_cl, if_pos, if_neg, if_true, if_false, Option.bind_some, z00, z28, F_X9_wantedAt_eq, z]
    · have z : D 68 (30 + 8 * 1 + (i - y 8 0)) = nI (y 7 (i - y 8 0)) := by rw [h68]; exact m30 1 (by omega) _ (by omega)
      rw [if_neg q]
      clear m4 m12 m20 m30 m28 m46 m70 m51 m67 m49
      simp (disch := omega) only [hp_kN, nI_add, pk_mul, hp_isInN, hp_m1L, hp_l0, hp_l1, hp_l2, hp_l3, hp_l4, hp_l5, hp_l7, hp_l8, hp_l10, hp_l17, hp_l20, hp_l24, hp_l48, hp_l50, hp_l55, hp_l127, hp_lm1, hp_eqN, hp_ltN, hp_inN, hp_cl, if_pos, if_neg, if_true, if_false, Option.bind_some, z00, z28, pk_sub, F_X9_wantedAt_eq, z]
theorem hq_ldM_l (N : Nat) {w x len : Nat} (hw : w < 8) (hx : x < 8) (v2 : Int32) : ∀ m i f D, i + m = 3 → m < f → D 73 w = nI x → D 68 (4 + w) = nI len → ∃ D1, F_X9_loads_2 N f (nI w) v2 (nI i) D = some D1 ∧ (∀ t, t < 3 → D1 76 t = if t < i then D 76 t else if hp_bit x t = 1 then D 76 t + v2 * nI len else D 76 t + nI 0) ∧ ∀ c, c ≠ 76 → D1 c = D c := by
  intro m
  induction m with
  | zero =>
    intro i f D e hf h73 h68
    obtain ⟨f, rfl⟩ : ∃ f', f = f' + 1 := ⟨f - 1, by omega⟩
    refine ⟨D, ?_, fun t ht => by rw [if_pos (by omega)], fun _ _ => rfl⟩
    rw [F_X9_loads_2_eq, if_neg]
    rw [show (3 : Int32) = nI 3 from rfl, hp_ltN (by omega) (by omega)]
    omega
  | succ m ih =>
    intro i f D e hf h73 h68
    obtain ⟨f, rfl⟩ : ∃ f', f = f' + 1 := ⟨f - 1, by omega⟩
    obtain ⟨u, eu⟩ : ∃ u, u = if hp_bit x i = 1 then D 76 i + v2 * nI len else D 76 i + nI 0 := ⟨_, rfl⟩
    obtain ⟨D1, e1, f1, f2⟩ := ih (i + 1) f (hy_w D 76 i u) (by omega) (by omega) (by rw [hy_w_ne (by omega)]; exact h73) (by rw [hy_w_ne (by omega)]; exact h68)
    refine ⟨D1, ?_, fun t ht => ?_, fun c hc => by rw [f2 c hc, hy_w_ne hc]⟩
    · have k := hp_has N (c := x) (t := i) (by omega) (by omega) D
      rw [← e1, F_X9_loads_2_eq, eu]
      clear ih e1 f1 f2 eu
      by_cases q : hp_bit x i = 1
      · rw [if_pos q] at k ⊢
        simp (disch := omega) only [hp_kN, nI_add, pk_mul, hp_isInN, hp_m1L, hp_l0, hp_l1, hp_l2, hp_l3, hp_l4, hp_l5, hp_l7, hp_l8, hp_l10, hp_l17, hp_l20, hp_l24, hp_l48, hp_l50, hp_l55, hp_l127, hp_lm1, hp_eqN, hp_ltN, hp_inN, hp_cl, if_pos, if_neg, if_true, if_false, Option.bind_some, h73, k, h68]
      · rw [if_neg q] at k ⊢
        simp (disch := omega) only [hp_kN, nI_add, pk_mul, hp_isInN, hp_m1L, hp_l0, hp_l1, hp_l2, hp_l3, hp_l4, hp_l5, hp_l7, hp_l8, hp_l10, hp_l17, hp_l20, hp_l24, hp_l48, hp_l50, hp_l55, hp_l127, hp_lm1, hp_eqN, hp_ltN, hp_inN, hp_cl, if_pos, if_neg, if_true, if_false, Option.bind_some, h73, k]
    · rw [f1 t ht]
      by_cases q : t = i
      · rw [q, if_pos (by omega), hp_ws, if_neg (by omega), eu]
      · rw [hp_wn (Or.inr q)]
        by_cases q2 : t < i
        · rw [if_pos (by omega), if_pos q2]
        · rw [if_neg (by omega), if_neg q2]
theorem hq_ldM (N : Nat) (hN : 10 ≤ N) {w x len : Nat} (hw : w < 8) (hx : x < 8) {L : Nat → Nat} {D : hy_M} (h73 : D 73 w = nI x) (h68 : D 68 (4 + w) = nI len) (hL : ∀ t, t < 3 → D 76 t = nI (L t)) : ∃ D1, F_X9_loads N (nI w) 1 D = some D1 ∧ (∀ t, t < 3 → D1 76 t = nI (L t + hq_ld x len t)) ∧ ∀ c, c ≠ 76 → D1 c = D c := by
  obtain ⟨D1, e1, f1, f2⟩ := hq_ldM_l N hw hx 1 3 0 N D rfl (by omega) h73 h68
  refine ⟨D1, ?_, fun t ht => ?_, f2⟩
  · rw [F_X9_loads_eq]
    exact e1
  · rw [f1 t ht, if_neg (by omega), hL t ht]
    unfold hq_ld
    by_cases q : hp_bit x t = 1
    · rw [if_pos q, if_pos q, show (1 : Int32) = nI 1 from rfl, pk_mul, nI_add, Nat.one_mul]
    · rw [if_neg q, if_neg q, nI_add]
theorem hq_ulM (N : Nat) (hN : 10 ≤ N) {w x len : Nat} (hw : w < 8) (hx : x < 8) (hl : len < 4) {L : Nat → Nat} (hL4 : ∀ t, t < 3 → L t < 40) {D : hy_M} (h73 : D 73 w = nI x) (h68 : D 68 (4 + w) = nI len) (hL : ∀ t, t < 3 → D 76 t = nI (L t + hq_ld x len t)) : ∃ D1, F_X9_loads N (nI w) (-1) D = some D1 ∧ (∀ t, t < 3 → D1 76 t = nI (L t)) ∧ ∀ c, c ≠ 76 → D1 c = D c := by
  obtain ⟨D1, e1, f1, f2⟩ := hq_ldM_l N hw hx (-1) 3 0 N D rfl (by omega) h73 h68
  refine ⟨D1, ?_, fun t ht => ?_, f2⟩
  · rw [F_X9_loads_eq]
    exact e1
  · rw [f1 t ht, if_neg (by omega), hL t ht]
    unfold hq_ld
    by_cases q : hp_bit x t = 1
    · rw [if_pos q, if_pos q]
      exact hq_ngm (hL4 t ht) hl
    · rw [if_neg q, if_neg q, nI_add]
      rfl
def hq_rm (y : Nat → Nat → Nat) (L : Nat → Nat) : Nat := if y 9 0 < L 0 then 0 else if y 9 1 < L 1 then 0 else if y 9 2 < L 2 then 0 else 1
theorem hq_rm1 {y : Nat → Nat → Nat} {L : Nat → Nat} : (hq_rm y L = 1 ∧ ∀ t, t < 3 → L t ≤ y 9 t) ∨ (hq_rm y L = 0 ∧ ¬ ∀ t, t < 3 → L t ≤ y 9 t) := by
  unfold hq_rm
  by_cases c0 : y 9 0 < L 0
  · rw [if_pos c0]
    exact Or.inr ⟨rfl, fun h => by have := h 0 (by omega); omega⟩
  · rw [if_neg c0]
    by_cases c1 : y 9 1 < L 1
    · rw [if_pos c1]
      exact Or.inr ⟨rfl, fun h => by have := h 1 (by omega); omega⟩
    · rw [if_neg c1]
      by_cases c2 : y 9 2 < L 2
      · rw [if_pos c2]
        exact Or.inr ⟨rfl, fun h => by have := h 2 (by omega); omega⟩
      · rw [if_neg c2]
        refine Or.inl ⟨rfl, fun t ht => ?_⟩
        have tt : t = 0 ∨ t = 1 ∨ t = 2 := by omega
        rcases tt with rfl | rfl | rfl <;> omega
theorem hq_rmM (N : Nat) (hN : 10 ≤ N) {y : Nat → Nat → Nat} (hw : hp_WF y) {L : Nat → Nat} (hL4 : ∀ t, t < 3 → L t < 1000) {D : hy_M} (h46 : ∀ t, t < 3 → D 68 (46 + t) = nI (y 9 t)) (hL : ∀ t, t < 3 → D 76 t = nI (L t)) : F_X9_isRoomy N D = some (nI (hq_rm y L), D) := by
  have b9 := hw.2.2.2.2.2.2.1
  have r0 := b9 0 (by omega)
  have r1 := b9 1 (by omega)
  have r2 := b9 2 (by omega)
  have l0 := hL4 0 (by omega)
  have l1 := hL4 1 (by omega)
  have l2 := hL4 2 (by omega)
  have a0 := hL 0 (by omega)
  have a1 := hL 1 (by omega)
  have a2 := hL 2 (by omega)
  have e0 : D 68 46 = nI (y 9 0) := h46 0 (by omega)
  have e1 : D 68 47 = nI (y 9 1) := h46 1 (by omega)
  have e2 : D 68 48 = nI (y 9 2) := h46 2 (by omega)
  obtain ⟨N, rfl⟩ : ∃ n, N = n + 10 := ⟨N - 10, by omega⟩
  clear hL4 hL h46 b9
  rw [F_X9_isRoomy_eq, F_X9_isRoomy_2_eq]
  unfold hq_rm
  by_cases c0 : y 9 0 < L 0
  · simp (disch := omega) only [hp_kN, nI_add, pk_mul, hp_isInN, hp_m1L, hp_l0, hp_l1, hp_l2, hp_l3, hp_l4, hp_l5, hp_l7, hp_l8, hp_l10, hp_l17, hp_l20, hp_l24, hp_l48, hp_l50, hp_l55, hp_l127, hp_lm1, hp_eqN, hp_ltN, hp_inN, hp_cl, if_pos, if_neg, if_true, if_false, Option.bind_some, a0, e0, Nat.reduceAdd]
  · simp (disch := omega) only [hp_kN, nI_add, pk_mul, hp_isInN, hp_m1L, hp_l0, hp_l1, hp_l2, hp_l3, hp_l4, hp_l5, hp_l7, hp_l8, hp_l10, hp_l17, hp_l20, hp_l24, hp_l48, hp_l50, hp_l55, hp_l127, hp_lm1, hp_eqN, hp_ltN, hp_inN, hp_cl, if_pos, if_neg, if_true, if_false, Option.bind_some, a0, e0, Nat.reduceAdd]
    rw [F_X9_isRoomy_2_eq]
    by_cases c1 : y 9 1 < L 1
    · simp (disch := omega) only [hp_kN, nI_add, pk_mul, hp_isInN, hp_m1L, hp_l0, hp_l1, hp_l2, hp_l3, hp_l4, hp_l5, hp_l7, hp_l8, hp_l10, hp_l17, hp_l20, hp_l24, hp_l48, hp_l50, hp_l55, hp_l127, hp_lm1, hp_eqN, hp_ltN, hp_inN, hp_cl, if_pos, if_neg, if_true, if_false, Option.bind_some, a1, e1, Nat.reduceAdd]
    · simp (disch := omega) only [hp_kN, nI_add, pk_mul, hp_isInN, hp_m1L, hp_l0, hp_l1, hp_l2, hp_l3, hp_l4, hp_l5, hp_l7, hp_l8, hp_l10, hp_l17, hp_l20, hp_l24, hp_l48, hp_l50, hp_l55, hp_l127, hp_lm1, hp_eqN, hp_ltN, hp_inN, hp_cl, if_pos, if_neg, if_true, if_false, Option.bind_some, a1, e1, Nat.reduceAdd]
      rw [F_X9_isRoomy_2_eq]
      by_cases c2 : y 9 2 < L 2
      · simp (disch := omega) only [hp_kN, nI_add, pk_mul, hp_isInN, hp_m1L, hp_l0, hp_l1, hp_l2, hp_l3, hp_l4, hp_l5, hp_l7, hp_l8, hp_l10, hp_l17, hp_l20, hp_l24, hp_l48, hp_l50, hp_l55, hp_l127, hp_lm1, hp_eqN, hp_ltN, hp_inN, hp_cl, if_pos, if_neg, if_true, if_false, Option.bind_some, a2, e2, Nat.reduceAdd]
      · simp (disch := omega) only [hp_kN, nI_add, pk_mul, hp_isInN, hp_m1L, hp_l0, hp_l1, hp_l2, hp_l3, hp_l4, hp_l5, hp_l7, hp_l8, hp_l10, hp_l17, hp_l20, hp_l24, hp_l48, hp_l50, hp_l55, hp_l127, hp_lm1, hp_eqN, hp_ltN, hp_inN, hp_cl, if_pos, if_neg, if_true, if_false, Option.bind_some, a2, e2, Nat.reduceAdd]
        rw [F_X9_isRoomy_2_eq]
        simp (disch := omega) only [hp_kN, nI_add, pk_mul, hp_isInN, hp_m1L, hp_l0, hp_l1, hp_l2, hp_l3, hp_l4, hp_l5, hp_l7, hp_l8, hp_l10, hp_l17, hp_l20, hp_l24, hp_l48, hp_l50, hp_l55, hp_l127, hp_lm1, hp_eqN, hp_ltN, hp_inN, hp_cl, if_pos, if_neg, if_true, if_false, Option.bind_some, Nat.reduceAdd]
/-! the best one so far -/
def hq_BM (y : Nat → Nat → Nat) (B : Option (Nat → Nat)) (D : hy_M) : Prop := match B with
  | none => D 67 11 = -nI 1
  | some b => D 67 11 = nI (hq_st1 y b) ∧ D 67 12 = nI (y 0 0 + hq_on1 y b) ∧ ∀ w, w < y 0 0 → D 74 w = nI (b w)
theorem hq_BM_fr {y : Nat → Nat → Nat} {B : Option (Nat → Nat)} {D D1 : hy_M} (h : hq_BM y B D) (f1 : D1 67 11 = D 67 11) (f2 : D1 67 12 = D 67 12) (f3 : D1 74 = D 74) : hq_BM y B D1 := by
  cases B with
  | none => exact f1.trans h
  | some b => exact ⟨f1.trans h.1, f2.trans h.2.1, fun w hw => by rw [f3]; exact h.2.2 w hw⟩
def hq_hl (y : Nat → Nat → Nat) (B : Option (Nat → Nat)) (s o : Nat) : Nat := match B with
  | none => 0
  | some b => if hq_st1 y b < s then 1 else if s = hq_st1 y b then (if hq_on1 y b < o then 1 else 0) else 0
theorem hq_pcb {y : Nat → Nat → Nat} {b : Nat → Nat} (hb : ∀ w, w < y 0 0 → b w < 8) : hq_on1 y b ≤ y 0 0 * 3 := hp_sum_le _ _ 3 (fun j hj => of_decide_eq_true (hp_all1 hp_pc3_t (hb j hj)))
theorem hq_stb (y : Nat → Nat → Nat) (b : Nat → Nat) : hq_st1 y b ≤ 8 := hp_wd8 _
theorem hq_hlM (N : Nat) (hN : 10 ≤ N) {y : Nat → Nat → Nat} (hw : hp_WF y) {B : Option (Nat → Nat)} {v : Nat → Nat} {k : Nat} (hk : k < y 0 0) {D : hy_M} (m00 : D 68 0 = nI (y 0 0)) (hBb : ∀ b, B = some b → ∀ w, w < y 0 0 → b w < 8) (hB : hq_BM y B D) (h75 : ∀ j, j < y 0 0 → D 75 j = nI (hq_tu y j)) (hv : ∀ i, i ≤ k → D 73 (hq_tu y i) = nI (v (hq_tu y i)) ∧ v (hq_tu y i) < 8) : F_X9_isHopeless N (nI k) D = some (nI (hq_hl y B (hp_wd (hp_or (fun i => v (hq_tu y i)) (k + 1))) (hp_sum (fun i => hp_pc (v (hq_tu y i))) (k + 1))), D) := by
  have b0 := hw.1
  have l : ∀ m i f, i + m = k + 1 → m < f → F_X9_isHopeless_12 N f (nI k) (nI (hp_or (fun i => v (hq_tu y i)) i)) (nI (y 0 0 + hp_sum (fun i => hp_pc (v (hq_tu y i))) i)) (nI i) D = some (nI (hq_hl y B (hp_wd (hp_or (fun i => v (hq_tu y i)) (k + 1))) (hp_sum (fun i => hp_pc (v (hq_tu y i))) (k + 1))), D) := by
    intro m
    induction m with
    | zero =>
      intro i f e hf
      obtain ⟨f, rfl⟩ : ∃ f', f = f' + 1 := ⟨f - 1, by omega⟩
      have e : i = k + 1 := by omega
      subst e
      have o8 : hp_or (fun i => v (hq_tu y i)) (k + 1) < 8 := hp_or_lt _ (fun j hj => (hv j (by omega)).2)
      have s8 := hp_wd8 (hp_or (fun i => v (hq_tu y i)) (k + 1))
      have sb : hp_sum (fun i => hp_pc (v (hq_tu y i))) (k + 1) ≤ (k + 1) * 3 := hp_sum_le _ _ 3 (fun j hj => of_decide_eq_true (hp_all1 hp_pc3_t (hv j (by omega)).2))
      have k1 := hp_stM N o8 D
      rw [F_X9_isHopeless_12_eq, if_pos (by rw [hp_ltN (by omega) (by omega)]; omega), k1, Option.bind_some]
      generalize hp_wd (hp_or (fun i => v (hq_tu y i)) (k + 1)) = s at s8 ⊢
      generalize hp_sum (fun i => hp_pc (v (hq_tu y i))) (k + 1) = o at sb ⊢
      dsimp only
      clear hv h75
      cases B with
      | none =>
        have hB' : D 67 11 = -nI 1 := hB
        rw [if_pos (by rw [hB']; decide)]
        rfl
      | some b =>
        obtain ⟨h1, h2, -⟩ := hB
        have q1 := hq_stb y b
        have q2 := hq_pcb (hBb b rfl)
        clear hBb
        unfold hq_hl
        dsimp only
        by_cases c1 : hq_st1 y b < s
        · rw [if_pos c1]
          simp (disch := omega) only [hp_kN, nI_add, pk_mul, hp_isInN, hp_m1L, hp_l0, hp_l1, hp_l2, hp_l3, hp_l4, hp_l5, hp_l7, hp_l8, hp_l10, hp_l17, hp_l20, hp_l24, hp_l48, hp_l50, hp_l55, hp_l127, hp_lm1, hp_eqN, hp_ltN, hp_inN, hp_cl, if_pos, if_neg, if_true, if_false, Option.bind_some, h1]
        · rw [if_neg c1]
          by_cases c2 : s = hq_st1 y b
          · rw [if_pos c2]
            by_cases c3 : hq_on1 y b < o
            · rw [if_pos c3]
              simp (disch := omega) only [hp_kN, nI_add, pk_mul, hp_isInN, hp_m1L, hp_l0, hp_l1, hp_l2, hp_l3, hp_l4, hp_l5, hp_l7, hp_l8, hp_l10, hp_l17, hp_l20, hp_l24, hp_l48, hp_l50, hp_l55, hp_l127, hp_lm1, hp_eqN, hp_ltN, hp_inN, hp_cl, if_pos, if_neg, if_true, if_false, Option.bind_some, h1, h2]
            · rw [if_neg c3]
              simp (disch := omega) only [hp_kN, nI_add, pk_mul, hp_isInN, hp_m1L, hp_l0, hp_l1, hp_l2, hp_l3, hp_l4, hp_l5, hp_l7, hp_l8, hp_l10, hp_l17, hp_l20, hp_l24, hp_l48, hp_l50, hp_l55, hp_l127, hp_lm1, hp_eqN, hp_ltN, hp_inN, hp_cl, if_pos, if_neg, if_true, if_false, Option.bind_some, h1, h2]
          · rw [if_neg c2]
            simp (disch := omega) only [hp_kN, nI_add, pk_mul, hp_isInN, hp_m1L, hp_l0, hp_l1, hp_l2, hp_l3, hp_l4, hp_l5, hp_l7, hp_l8, hp_l10, hp_l17, hp_l20, hp_l24, hp_l48, hp_l50, hp_l55, hp_l127, hp_lm1, hp_eqN, hp_ltN, hp_inN, hp_cl, if_pos, if_neg, if_true, if_false, Option.bind_some, h1]
    | succ m ih =>
      intro i f e hf
      obtain ⟨f, rfl⟩ : ∃ f', f = f' + 1 := ⟨f - 1, by omega⟩
      have hi := ih (i + 1) f (by omega) (by omega)
      obtain ⟨a1, a2⟩ := hv i (by omega)
      have a3 := h75 i (by omega)
      have t8 := (hq_tu_f hw (k := i) (by omega)).1
      have o8 : hp_or (fun i => v (hq_tu y i)) i < 8 := hp_or_lt _ (fun j hj => (hv j (by omega)).2)
      have k1 := hp_on N hN (c := v (hq_tu y i)) (by omega) D
      have e1 : hp_or (fun i => v (hq_tu y i)) (i + 1) = hp_or (fun i => v (hq_tu y i)) i ||| v (hq_tu y i) := rfl
      have e2 : hp_sum (fun i => hp_pc (v (hq_tu y i))) (i + 1) = hp_sum (fun i => hp_pc (v (hq_tu y i))) i + hp_pc (v (hq_tu y i)) := rfl
      rw [e1, e2, ← Nat.add_assoc] at hi
      rw [← hi, F_X9_isHopeless_12_eq]
      clear ih hi hv h75 hB hBb
      simp (disch := omega) only [hp_kN, nI_add, pk_mul, hp_isInN, hp_m1L, hp_l0, hp_l1, hp_l2, hp_l3, hp_l4, hp_l5, hp_l7, hp_l8, hp_l10, hp_l17, hp_l20, hp_l24, hp_l48, hp_l50, hp_l55, hp_l127, hp_lm1, hp_eqN, hp_ltN, hp_inN, hp_cl, if_pos, if_neg, if_true, if_false, Option.bind_some, a3, a1, k1, hp_orL]
  rw [F_X9_isHopeless_eq, m00]
  exact l (k + 1) 0 N (by omega) (by omega)
theorem hq_wbM (N : Nat) (hN : 10 ≤ N) {y : Nat → Nat → Nat} (hw : hp_WF y) {v : Nat → Nat} {D0 : hy_M} (m00 : D0 68 0 = nI (y 0 0)) (hv : ∀ w, w < y 0 0 → D0 73 w = nI (v w) ∧ v w < 8) : ∃ D1, F_X9_isBest N D0 = some D1 ∧ hq_BM y (some v) D1 ∧ (∀ c, c ≠ 67 → c ≠ 74 → D1 c = D0 c) ∧ ∀ j, j ≠ 11 → j ≠ 12 → D1 67 j = D0 67 j := by
  have b0 := hw.1
  have l : ∀ m i f D, i + m = y 0 0 → m < f → D 67 12 = nI (y 0 0 + hp_sum (fun j => hp_pc (v j)) i) → (∀ w, w < i → D 74 w = nI (v w)) → (∀ c, c ≠ 67 → c ≠ 74 → D c = D0 c) → (∀ j, j ≠ 11 → j ≠ 12 → D 67 j = D0 67 j) → ∃ D1, F_X9_isBest_14 N f (nI (hp_or v i)) (nI i) D = some D1 ∧ hq_BM y (some v) D1 ∧ (∀ c, c ≠ 67 → c ≠ 74 → D1 c = D0 c) ∧ ∀ j, j ≠ 11 → j ≠ 12 → D1 67 j = D0 67 j := by
    intro m
    induction m with
    | zero =>
      intro i f D e hf h12 h74 hfr hfr2
      obtain ⟨f, rfl⟩ : ∃ f', f = f' + 1 := ⟨f - 1, by omega⟩
      have e : i = y 0 0 := by omega
      subst e
      have o8 : hp_or v (y 0 0) < 8 := hp_or_lt _ (fun j hj => (hv j hj).2)
      have z : D 68 0 = nI (y 0 0) := by rw [hfr 68 (by omega) (by omega)]; exact m00
      refine ⟨hy_w D 67 11 (nI (hq_st1 y v)), ?_, ⟨hp_ws _ _ _ _, by rw [hp_wn (Or.inr (by omega))]; exact h12, fun w hw0 => by rw [hy_w_ne (by omega)]; exact h74 w hw0⟩, fun c a b => by rw [hy_w_ne a]; exact hfr c a b, fun j a b => by rw [hp_wn (Or.inr a)]; exact hfr2 j a b⟩
      rw [F_X9_isBest_14_eq, z, if_neg (by rw [hp_ltN (by omega) (by omega)]; omega), hp_stM N o8 D, Option.bind_some]
      rfl
    | succ m ih =>
      intro i f D e hf h12 h74 hfr hfr2
      obtain ⟨f, rfl⟩ : ∃ f', f = f' + 1 := ⟨f - 1, by omega⟩
      obtain ⟨a1, a2⟩ := hv i (by omega)
      have a3 : D 73 i = nI (v i) := by rw [hfr 73 (by omega) (by omega)]; exact a1
      have z : D 68 0 = nI (y 0 0) := by rw [hfr 68 (by omega) (by omega)]; exact m00
      have o8 : hp_or v i < 8 := hp_or_lt _ (fun j hj => (hv j (by omega)).2)
      have k1 := hp_on N hN (c := v i) (by omega) (hy_w D 74 i (nI (v i)))
      obtain ⟨D1, e1, f1, f2, f3⟩ := ih (i + 1) f (hy_w (hy_w D 74 i (nI (v i))) 67 12 (nI (y 0 0 + hp_sum (fun j => hp_pc (v j)) (i + 1)))) (by omega) (by omega) (hp_ws _ _ _ _) (fun w hw0 => by
        rw [hp_wn (Or.inl (by omega))]
        by_cases q : w = i
        · rw [q, hp_ws]
        · rw [hp_wn (Or.inr q)]
          exact h74 w (by omega)) (fun c a b => by rw [hy_w_ne a, hy_w_ne b]; exact hfr c a b) (fun j a b => by rw [hp_wn (Or.inr b), hy_w_ne (by omega)]; exact hfr2 j a b)
      refine ⟨D1, ?_, f1, f2, f3⟩
      have es : hp_sum (fun j => hp_pc (v j)) (i + 1) = hp_sum (fun j => hp_pc (v j)) i + hp_pc (v i) := rfl
      have eo : hp_or v (i + 1) = hp_or v i ||| v i := rfl
      rw [es, ← Nat.add_assoc, eo] at e1
      rw [← e1, F_X9_isBest_14_eq]
      clear ih e1 f1 f2 f3 hfr hfr2 h74 hv
      simp (disch := omega) only [hp_kN, nI_add, pk_mul, hp_isInN, hp_m1L, hp_l0, hp_l1, hp_l2, hp_l3, hp_l4, hp_l5, hp_l7, hp_l8, hp_l10, hp_l17, hp_l20, hp_l24, hp_l48, hp_l50, hp_l55, hp_l127, hp_lm1, hp_eqN, hp_ltN, hp_inN, hp_cl, if_pos, if_neg, if_true, if_false, Option.bind_some, z, a3, hp_wn, k1, h12, hp_orL]
  obtain ⟨D1, e1, f1, f2, f3⟩ := l (y 0 0) 0 N (hy_w D0 67 12 (nI (y 0 0))) (by omega) (by omega) (hp_ws _ _ _ _) (fun w hw0 => absurd hw0 (by omega)) (fun c a b => hy_w_ne a) (fun j a b => hp_wn (Or.inr b))
  refine ⟨D1, ?_, f1, f2, f3⟩
  rw [F_X9_isBest_eq, m00]
  exact e1
theorem hq_ibM (N : Nat) (hN : 10 ≤ N) {y : Nat → Nat → Nat} (hw : hp_WF y) {B : Option (Nat → Nat)} {v : Nat → Nat} {D : hy_M} (m00 : D 68 0 = nI (y 0 0)) (hv : ∀ w, w < y 0 0 → D 73 w = nI (v w) ∧ v w < 8) (hBb : ∀ b, B = some b → ∀ w, w < y 0 0 → b w < 8) (hB : hq_BM y B D) : ∃ r, F_X9_isBetter N D = some (nI r, D) ∧ ((r = 1 ∧ ∀ b, B = some b → hq_bt y v b) ∨ (r = 0 ∧ ∃ b, B = some b ∧ ¬ hq_bt y v b)) := by
  have b0 := hw.1
  have v1 := hq_pcb (y := y) (fun w hw0 => (hv w hw0).2)
  have v2 := hq_stb y v
  have o8 : hp_or v (y 0 0) < 8 := hp_or_lt _ (fun j hj => (hv j hj).2)
  have l : ∀ m i f, i + m = y 0 0 → m < f → F_X9_isBetter_11 N f (nI (hp_or v i)) (nI (y 0 0 + hp_sum (fun j => hp_pc (v j)) i)) (nI i) D = F_X9_isBetter_11 N 1 (nI (hp_or v (y 0 0))) (nI (y 0 0 + hq_on1 y v)) (nI (y 0 0)) D := by
    intro m
    induction m with
    | zero =>
      intro i f e hf
      obtain ⟨f, rfl⟩ : ∃ f', f = f' + 1 := ⟨f - 1, by omega⟩
      have e : i = y 0 0 := by omega
      subst e
      have e1 : F_X9_isBetter_11 N 1 (nI (hp_or v (y 0 0))) (nI (y 0 0 + hq_on1 y v)) (nI (y 0 0)) D = F_X9_isBetter_11 N (0 + 1) (nI (hp_or v (y 0 0))) (nI (y 0 0 + hq_on1 y v)) (nI (y 0 0)) D := rfl
      rw [e1, F_X9_isBetter_11_eq, F_X9_isBetter_11_eq, m00, if_neg (by rw [hp_ltN (by omega) (by omega)]; omega), if_neg (by rw [hp_ltN (by omega) (by omega)]; omega)]
      rfl
    | succ m ih =>
      intro i f e hf
      obtain ⟨f, rfl⟩ : ∃ f', f = f' + 1 := ⟨f - 1, by omega⟩
      obtain ⟨a1, a2⟩ := hv i (by omega)
      have o8 : hp_or v i < 8 := hp_or_lt _ (fun j hj => (hv j (by omega)).2)
      have k1 := hp_on N hN (c := v i) (by omega) D
      have hi := ih (i + 1) f (by omega) (by omega)
      have es : hp_sum (fun j => hp_pc (v j)) (i + 1) = hp_sum (fun j => hp_pc (v j)) i + hp_pc (v i) := rfl
      have eo : hp_or v (i + 1) = hp_or v i ||| v i := rfl
      rw [es, ← Nat.add_assoc, eo] at hi
      rw [← hi, F_X9_isBetter_11_eq]
      clear ih hi hv hB hBb
      simp (disch := omega) only [hp_kN, nI_add, pk_mul, hp_isInN, hp_m1L, hp_l0, hp_l1, hp_l2, hp_l3, hp_l4, hp_l5, hp_l7, hp_l8, hp_l10, hp_l17, hp_l20, hp_l24, hp_l48, hp_l50, hp_l55, hp_l127, hp_lm1, hp_eqN, hp_ltN, hp_inN, hp_cl, if_pos, if_neg, if_true, if_false, Option.bind_some, m00, a1, k1, hp_orL]
  have l0 := l (y 0 0) 0 N (by omega) (by omega)
  have e0 : F_X9_isBetter N D = F_X9_isBetter_11 N (0 + 1) (nI (hp_or v (y 0 0))) (nI (y 0 0 + hq_on1 y v)) (nI (y 0 0)) D := by
    rw [F_X9_isBetter_eq, m00]
    exact l0
  have k0 := hp_stM N o8 D
  have e1 : hp_wd (hp_or v (y 0 0)) = hq_st1 y v := rfl
  rw [e1] at k0
  rw [e0, F_X9_isBetter_11_eq, m00, if_neg (by rw [hp_ltN (by omega) (by omega)]; omega), k0, Option.bind_some]
  dsimp only
  cases B with
  | none =>
    have hB' : D 67 11 = -nI 1 := hB
    refine ⟨1, ?_, Or.inl ⟨rfl, fun b hb => by cases hb⟩⟩
    obtain ⟨n, rfl⟩ : ∃ n, N = n + 1 := ⟨N - 1, by omega⟩
    rw [if_pos (by rw [hB']; decide), F_X9_isBetter_82_eq, if_pos (by rw [hB']; decide), F_X9_isBetter_114_eq]
    have e178 : F_X9_isBetter_178 (n + 1) D = some (nI 1, D) := by
      rw [F_X9_isBetter_178_eq, if_pos (by rw [hB']; decide)]
      rfl
    by_cases q : 0 < D 68 0
    · rw [if_pos q, if_pos (by rw [hB']; decide), e178]
    · rw [if_neg q, e178]
  | some b =>
    obtain ⟨h1, h2, h3⟩ := hB
    have q1 := hq_stb y b
    have q2 := hq_pcb (hBb b rfl)
    have n11 : ¬ D 67 11 < 0 := by
      rw [h1, show (0 : Int32) = nI 0 from rfl, hp_ltN (by omega) (by omega)]
      omega
    rw [if_neg n11]
    by_cases c1 : hq_st1 y v = hq_st1 y b
    · rw [if_pos (by rw [h1, c1]), F_X9_isBetter_82_eq, if_neg n11]
      by_cases c2 : hq_on1 y v = hq_on1 y b
      · rw [if_pos (by rw [h2, c2])]
        have ll : ∀ m i f, i + m = y 0 0 → m < f → (∀ j, j < i → v j = b j) → ∃ r, F_X9_isBetter_114 N f (nI i) D = some (nI r, D) ∧ ((r = 1 ∧ hq_lex (y 0 0) v b) ∨ (r = 0 ∧ ¬ hq_lex (y 0 0) v b)) := by
          intro m
          induction m with
          | zero =>
            intro i f e hf ha
            obtain ⟨f, rfl⟩ : ∃ f', f = f' + 1 := ⟨f - 1, by omega⟩
            refine ⟨0, ?_, Or.inr ⟨rfl, hq_lex_ir (fun w hw0 => ha w (by omega))⟩⟩
            rw [F_X9_isBetter_114_eq, m00, if_neg (by rw [hp_ltN (by omega) (by omega)]; omega), F_X9_isBetter_178_eq, if_neg n11]
            rfl
          | succ m ih =>
            intro i f e hf ha
            obtain ⟨f, rfl⟩ : ∃ f', f = f' + 1 := ⟨f - 1, by omega⟩
            obtain ⟨a1, a2⟩ := hv i (by omega)
            have a3 := h3 i (by omega)
            have a4 := hBb b rfl i (by omega)
            rw [F_X9_isBetter_114_eq]
            by_cases c3 : v i = b i
            · obtain ⟨r, er, hr⟩ := ih (i + 1) f (by omega) (by omega) (fun j hj => by
                by_cases z : j = i
                · rw [z, c3]
                · exact ha j (by omega))
              refine ⟨r, ?_, hr⟩
              rw [← er]
              rw [c3] at a1
              clear ih er hr hv h3 hBb ha
              simp (disch := omega) only [hp_kN, nI_add, pk_mul, hp_isInN, hp_m1L, hp_l0, hp_l1, hp_l2, hp_l3, hp_l4, hp_l5, hp_l7, hp_l8, hp_l10, hp_l17, hp_l20, hp_l24, hp_l48, hp_l50, hp_l55, hp_l127, hp_lm1, hp_eqN, hp_ltN, hp_inN, hp_cl, if_pos, if_neg, if_true, if_false, Option.bind_some, m00, h1, a1, a3, eq_self]
            · by_cases c4 : v i < b i
              · refine ⟨1, ?_, Or.inl ⟨rfl, ⟨i, by omega, ha, c4⟩⟩⟩
                clear ih hv h3 hBb ha
                simp (disch := omega) only [hp_kN, nI_add, pk_mul, hp_isInN, hp_m1L, hp_l0, hp_l1, hp_l2, hp_l3, hp_l4, hp_l5, hp_l7, hp_l8, hp_l10, hp_l17, hp_l20, hp_l24, hp_l48, hp_l50, hp_l55, hp_l127, hp_lm1, hp_eqN, hp_ltN, hp_inN, hp_cl, if_pos, if_neg, if_true, if_false, Option.bind_some, m00, h1, a1, a3]
              · refine ⟨0, ?_, Or.inr ⟨rfl, fun hlex => ?_⟩⟩
                · clear ih hv h3 hBb ha
                  simp (disch := omega) only [hp_kN, nI_add, pk_mul, hp_isInN, hp_m1L, hp_l0, hp_l1, hp_l2, hp_l3, hp_l4, hp_l5, hp_l7, hp_l8, hp_l10, hp_l17, hp_l20, hp_l24, hp_l48, hp_l50, hp_l55, hp_l127, hp_lm1, hp_eqN, hp_ltN, hp_inN, hp_cl, if_pos, if_neg, if_true, if_false, Option.bind_some, m00, h1, a1, a3]
                · have : hq_lex (y 0 0) b v := ⟨i, by omega, fun j hj => (ha j hj).symm, by omega⟩
                  exact hq_lex_ir (fun _ _ => rfl) (hq_lex_tr hlex this)
        obtain ⟨r, er, hr⟩ := ll (y 0 0) 0 N (by omega) (by omega) (fun j hj => absurd hj (by omega))
        refine ⟨r, er, ?_⟩
        rcases hr with ⟨r1, r2⟩ | ⟨r1, r2⟩
        · exact Or.inl ⟨r1, fun b' hb' => by
            injection hb' with hb'
            subst hb'
            exact Or.inr ⟨c1, Or.inr ⟨c2, r2⟩⟩⟩
        · refine Or.inr ⟨r1, b, rfl, ?_⟩
          rintro (z | ⟨_, z | ⟨_, z⟩⟩)
          · omega
          · omega
          · exact r2 z
      · rw [if_neg (by rw [h2, hp_eqN (by omega) (by omega)]; omega)]
        by_cases c3 : hq_on1 y v < hq_on1 y b
        · refine ⟨1, ?_, Or.inl ⟨rfl, fun b' hb' => by
            injection hb' with hb'
            subst hb'
            exact Or.inr ⟨c1, Or.inl c3⟩⟩⟩
          rw [if_pos (by rw [h2, hp_ltN (by omega) (by omega)]; omega)]
          rfl
        · refine ⟨0, ?_, Or.inr ⟨rfl, b, rfl, ?_⟩⟩
          · rw [if_neg (by rw [h2, hp_ltN (by omega) (by omega)]; omega)]
            rfl
          · rintro (z | ⟨_, z | ⟨z, _⟩⟩) <;> omega
    · rw [if_neg (by rw [h1, hp_eqN (by omega) (by omega)]; exact c1)]
      by_cases c3 : hq_st1 y v < hq_st1 y b
      · refine ⟨1, ?_, Or.inl ⟨rfl, fun b' hb' => by
          injection hb' with hb'
          subst hb'
          exact Or.inl c3⟩⟩
        rw [if_pos (by rw [h1, hp_ltN (by omega) (by omega)]; exact c3)]
        rfl
      · refine ⟨0, ?_, Or.inr ⟨rfl, b, rfl, ?_⟩⟩
        · rw [if_neg (by rw [h1, hp_ltN (by omega) (by omega)]; exact c3)]
          rfl
        · rintro (z | ⟨z, _⟩) <;> omega
theorem hq_laM (N : Nat) {y : Nat → Nat → Nat} (hw : hp_WF y) {v : Nat → Nat} {k : Nat} (hk1 : 1 ≤ k) (hk : k < y 0 0) {D : hy_M} (m28 : D 68 28 = nI (y 8 0)) (h75 : ∀ j, j < y 0 0 → D 75 j = nI (hq_tu y j)) (hv : D 73 (hq_tu y (k - 1)) = nI (v (hq_tu y (k - 1)))) : F_X9_lowAt N (nI k) D = some (nI (hq_low y v k), D) := by
  have b0 := hw.1
  have h6 := hw.2.2.2.2.2.1
  have a1 := h75 k hk
  have a2 := h75 (k - 1) (by omega)
  have t1 := (hq_tu_f hw hk).1
  have t2 := (hq_tu_f hw (k := k - 1) (by omega)).1
  clear h75
  rw [F_X9_lowAt_eq]
  unfold hq_low
  by_cases q : k = y 8 0
  · rw [if_pos (Or.inr q)]
    simp (disch := omega) only [hp_kN, nI_add, pk_mul, hp_isInN, hp_m1L, hp_l0, hp_l1, hp_l2, hp_l3, hp_l4, hp_l5, hp_l7, hp_l8, hp_l10, hp_l17, hp_l20, hp_l24, hp_l48, hp_l50, hp_l55, hp_l127, hp_lm1, hp_eqN, hp_ltN, hp_inN, hp_cl, if_pos, if_neg, if_true, if_false, Option.bind_some, m28]
  · rw [if_neg (show ¬ (k = 0 ∨ k = y 8 0) by omega)]
    by_cases q2 : hq_tu y k < hq_tu y (k - 1)
    · rw [if_pos q2]
      simp (disch := omega) only [hp_kN, nI_add, pk_mul, hp_isInN, hp_m1L, hp_l0, hp_l1, hp_l2, hp_l3, hp_l4, hp_l5, hp_l7, hp_l8, hp_l10, hp_l17, hp_l20, hp_l24, hp_l48, hp_l50, hp_l55, hp_l127, hp_lm1, hp_eqN, hp_ltN, hp_inN, hp_cl, if_pos, if_neg, if_true, if_false, Option.bind_some, m28, pk_sub, a1, a2, hv]
    · rw [if_neg q2]
      simp (disch := omega) only [hp_kN, nI_add, pk_mul, hp_isInN, hp_m1L, hp_l0, hp_l1, hp_l2, hp_l3, hp_l4, hp_l5, hp_l7, hp_l8, hp_l10, hp_l17, hp_l20, hp_l24, hp_l48, hp_l50, hp_l55, hp_l127, hp_lm1, hp_eqN, hp_ltN, hp_inN, hp_cl, if_pos, if_neg, if_true, if_false, Option.bind_some, m28, pk_sub, a1, a2, hv]
