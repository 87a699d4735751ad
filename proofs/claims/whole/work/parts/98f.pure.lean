/-! ===== bounded codes: the class's pieces ===== -/
theorem hq_K_f {y : Nat → Nat → Nat} {s : Nat} {D D1 : hy_M} (h : hq_K y s D) (f : ∀ c, (c < 48 ∨ c = 49 ∨ c = 50) → D1 c = D c) (e : D1 48 1 = D 48 1) : hq_K y s D1 := by
  obtain ⟨h1, h2, h3, h4, h5, h6, h7, h8, h9, h10⟩ := h
  exact ⟨by rw [f 1 (by omega)]; exact h1, fun j hj => by rw [f 2 (by omega)]; exact h2 j hj, fun j hj => by rw [f 4 (by omega)]; exact h3 j hj, fun j hj => by rw [f 5 (by omega)]; exact h4 j hj, fun t ht j hj => by rw [f (7 + t) (by omega)]; exact h5 t ht j hj, fun t ht => by rw [f 9 (by omega)]; exact h6 t ht, fun t ht => by rw [f 10 (by omega)]; exact h7 t ht, by rw [e]; exact h8, fun i hi => by rw [f 49 (by omega)]; exact h9 i hi, fun j hj => by rw [f 50 (by omega)]; exact h10 j hj⟩
theorem hq_pc3 {c : Nat} (h : c < 8) : hp_pc c ≤ 3 := of_decide_eq_true (hp_all1 hp_pc3_t h)
def hq_OF (y : Nat → Nat → Nat) (s m : Nat) (o : Nat → Nat) : Prop := o (y 0 0) = 0 ∧ (∀ j, m ≤ j → j < y 0 0 → ∀ z, hp_ch y j ≤ z → z + hq_dl y j < hp_cnt (y 0 1) (2 ^ s) → o j ≤ o (j + 1) + hp_pc (hp_cor (y 0 1) z)) ∧ ∀ j, m ≤ j → j ≤ y 0 0 → o j ≤ 3 * (y 0 0 - j)
theorem hq_f31 (N : Nat) {y : Nat → Nat → Nat} (hw : hp_WF y) {s : Nat} (hs : s < 4) {D : hy_M} (hK : hq_K y s D) {w o1 : Nat} (h : w < y 0 0) (ho : D 53 (w + 1) = nI o1) (n17 : Nat) : ∀ m x f a, x + m = 9 → m < f → a ≤ 3 → ∃ a', a' ≤ a ∧ (∀ z, x ≤ z → z + hq_dl y w < hp_cnt (y 0 1) (2 ^ s) → a' ≤ hp_pc (hp_cor (y 0 1) z)) ∧ F_X0_foresee_31 N n17 f (nI w) (nI a) (nI x) D = F_X0_foresee_17 N n17 (nI w - 1) (hy_w D 53 w (nI (o1 + a'))) := by
  have b0 := hw.1
  have Rb := hq_R_b hw.2.1 hs
  have kg := hq_hgX N hw hK h
  have d7 : hq_dl y w ≤ 7 := by
    have := hq_ch_w hw h
    unfold hq_dl
    omega
  have k9 := hK.2.2.2.2.2.2.2.2.1
  have hm1 : nI w + -nI 1 = nI w - nI 1 := hq_m1 w
  clear hK
  intro m
  induction m with
  | zero =>
    intro x f a e hf ha
    obtain ⟨f, rfl⟩ : ∃ f', f = f' + 1 := ⟨f - 1, by omega⟩
    refine ⟨a, Nat.le_refl a, fun z h1 h2 => by omega, ?_⟩
    have hc := hq_hgc Rb.1 Rb.2 (d := hq_dl y w) (x := x) (by omega) (by omega)
    rw [F_X0_foresee_31_eq]
    clear k9
    simp (disch := omega) only [hp_kN, nI_add, pk_mul, hp_isInN, hp_m1L, hp_l0, hp_l1, hp_l2, hp_l3, hp_l4, hp_l5, hp_l7, hp_l8, hp_l10, hp_l17, hp_l20, hp_l24, hp_l48, hp_l50, hp_l55, hp_l127, hp_lm1, hp_eqN, hp_ltN, hp_inN, hp_cl, if_pos, if_neg, if_true, if_false, Option.bind_some, kg, hc, ho, hm1]
  | succ m ih =>
    intro x f a e hf ha
    obtain ⟨f, rfl⟩ : ∃ f', f = f' + 1 := ⟨f - 1, by omega⟩
    have hc := hq_hgc Rb.1 Rb.2 (d := hq_dl y w) (x := x) (by omega) (by omega)
    by_cases q : hp_cnt (y 0 1) (2 ^ s) ≤ x + hq_dl y w
    · refine ⟨a, Nat.le_refl a, fun z h1 h2 => by omega, ?_⟩
      rw [F_X0_foresee_31_eq]
      clear k9 ih
      simp (disch := omega) only [hp_kN, nI_add, pk_mul, hp_isInN, hp_m1L, hp_l0, hp_l1, hp_l2, hp_l3, hp_l4, hp_l5, hp_l7, hp_l8, hp_l10, hp_l17, hp_l20, hp_l24, hp_l48, hp_l50, hp_l55, hp_l127, hp_lm1, hp_eqN, hp_ltN, hp_inN, hp_cl, if_pos, if_neg, if_true, if_false, Option.bind_some, kg, hc, ho, hm1]
    · have cx := hq_cor hw.2.1 hs (i := x) (by omega)
      have z9 := k9 x (by omega)
      have kb := hp_bc N (c := hp_cor (y 0 1) x) (by omega) D
      have p3 := hq_pc3 cx.2.1
      obtain ⟨a', h1, h2, h3⟩ := ih (x + 1) f (if hp_pc (hp_cor (y 0 1) x) < a then hp_pc (hp_cor (y 0 1) x) else a) (by omega) (by omega) (by split <;> omega)
      refine ⟨a', ?_, fun z g1 g2 => ?_, ?_⟩
      · split at h1 <;> omega
      · by_cases ez : z = x
        · rw [ez]
          split at h1 <;> omega
        · exact h2 z (by omega) g2
      · rw [← h3, F_X0_foresee_31_eq]
        clear k9 ih h1 h2 h3
        by_cases q2 : hp_pc (hp_cor (y 0 1) x) < a
        · rw [if_pos q2]
          simp (disch := omega) only [hp_kN, nI_add, pk_mul, hp_isInN, hp_m1L, hp_l0, hp_l1, hp_l2, hp_l3, hp_l4, hp_l5, hp_l7, hp_l8, hp_l10, hp_l17, hp_l20, hp_l24, hp_l48, hp_l50, hp_l55, hp_l127, hp_lm1, hp_eqN, hp_ltN, hp_inN, hp_cl, if_pos, if_neg, if_true, if_false, Option.bind_some, kg, hc, z9, kb]
        · rw [if_neg q2]
          simp (disch := omega) only [hp_kN, nI_add, pk_mul, hp_isInN, hp_m1L, hp_l0, hp_l1, hp_l2, hp_l3, hp_l4, hp_l5, hp_l7, hp_l8, hp_l10, hp_l17, hp_l20, hp_l24, hp_l48, hp_l50, hp_l55, hp_l127, hp_lm1, hp_eqN, hp_ltN, hp_inN, hp_cl, if_pos, if_neg, if_true, if_false, Option.bind_some, kg, hc, z9, kb]
theorem hq_f17 (N : Nat) (hN : 100 ≤ N) {y : Nat → Nat → Nat} (hw : hp_WF y) {s : Nat} (hs : s < 4) : ∀ m f D o, m ≤ y 0 0 → m < f → hq_K y s D → hq_OF y s m o → (∀ j, m ≤ j → j ≤ y 0 0 → D 53 j = nI (o j)) → ∃ D1 o', F_X0_foresee_17 N f (nI m - 1) D = some D1 ∧ hq_OF y s 0 o' ∧ (∀ j, j ≤ y 0 0 → D1 53 j = nI (o' j)) ∧ ∀ c, c ≠ 53 → D1 c = D c := by
  have b0 := hw.1
  intro m
  induction m with
  | zero =>
    intro f D o hm hf hK ho h53
    obtain ⟨f, rfl⟩ : ∃ f', f = f' + 1 := ⟨f - 1, by omega⟩
    refine ⟨D, o, ?_, ho, fun j hj => h53 j (by omega) hj, fun _ _ => rfl⟩
    rw [F_X0_foresee_17_eq, if_pos (by decide)]
  | succ m ih =>
    intro f D o hm hf hK ho h53
    obtain ⟨f, rfl⟩ : ∃ f', f = f' + 1 := ⟨f - 1, by omega⟩
    have c7 := hq_ch_w hw (w := m) (by omega)
    have z50 := hK.2.2.2.2.2.2.2.2.2 m (by omega)
    obtain ⟨a', h1, h2, h3⟩ := hq_f31 N hw hs hK (w := m) (by omega) (h53 (m + 1) (Nat.le_refl _) hm) f (9 - hp_ch y m) (hp_ch y m) N 3 (by omega) (by omega) (Nat.le_refl 3)
    obtain ⟨D1, o', e1, g1, g2, g3⟩ := ih f (hy_w D 53 m (nI (o (m + 1) + a'))) (hq_up o m (o (m + 1) + a')) (by omega) (by omega) (hq_K_f hK (fun c hc => hy_w_ne (by omega)) (by rw [hy_w_ne (by omega)])) (by
      refine ⟨by rw [hq_up_n (by omega)]; exact ho.1, fun j h4 h5 z h6 h7 => ?_, fun j h4 h5 => ?_⟩
      · rw [hq_up_n (show j + 1 ≠ m by omega)]
        by_cases q : j = m
        · subst q
          rw [hq_up_s]
          have := h2 z h6 h7
          omega
        · rw [hq_up_n q]
          exact ho.2.1 j (by omega) h5 z h6 h7
      · by_cases q : j = m
        · subst q
          rw [hq_up_s]
          have := ho.2.2 (j + 1) (Nat.le_refl _) (by omega)
          omega
        · rw [hq_up_n q]
          exact ho.2.2 j (by omega) h5) (fun j h4 h5 => by
      by_cases q : j = m
      · subst q
        rw [hp_ws, hq_up_s]
      · rw [hp_wn (Or.inr q), hq_up_n q]
        exact h53 j (by omega) h5)
    refine ⟨D1, o', ?_, g1, g2, fun c hc => by rw [g3 c hc, hy_w_ne hc]⟩
    have h3' : F_X0_foresee_31 N f N (nI m) 3 (nI (hp_ch y m)) D = F_X0_foresee_17 N f (nI m - 1) (hy_w D 53 m (nI (o (m + 1) + a'))) := h3
    rw [hq_s1, F_X0_foresee_17_eq, if_neg (by rw [show (0 : Int32) = nI 0 from rfl, hp_ltN (by omega) (by omega)]; omega), if_pos (hp_in (by omega) (by omega)), hp_cl (by omega), z50, h3']
    exact e1
theorem hq_fsX (N : Nat) (hN : 100 ≤ N) {y : Nat → Nat → Nat} (hw : hp_WF y) {s : Nat} (hs : s < 4) {D : hy_M} (hK : hq_K y s D) : ∃ D1 o, F_X0_foresee N D = some D1 ∧ hq_OF y s 0 o ∧ (∀ j, j ≤ y 0 0 → D1 53 j = nI (o j)) ∧ ∀ c, c ≠ 53 → D1 c = D c := by
  have b0 := hw.1
  have z := hK.1
  obtain ⟨D1, o, e1, g1, g2, g3⟩ := hq_f17 N hN hw hs (y 0 0) N (hy_w D 53 (y 0 0) (nI 0)) (fun _ => 0) (Nat.le_refl _) (by omega) (hq_K_f hK (fun c hc => hy_w_ne (by omega)) (by rw [hy_w_ne (by omega)])) ⟨rfl, fun j h1 h2 => absurd h2 (by omega), fun j _ _ => Nat.zero_le _⟩ (fun j h1 h2 => by
    have : j = y 0 0 := by omega
    rw [this, hp_ws])
  refine ⟨D1, o, ?_, g1, g2, fun c hc => by rw [g3 c hc, hy_w_ne hc]⟩
  have z2 : hy_w D 53 (y 0 0) (0 : Int32) 1 0 = nI (y 0 0) := by rw [hp_wn (Or.inl (by omega))]; exact z
  rw [F_X0_foresee_eq, z, if_pos (hp_in (by omega) (by omega)), hp_cl (by omega), z2]
  exact e1
theorem hq_alX_l (N : Nat) {z : Nat} (hz : z < 8) (v : Int32) : ∀ m i f D, i + m = 3 → m < f → ∃ D1, F_X0_addLoad_2 N f (nI z) v (nI i) D = some D1 ∧ (∀ t, t < 3 → D1 52 t = if t < i then D 52 t else if hp_bit z t = 1 then D 52 t + v else D 52 t) ∧ (∀ t, 3 ≤ t → D1 52 t = D 52 t) ∧ ∀ c, c ≠ 52 → D1 c = D c := by
  intro m
  induction m with
  | zero =>
    intro i f D e hf
    obtain ⟨f, rfl⟩ : ∃ f', f = f' + 1 := ⟨f - 1, by omega⟩
    refine ⟨D, ?_, fun t ht => by rw [if_pos (by omega)], fun _ _ => rfl, fun _ _ => rfl⟩
    rw [F_X0_addLoad_2_eq, if_neg]
    rw [show (3 : Int32) = nI 3 from rfl, hp_ltN (by omega) (by omega)]
    omega
  | succ m ih =>
    intro i f D e hf
    obtain ⟨f, rfl⟩ : ∃ f', f = f' + 1 := ⟨f - 1, by omega⟩
    by_cases q : hp_bit z i = 1
    · obtain ⟨D1, e1, f1, f2, f3⟩ := ih (i + 1) f (hy_w D 52 i (D 52 i + v)) (by omega) (by omega)
      refine ⟨D1, ?_, fun t ht => ?_, fun t ht => by rw [f2 t ht, hp_wn (Or.inr (by omega))], fun c hc => by rw [f3 c hc, hy_w_ne hc]⟩
      · rw [← e1, F_X0_addLoad_2_eq]
        clear ih e1 f1 f2 f3
        simp (disch := omega) only [hp_kN, nI_add, pk_mul, hp_isInN, hp_m1L, hp_l0, hp_l1, hp_l2, hp_l3, hp_l4, hp_l5, hp_l7, hp_l8, hp_l10, hp_l17, hp_l20, hp_l24, hp_l48, hp_l50, hp_l55, hp_l127, hp_lm1, hp_eqN, hp_ltN, hp_inN, hp_cl, if_pos, if_neg, if_true, if_false, Option.bind_some, hp_bitI, q]
      · rw [f1 t ht]
        by_cases q2 : t = i
        · rw [q2, if_pos (by omega), hp_ws, if_neg (by omega), if_pos q]
        · rw [hp_wn (Or.inr q2)]
          by_cases q3 : t < i
          · rw [if_pos (by omega), if_pos q3]
          · rw [if_neg (by omega), if_neg q3]
    · obtain ⟨D1, e1, f1, f2, f3⟩ := ih (i + 1) f D (by omega) (by omega)
      refine ⟨D1, ?_, fun t ht => ?_, f2, f3⟩
      · rw [← e1, F_X0_addLoad_2_eq]
        clear ih e1 f1 f2 f3
        simp (disch := omega) only [hp_kN, nI_add, pk_mul, hp_isInN, hp_m1L, hp_l0, hp_l1, hp_l2, hp_l3, hp_l4, hp_l5, hp_l7, hp_l8, hp_l10, hp_l17, hp_l20, hp_l24, hp_l48, hp_l50, hp_l55, hp_l127, hp_lm1, hp_eqN, hp_ltN, hp_inN, hp_cl, if_pos, if_neg, if_true, if_false, Option.bind_some, hp_bitI, q]
      · rw [f1 t ht]
        by_cases q2 : t = i
        · rw [q2, if_pos (by omega), if_neg (by omega), if_neg q]
        · by_cases q3 : t < i
          · rw [if_pos (by omega), if_pos q3]
          · rw [if_neg (by omega), if_neg q3]
theorem hq_alX (N : Nat) (hN : 10 ≤ N) {z : Nat} (hz : z < 8) (v : Int32) (D : hy_M) : ∃ D1, F_X0_addLoad N (nI z) v D = some D1 ∧ (∀ t, t < 3 → D1 52 t = if hp_bit z t = 1 then D 52 t + v else D 52 t) ∧ (∀ t, 3 ≤ t → D1 52 t = D 52 t) ∧ ∀ c, c ≠ 52 → D1 c = D c := by
  obtain ⟨D1, e1, f1, f2, f3⟩ := hq_alX_l N hz v 3 0 N D rfl (by omega)
  refine ⟨D1, ?_, fun t ht => by rw [f1 t ht, if_neg (by omega)], f2, f3⟩
  rw [F_X0_addLoad_eq]
  exact e1
theorem hq_ftX (N : Nat) (hN : 10 ≤ N) {y : Nat → Nat → Nat} (hw : hp_WF y) {L : Nat → Nat} (hL4 : ∀ t, t < 3 → L t < 1000) {D : hy_M} (h10 : ∀ t, t < 3 → D 10 t = nI (y 9 t)) (hL : ∀ t, t < 3 → D 52 t = nI (L t)) : F_X0_loadsFit N D = some (nI (hq_rm y L), D) := by
  have b9 := hw.2.2.2.2.2.2.1
  have r0 := b9 0 (by omega)
  have r1 := b9 1 (by omega)
  have r2 := b9 2 (by omega)
  have l0 := hL4 0 (by omega)
  have l1 := hL4 1 (by omega)
  have l2 := hL4 2 (by omega)
  have a0 := hL 0 (by omega)
  have a1 := hL 1 (by omega)
  have a2 := hL 2 (by omega)
  have e0 := h10 0 (by omega)
  have e1 := h10 1 (by omega)
  have e2 := h10 2 (by omega)
  obtain ⟨N, rfl⟩ : ∃ n, N = n + 10 := ⟨N - 10, by omega⟩
  clear hL4 hL h10 b9
  rw [F_X0_loadsFit_eq, F_X0_loadsFit_2_eq]
  unfold hq_rm
  by_cases c0 : y 9 0 < L 0
  · simp (disch := omega) only [hp_kN, nI_add, pk_mul, hp_isInN, hp_m1L, hp_l0, hp_l1, hp_l2, hp_l3, hp_l4, hp_l5, hp_l7, hp_l8, hp_l10, hp_l17, hp_l20, hp_l24, hp_l48, hp_l50, hp_l55, hp_l127, hp_lm1, hp_eqN, hp_ltN, hp_inN, hp_cl, if_pos, if_neg, if_true, if_false, Option.bind_some, a0, e0, Nat.reduceAdd]
  · simp (disch := omega) only [hp_kN, nI_add, pk_mul, hp_isInN, hp_m1L, hp_l0, hp_l1, hp_l2, hp_l3, hp_l4, hp_l5, hp_l7, hp_l8, hp_l10, hp_l17, hp_l20, hp_l24, hp_l48, hp_l50, hp_l55, hp_l127, hp_lm1, hp_eqN, hp_ltN, hp_inN, hp_cl, if_pos, if_neg, if_true, if_false, Option.bind_some, a0, e0, Nat.reduceAdd]
    rw [F_X0_loadsFit_2_eq]
    by_cases c1 : y 9 1 < L 1
    · simp (disch := omega) only [hp_kN, nI_add, pk_mul, hp_isInN, hp_m1L, hp_l0, hp_l1, hp_l2, hp_l3, hp_l4, hp_l5, hp_l7, hp_l8, hp_l10, hp_l17, hp_l20, hp_l24, hp_l48, hp_l50, hp_l55, hp_l127, hp_lm1, hp_eqN, hp_ltN, hp_inN, hp_cl, if_pos, if_neg, if_true, if_false, Option.bind_some, a1, e1, Nat.reduceAdd]
    · simp (disch := omega) only [hp_kN, nI_add, pk_mul, hp_isInN, hp_m1L, hp_l0, hp_l1, hp_l2, hp_l3, hp_l4, hp_l5, hp_l7, hp_l8, hp_l10, hp_l17, hp_l20, hp_l24, hp_l48, hp_l50, hp_l55, hp_l127, hp_lm1, hp_eqN, hp_ltN, hp_inN, hp_cl, if_pos, if_neg, if_true, if_false, Option.bind_some, a1, e1, Nat.reduceAdd]
      rw [F_X0_loadsFit_2_eq]
      by_cases c2 : y 9 2 < L 2
      · simp (disch := omega) only [hp_kN, nI_add, pk_mul, hp_isInN, hp_m1L, hp_l0, hp_l1, hp_l2, hp_l3, hp_l4, hp_l5, hp_l7, hp_l8, hp_l10, hp_l17, hp_l20, hp_l24, hp_l48, hp_l50, hp_l55, hp_l127, hp_lm1, hp_eqN, hp_ltN, hp_inN, hp_cl, if_pos, if_neg, if_true, if_false, Option.bind_some, a2, e2, Nat.reduceAdd]
      · simp (disch := omega) only [hp_kN, nI_add, pk_mul, hp_isInN, hp_m1L, hp_l0, hp_l1, hp_l2, hp_l3, hp_l4, hp_l5, hp_l7, hp_l8, hp_l10, hp_l17, hp_l20, hp_l24, hp_l48, hp_l50, hp_l55, hp_l127, hp_lm1, hp_eqN, hp_ltN, hp_inN, hp_cl, if_pos, if_neg, if_true, if_false, Option.bind_some, a2, e2, Nat.reduceAdd]
        rw [F_X0_loadsFit_2_eq]
        simp (disch := omega) only [hp_kN, nI_add, pk_mul, hp_isInN, hp_m1L, hp_l0, hp_l1, hp_l2, hp_l3, hp_l4, hp_l5, hp_l7, hp_l8, hp_l10, hp_l17, hp_l20, hp_l24, hp_l48, hp_l50, hp_l55, hp_l127, hp_lm1, hp_eqN, hp_ltN, hp_inN, hp_cl, if_pos, if_neg, if_true, if_false, Option.bind_some, Nat.reduceAdd]
/-! ===== bounded codes: the class's way ===== -/
def hq_Ld (y : Nat → Nat → Nat) (r : Nat → Nat) (w t : Nat) : Nat := hp_sum (fun j => hq_ld (hp_cor (y 0 1) (r j)) (y 1 j) t) w
def hq_ow (y : Nat → Nat → Nat) (r : Nat → Nat) (w : Nat) : Nat := hp_sum (fun j => hp_pc (hp_cor (y 0 1) (r j))) w
def hq_pre (y : Nat → Nat → Nat) (w : Nat) (r c : Nat → Nat) : Prop := ∀ j, j < w → c j = hp_cor (y 0 1) (r j)
def hq_bl (y : Nat → Nat → Nat) (w : Nat) (r b : Nat → Nat) : Prop := ∃ i, i < w ∧ (∀ j, j < i → b j = hp_cor (y 0 1) (r j)) ∧ b i < hp_cor (y 0 1) (r i)
def hq_bO (y : Nat → Nat → Nat) (B : Option (Nat → Nat)) : Nat := match B with
  | none => 1000
  | some b => hq_on1 y b
def hq_BX (y : Nat → Nat → Nat) (B : Option (Nat → Nat)) (D : hy_M) : Prop := D 48 6 = nI (hq_bO y B) ∧ ∀ b, B = some b → ∀ j, j < y 0 0 → D 54 j = nI (b j)
def hq_Ev (y : Nat → Nat → Nat) (s w : Nat) (r : Nat → Nat) (B B' : Option (Nat → Nat)) : Prop := B' = B ∨ ∃ b', B' = some b' ∧ hq_okS y s b' ∧ hq_pre y w r b' ∧ ∀ b, B = some b → hq_bt1 y b' b
theorem hq_onlb {y : Nat → Nat → Nat} (hw : hp_WF y) {s : Nat} {o c : Nat → Nat} (ho : hq_OF y s 0 o) (hc : hq_okS y s c) : ∀ m k, k + m = y 0 0 → hp_sum (fun j => hp_pc (c j)) k + o k ≤ hq_on1 y c := by
  intro m
  induction m with
  | zero =>
    intro k e
    have e : k = y 0 0 := by omega
    rw [e, ho.1]
    exact Nat.le_refl _
  | succ m ih =>
    intro k e
    have h := ih (k + 1) (by omega)
    have a := ho.2.1 k (by omega) (by omega) (hp_cnt (y 0 1) (c k)) (hq_V2 hw hc.1 (by omega)) (hq_V3 hw hc (by omega))
    have b := hc.1.1 k (by omega)
    rw [hq_rank hw.2.1 b.1 b.2] at a
    have e2 : hp_sum (fun j => hp_pc (c j)) (k + 1) = hp_sum (fun j => hp_pc (c j)) k + hp_pc (c k) := rfl
    omega
theorem hq_c16 (N d : Nat) {y : Nat → Nat → Nat} (hw : hp_WF y) {s : Nat} (hs : s < 4) {r : Nat → Nat} (hr : ∀ j, j < y 0 0 → r j < hp_cnt (y 0 1) (2 ^ s)) : ∀ m i f D, i + m = y 0 0 → m < f → D 1 0 = nI (y 0 0) → (∀ j, j < y 0 0 → D 51 j = nI (r j)) → (∀ i, i < hp_cnt (y 0 1) (2 ^ s) → D 49 i = nI (hp_cor (y 0 1) i)) → (∀ j, j < i → D 54 j = nI (hp_cor (y 0 1) (r j))) → ∃ D1, F_X0_choose_16 N d f (nI i) D = some D1 ∧ (∀ j, j < y 0 0 → D1 54 j = nI (hp_cor (y 0 1) (r j))) ∧ ∀ c, c ≠ 54 → D1 c = D c := by
  have b0 := hw.1
  have Rb := hq_R_b hw.2.1 hs
  intro m
  induction m with
  | zero =>
    intro i f D e hf h1 h51 h49 h54
    obtain ⟨f, rfl⟩ : ∃ f', f = f' + 1 := ⟨f - 1, by omega⟩
    refine ⟨D, ?_, fun j hj => h54 j (by omega), fun _ _ => rfl⟩
    rw [F_X0_choose_16_eq, h1, if_neg]
    rw [hp_ltN (by omega) (by omega)]
    omega
  | succ m ih =>
    intro i f D e hf h1 h51 h49 h54
    obtain ⟨f, rfl⟩ : ∃ f', f = f' + 1 := ⟨f - 1, by omega⟩
    have ri := hr i (by omega)
    have a1 := h51 i (by omega)
    have a2 := h49 _ ri
    obtain ⟨D1, e1, f1, f2⟩ := ih (i + 1) f (hy_w D 54 i (nI (hp_cor (y 0 1) (r i)))) (by omega) (by omega) (by rw [hy_w_ne (by omega)]; exact h1) (fun j hj => by rw [hy_w_ne (by omega)]; exact h51 j hj) (fun j hj => by rw [hy_w_ne (by omega)]; exact h49 j hj) (fun j hj => by
      by_cases q : j = i
      · rw [q, hp_ws]
      · rw [hp_wn (Or.inr q)]
        exact h54 j (by omega))
    refine ⟨D1, ?_, f1, fun c hc => by rw [f2 c hc, hy_w_ne hc]⟩
    rw [← e1, F_X0_choose_16_eq]
    clear ih e1 f1 f2 h51 h49 h54 hr
    simp (disch := omega) only [hp_kN, nI_add, pk_mul, hp_isInN, hp_m1L, hp_l0, hp_l1, hp_l2, hp_l3, hp_l4, hp_l5, hp_l7, hp_l8, hp_l10, hp_l17, hp_l20, hp_l24, hp_l48, hp_l50, hp_l55, hp_l127, hp_lm1, hp_eqN, hp_ltN, hp_inN, hp_cl, if_pos, if_neg, if_true, if_false, Option.bind_some, h1, a1, a2]
