/-! ===== image, undo ===== -/
theorem hp_bs {α : Type} (x : Option α) : x.bind (fun q => some q) = x := by cases x <;> rfl
theorem hp_CYf {b : Nat} {y : Nat → Nat → Nat} {pu : Int32} {D : hy_M} (hw : hp_WF y) (h : hp_CY b y pu D) : (∀ l, l < 5 → D (b + 17) l = nI (y 17 l)) ∧ (∀ l, l < 5 → ∀ j, j < y 17 l → D (b + 12 + l) j = nI (y (12 + l) j)) := by
  have hb := (hp_Wb hw).2.2.2.2.1
  refine ⟨fun l hl => hp_yb h (i := 17) hl (by omega), fun l hl j hj => ?_⟩
  have h8 : j < 8 := by have := hb l hl; omega
  have hu : hp_ub (12 + l) = 8 := by
    rcases (show l = 0 ∨ l = 1 ∨ l = 2 ∨ l = 3 ∨ l = 4 by omega) with rfl | rfl | rfl | rfl | rfl <;> rfl
  have := h.2 (12 + l) j ⟨by omega, fun _ _ => by rw [show 12 + l - 12 = l by omega]; exact hj⟩
  rw [show b + 12 + l = b + (12 + l) by omega]
  exact this
theorem hp_yc_s (N n : Nat) {i : Nat} (hi : i < 2) (D : hy_M) : F_X7_become_94 N (n + 1) (nI i) D = F_X7_become_94 N n (nI (i + 1)) (hy_w (hy_cp D (7 + i) (25 + i) 0 0 8) 27 i (D 9 i)) := by
  rw [F_X7_become_94_eq]
  simp (disch := omega) only [hp_kN, nI_add, pk_mul, hp_isInN, hp_m1L, hp_l0, hp_l1, hp_l2, hp_l3, hp_l4, hp_l5, hp_l7, hp_l8, hp_l10, hp_l17, hp_l20, hp_l24, hp_l48, hp_l50, hp_l55, hp_l127, hp_lm1, hp_eqN, hp_ltN, hp_inN, hp_cl, if_pos, if_neg, if_true, if_false, Option.bind_some, hp_pr6, hp_pr24, hp_wl7, hp_wl25, hp_rng, and_self, hp_cpn]
def hp_yc_E (D : hy_M) : hy_M := hy_cp (hy_cp (hy_cp (hy_cp (hy_w (hy_w (hy_w (hy_w D 19 0 (D 1 0)) 19 1 (D 1 1)) 19 2 (D 1 2)) 19 3 (D 1 3)) 2 20 0 0 8) 3 21 0 0 8) 4 22 0 0 8) 5 23 0 0 8
def hp_yc_G (D : hy_M) : hy_M := hy_cp (hy_w (hy_cp (hy_w (hy_cp D 7 25 0 0 8) 27 0 (D 9 0)) 8 26 0 0 8) 27 1 (D 9 1)) 10 28 0 0 3
theorem hp_yc_e (N : Nat) (hN : 10 ≤ N) (D : hy_M) {h : Nat} (hh : D 1 2 = nI h) (hh1 : h ≤ 1) : F_X7_become N D = F_X2_become_29_11 N (hp_yc_G (hp_yc_E D)) := by
  obtain ⟨N, rfl⟩ : ∃ n, N = n + 10 := ⟨N - 10, by omega⟩
  rw [F_X7_become_eq, if_pos]
  · have e : ∀ E : hy_M, F_X7_become_94 (N + 10) (N + 10) (nI 0) E = F_X2_become_29_11 (N + 10) (hp_yc_G E) := fun E => by
      rw [hp_yc_s (N + 10) (N + 9) (by omega), hp_yc_s (N + 10) (N + 8) (by omega), F_X7_become_94_eq]
      simp (disch := omega) only [hp_kN, nI_add, pk_mul, hp_isInN, hp_m1L, hp_l0, hp_l1, hp_l2, hp_l3, hp_l4, hp_l5, hp_l7, hp_l8, hp_l10, hp_l17, hp_l20, hp_l24, hp_l48, hp_l50, hp_l55, hp_l127, hp_lm1, hp_eqN, hp_ltN, hp_inN, hp_cl, if_pos, if_neg, if_true, if_false, Option.bind_some, hp_bs, hp_wn, hp_cpn]
      rfl
    rw [← e]
    unfold hp_yc_E
    simp (disch := omega) only [hp_wn]
    rfl
  · simp (disch := omega) only [hp_wn, hh]
    rcases (show h = 0 ∨ h = 1 by omega) with rfl | rfl
    · exact Or.inl rfl
    · exact Or.inr rfl
theorem hp_yc_p (D : hy_M) : (∀ i j, j < hp_ub i → i < 12 → hp_yc_G (hp_yc_E D) (19 + i) j = D (1 + i) j) ∧ hp_yc_G (hp_yc_E D) 19 3 = D 1 3 ∧ (∀ c, ¬ (19 ≤ c ∧ c < 29) → hp_yc_G (hp_yc_E D) c = D c) := by
  unfold hp_yc_G hp_yc_E
  refine ⟨fun i j hj hi => ?_, ?_, fun c hc => ?_⟩
  · rcases (show i = 0 ∨ i = 1 ∨ i = 2 ∨ i = 3 ∨ i = 4 ∨ i = 5 ∨ i = 6 ∨ i = 7 ∨ i = 8 ∨ i = 9 ∨ i = 10 ∨ i = 11 by omega) with rfl | rfl | rfl | rfl | rfl | rfl | rfl | rfl | rfl | rfl | rfl | rfl
    · have hj : j < 3 := hj
      rcases (show j = 0 ∨ j = 1 ∨ j = 2 by omega) with rfl | rfl | rfl <;> simp (disch := omega) only [hp_cp0, hp_cpn, hp_ws, hp_wn, if_pos, Nat.reduceAdd]
    · have hj : j < 8 := hj
      simp (disch := omega) only [hp_cp0, hp_cpn, hp_ws, hp_wn, if_pos, Nat.reduceAdd]
    · have hj : j < 8 := hj
      simp (disch := omega) only [hp_cp0, hp_cpn, hp_ws, hp_wn, if_pos, Nat.reduceAdd]
    · have hj : j < 8 := hj
      simp (disch := omega) only [hp_cp0, hp_cpn, hp_ws, hp_wn, if_pos, Nat.reduceAdd]
    · have hj : j < 8 := hj
      simp (disch := omega) only [hp_cp0, hp_cpn, hp_ws, hp_wn, if_pos, Nat.reduceAdd]
    · exact absurd (show j < 0 from hj) (by omega)
    · have hj : j < 8 := hj
      simp (disch := omega) only [hp_cp0, hp_cpn, hp_ws, hp_wn, if_pos, Nat.reduceAdd]
    · have hj : j < 8 := hj
      simp (disch := omega) only [hp_cp0, hp_cpn, hp_ws, hp_wn, if_pos, Nat.reduceAdd]
    · have hj : j < 2 := hj
      rcases (show j = 0 ∨ j = 1 by omega) with rfl | rfl <;> simp (disch := omega) only [hp_cp0, hp_cpn, hp_ws, hp_wn, if_pos, Nat.reduceAdd]
    · have hj : j < 3 := hj
      simp (disch := omega) only [hp_cp0, hp_cpn, hp_ws, hp_wn, if_pos, Nat.reduceAdd]
    · exact absurd (show j < 0 from hj) (by omega)
    · exact absurd (show j < 0 from hj) (by omega)
  · simp (disch := omega) only [hp_cp0, hp_cpn, hp_ws, hp_wn, if_pos]
  · simp (disch := omega) only [hp_cpn, hy_w_ne]
theorem hp_yc (N : Nat) (hN : 10 ≤ N) {y : Nat → Nat → Nat} {pu : Int32} {D : hy_M} (hw : hp_WF y) (h : hp_CY 1 y pu D) : ∃ D1, F_X7_become N D = some D1 ∧ hp_CY 19 y pu D1 ∧ ∀ c, ¬ (19 ≤ c ∧ c < 37) → D1 c = D c := by
  obtain ⟨b0, b1, b2, b8, b17, b9⟩ := hp_Wb hw
  obtain ⟨p1, p2, p3⟩ := hp_yc_p D
  obtain ⟨c1, c2⟩ := hp_CYf hw h
  have h2 : D 1 2 = nI (y 0 2) := hp_yb h (i := 0) (by decide) (by omega)
  obtain ⟨D1, e1, q1, q2, q3⟩ := hp_lb_29_11 N hN (y 17) (hp_yc_G (hp_yc_E D)) (fun l hl => by rw [p3 _ (by omega)]; exact c1 l hl) b17
  refine ⟨D1, ?_, ⟨?_, fun i j hd => ?_⟩, fun c hc => ?_⟩
  · rw [hp_yc_e N hN D h2 b2]
    exact e1
  · rw [q3 19 (by omega) (by omega), p2]
    exact h.1
  · by_cases i12 : i < 12
    · rw [q3 _ (by omega) (by omega), p1 i j hd.1 i12]
      exact h.2 i j hd
    · have h18 := (hp_ub_lt hd.1).1
      by_cases i17 : i = 17
      · subst i17
        exact q1 j hd.1
      · obtain ⟨l, rfl⟩ : ∃ l, i = 12 + l := ⟨i - 12, by omega⟩
        have hj : j < y 17 l := by
          have := hd.2 (by omega) (by omega)
          rw [show 12 + l - 12 = l by omega] at this
          exact this
        rw [show 19 + (12 + l) = 31 + l by omega, q2 l (by omega) j hj, p3 _ (by omega)]
        exact c2 l (by omega) j hj
  · rw [q3 c (by omega) (by omega), p3 c (by omega)]
theorem hp_yc_1_19_s (N n : Nat) {i : Nat} (hi : i < 2) (D : hy_M) : F_X7_become_1_19_94 N (n + 1) (nI i) D = F_X7_become_1_19_94 N n (nI (i + 1)) (hy_w (hy_cp D (25 + i) (7 + i) 0 0 8) 9 i (D 27 i)) := by
  rw [F_X7_become_1_19_94_eq]
  simp (disch := omega) only [hp_kN, nI_add, pk_mul, hp_isInN, hp_m1L, hp_l0, hp_l1, hp_l2, hp_l3, hp_l4, hp_l5, hp_l7, hp_l8, hp_l10, hp_l17, hp_l20, hp_l24, hp_l48, hp_l50, hp_l55, hp_l127, hp_lm1, hp_eqN, hp_ltN, hp_inN, hp_cl, if_pos, if_neg, if_true, if_false, Option.bind_some, hp_pr6, hp_pr24, hp_wl7, hp_wl25, hp_rng, and_self, hp_cpn]
def hp_yc_1_19_E (D : hy_M) : hy_M := hy_cp (hy_cp (hy_cp (hy_cp (hy_w (hy_w (hy_w (hy_w D 1 0 (D 19 0)) 1 1 (D 19 1)) 1 2 (D 19 2)) 1 3 (D 19 3)) 20 2 0 0 8) 21 3 0 0 8) 22 4 0 0 8) 23 5 0 0 8
def hp_yc_1_19_G (D : hy_M) : hy_M := hy_cp (hy_w (hy_cp (hy_w (hy_cp D 25 7 0 0 8) 9 0 (D 27 0)) 26 8 0 0 8) 9 1 (D 27 1)) 28 10 0 0 3
theorem hp_yc_1_19_e (N : Nat) (hN : 10 ≤ N) (D : hy_M) {h : Nat} (hh : D 19 2 = nI h) (hh1 : h ≤ 1) : F_X7_become_1_19 N D = F_X2_become_11_29 N (hp_yc_1_19_G (hp_yc_1_19_E D)) := by
  obtain ⟨N, rfl⟩ : ∃ n, N = n + 10 := ⟨N - 10, by omega⟩
  rw [F_X7_become_1_19_eq, if_pos]
  · have e : ∀ E : hy_M, F_X7_become_1_19_94 (N + 10) (N + 10) (nI 0) E = F_X2_become_11_29 (N + 10) (hp_yc_1_19_G E) := fun E => by
      rw [hp_yc_1_19_s (N + 10) (N + 9) (by omega), hp_yc_1_19_s (N + 10) (N + 8) (by omega), F_X7_become_1_19_94_eq]
      simp (disch := omega) only [hp_kN, nI_add, pk_mul, hp_isInN, hp_m1L, hp_l0, hp_l1, hp_l2, hp_l3, hp_l4, hp_l5, hp_l7, hp_l8, hp_l10, hp_l17, hp_l20, hp_l24, hp_l48, hp_l50, hp_l55, hp_l127, hp_lm1, hp_eqN, hp_ltN, hp_inN, hp_cl, if_pos, if_neg, if_true, if_false, Option.bind_some, hp_bs, hp_wn, hp_cpn]
      rfl
    rw [← e]
    unfold hp_yc_1_19_E
    simp (disch := omega) only [hp_wn]
    rfl
  · simp (disch := omega) only [hp_wn, hh]
    rcases (show h = 0 ∨ h = 1 by omega) with rfl | rfl
    · exact Or.inl rfl
    · exact Or.inr rfl
theorem hp_yc_1_19_p (D : hy_M) : (∀ i j, j < hp_ub i → i < 12 → hp_yc_1_19_G (hp_yc_1_19_E D) (1 + i) j = D (19 + i) j) ∧ hp_yc_1_19_G (hp_yc_1_19_E D) 1 3 = D 19 3 ∧ (∀ c, ¬ (1 ≤ c ∧ c < 11) → hp_yc_1_19_G (hp_yc_1_19_E D) c = D c) := by
  unfold hp_yc_1_19_G hp_yc_1_19_E
  refine ⟨fun i j hj hi => ?_, ?_, fun c hc => ?_⟩
  · rcases (show i = 0 ∨ i = 1 ∨ i = 2 ∨ i = 3 ∨ i = 4 ∨ i = 5 ∨ i = 6 ∨ i = 7 ∨ i = 8 ∨ i = 9 ∨ i = 10 ∨ i = 11 by omega) with rfl | rfl | rfl | rfl | rfl | rfl | rfl | rfl | rfl | rfl | rfl | rfl
    · have hj : j < 3 := hj
      rcases (show j = 0 ∨ j = 1 ∨ j = 2 by omega) with rfl | rfl | rfl <;> simp (disch := omega) only [hp_cp0, hp_cpn, hp_ws, hp_wn, if_pos, Nat.reduceAdd]
    · have hj : j < 8 := hj
      simp (disch := omega) only [hp_cp0, hp_cpn, hp_ws, hp_wn, if_pos, Nat.reduceAdd]
    · have hj : j < 8 := hj
      simp (disch := omega) only [hp_cp0, hp_cpn, hp_ws, hp_wn, if_pos, Nat.reduceAdd]
    · have hj : j < 8 := hj
      simp (disch := omega) only [hp_cp0, hp_cpn, hp_ws, hp_wn, if_pos, Nat.reduceAdd]
    · have hj : j < 8 := hj
      simp (disch := omega) only [hp_cp0, hp_cpn, hp_ws, hp_wn, if_pos, Nat.reduceAdd]
    · exact absurd (show j < 0 from hj) (by omega)
    · have hj : j < 8 := hj
      simp (disch := omega) only [hp_cp0, hp_cpn, hp_ws, hp_wn, if_pos, Nat.reduceAdd]
    · have hj : j < 8 := hj
      simp (disch := omega) only [hp_cp0, hp_cpn, hp_ws, hp_wn, if_pos, Nat.reduceAdd]
    · have hj : j < 2 := hj
      rcases (show j = 0 ∨ j = 1 by omega) with rfl | rfl <;> simp (disch := omega) only [hp_cp0, hp_cpn, hp_ws, hp_wn, if_pos, Nat.reduceAdd]
    · have hj : j < 3 := hj
      simp (disch := omega) only [hp_cp0, hp_cpn, hp_ws, hp_wn, if_pos, Nat.reduceAdd]
    · exact absurd (show j < 0 from hj) (by omega)
    · exact absurd (show j < 0 from hj) (by omega)
  · simp (disch := omega) only [hp_cp0, hp_cpn, hp_ws, hp_wn, if_pos]
  · simp (disch := omega) only [hp_cpn, hy_w_ne]
theorem hp_yc_1_19 (N : Nat) (hN : 10 ≤ N) {y : Nat → Nat → Nat} {pu : Int32} {D : hy_M} (hw : hp_WF y) (h : hp_CY 19 y pu D) : ∃ D1, F_X7_become_1_19 N D = some D1 ∧ hp_CY 1 y pu D1 ∧ ∀ c, ¬ (1 ≤ c ∧ c < 19) → D1 c = D c := by
  obtain ⟨b0, b1, b2, b8, b17, b9⟩ := hp_Wb hw
  obtain ⟨p1, p2, p3⟩ := hp_yc_1_19_p D
  obtain ⟨c1, c2⟩ := hp_CYf hw h
  have h2 : D 19 2 = nI (y 0 2) := hp_yb h (i := 0) (by decide) (by omega)
  obtain ⟨D1, e1, q1, q2, q3⟩ := hp_lb_11_29 N hN (y 17) (hp_yc_1_19_G (hp_yc_1_19_E D)) (fun l hl => by rw [p3 _ (by omega)]; exact c1 l hl) b17
  refine ⟨D1, ?_, ⟨?_, fun i j hd => ?_⟩, fun c hc => ?_⟩
  · rw [hp_yc_1_19_e N hN D h2 b2]
    exact e1
  · rw [q3 1 (by omega) (by omega), p2]
    exact h.1
  · by_cases i12 : i < 12
    · rw [q3 _ (by omega) (by omega), p1 i j hd.1 i12]
      exact h.2 i j hd
    · have h18 := (hp_ub_lt hd.1).1
      by_cases i17 : i = 17
      · subst i17
        exact q1 j hd.1
      · obtain ⟨l, rfl⟩ : ∃ l, i = 12 + l := ⟨i - 12, by omega⟩
        have hj : j < y 17 l := by
          have := hd.2 (by omega) (by omega)
          rw [show 12 + l - 12 = l by omega] at this
          exact this
        rw [show 1 + (12 + l) = 13 + l by omega, q2 l (by omega) j hj, p3 _ (by omega)]
        exact c2 l (by omega) j hj
  · rw [q3 c (by omega) (by omega), p3 c (by omega)]
theorem st_image (N : Nat) (hN : 100 ≤ N) : hp_step (F_X8_image N) (F_X9_image N) := by
  rintro ⟨y, pu, yk, pk, fl, T, P, tp, pp, ls, lc⟩ ⟨hw, hw1⟩
  obtain ⟨w1, w2, w3, w4, w5, w6, w7⟩ := hw1
  refine ⟨nI (y 0 0), (y, pu, y, pu, 1, T, P, tp, pp, ls, lc), ⟨hw, ⟨by omega, fun _ => hw, w3, w4, w5, w6, w7⟩⟩, fun D hX => ?_, fun D hR => ?_⟩
  · obtain ⟨D1, e1, h1, f1⟩ := hp_yc N (by omega) hw hX.1
    refine ⟨hy_w D1 0 2 (nI 1), ?_, ⟨hp_CY_fr hX.1 (fun c a b => by rw [hy_w_ne (by omega), f1 c (by omega)]), ?_⟩, fun c a b => by rw [hy_w_ne (by omega), f1 c (by omega)]⟩
    · rw [F_X8_image_eq]
      have x : D1 19 0 = nI (y 0 0) := hp_yb h1 (i := 0) (by decide) (by omega)
      simp (disch := omega) only [hp_kN, nI_add, pk_mul, hp_isInN, hp_m1L, hp_l0, hp_l1, hp_l2, hp_l3, hp_l4, hp_l5, hp_l7, hp_l8, hp_l10, hp_l17, hp_l20, hp_l24, hp_l48, hp_l50, hp_l55, hp_l127, hp_lm1, hp_eqN, hp_ltN, hp_inN, hp_cl, if_pos, if_neg, if_true, if_false, Option.bind_some, e1, hp_wn, x]
    · obtain ⟨k1, k2, k3, k4, k5, k6, k7, k8, k9⟩ := hX.2
      have hf : ∀ c, 37 ≤ c → hy_w D1 0 2 (nI 1) c = D c := fun c a => by rw [hy_w_ne (by omega), f1 c (by omega)]
      exact ⟨hp_ws _ _ _ _, fun _ => hp_CY_fr h1 (fun c a b => hy_w_ne (by omega)), by rw [hf 37 (by omega)]; exact k3, fun j hj => by rw [hf 38 (by omega)]; exact k4 j hj, by rw [hf 39 (by omega)]; exact k5, fun j hj => by rw [hf 40 (by omega)]; exact k6 j hj, fun l hl => ⟨by rw [hf 47 (by omega)]; exact (k7 l hl).1, fun j hj => by rw [hf (43 + l) (by omega)]; exact (k7 l hl).2 j hj⟩, fun t ht => by rw [hf 52 (by omega)]; exact k8 t ht, fun j hj => by rw [hf 1000 (by omega)]; exact k9 j hj⟩
  · obtain ⟨D1, e1, h1, f1⟩ := hp_mc_67_68_69 N hN D
    have x : D 68 0 = nI (y 0 0) := hp_mb hR.1 (i := 0) (j := 0) (by decide) (by omega) (by omega)
    refine ⟨hy_w D1 67 3 (nI 1), ?_, ⟨hp_MY_fr hR.1 (by rw [hy_w_ne (by omega), f1 68 (by omega)]), ?_⟩, fun c a => by rw [hy_w_ne (by omega), f1 c (by omega)]⟩
    · rw [F_X9_image_eq]
      have x : D1 68 0 = nI (y 0 0) := by rw [f1 68 (by omega)]; exact x
      simp (disch := omega) only [hp_kN, nI_add, pk_mul, hp_isInN, hp_m1L, hp_l0, hp_l1, hp_l2, hp_l3, hp_l4, hp_l5, hp_l7, hp_l8, hp_l10, hp_l17, hp_l20, hp_l24, hp_l48, hp_l50, hp_l55, hp_l127, hp_lm1, hp_eqN, hp_ltN, hp_inN, hp_cl, if_pos, if_neg, if_true, if_false, Option.bind_some, e1, hp_wn, x]
    · obtain ⟨k1, k2, k3, k4, k5, k6, k7, k8⟩ := hR.2
      have hf : ∀ c, c ≠ 67 → c ≠ 69 → hy_w D1 67 3 (nI 1) c = D c := fun c a b => by rw [hy_w_ne a, f1 c b]
      have hg : ∀ j, j ≠ 3 → hy_w D1 67 3 (nI 1) 67 j = D 67 j := fun j a => by rw [hp_wn (Or.inr a), f1 67 (by omega)]
      exact ⟨hp_ws _ _ _ _, fun _ => hp_MY_fr (hp_MY_cp hR.1 h1) (hy_w_ne (by omega)), by rw [hg 5 (by omega)]; exact k3, fun j hj => by rw [hf 71 (by omega) (by omega)]; exact k4 j hj, by rw [hg 16 (by omega)]; exact k5, fun j hj => by rw [hf 77 (by omega) (by omega)]; exact k6 j hj, fun l hl => ⟨by rw [hf 80 (by omega) (by omega)]; exact (k7 l hl).1, fun j hj => by rw [hf 79 (by omega) (by omega)]; exact (k7 l hl).2 j hj⟩, by rw [hg 14 (by omega)]; exact k8⟩
theorem st_undo (N : Nat) (hN : 100 ≤ N) : hp_step (F_X8_undo N) (F_X9_undo N) := by
  rintro ⟨y, pu, yk, pk, fl, T, P, tp, pp, ls, lc⟩ ⟨hw, hw1⟩
  have hfl := hw1.1
  by_cases c : fl = 0
  · subst c
    refine ⟨-3, _, ⟨hw, hw1⟩, hp_qx0 fun D hX => ?_, hp_qm0 fun D hR => ?_⟩
    · have x : D 0 2 = nI 0 := hX.2.1
      rw [F_X8_undo_eq]
      simp (disch := omega) only [hp_kN, nI_add, pk_mul, hp_isInN, hp_m1L, hp_l0, hp_l1, hp_l2, hp_l3, hp_l4, hp_l5, hp_l7, hp_l8, hp_l10, hp_l17, hp_l20, hp_l24, hp_l48, hp_l50, hp_l55, hp_l127, hp_lm1, hp_eqN, hp_ltN, hp_inN, hp_cl, if_pos, if_neg, if_true, if_false, Option.bind_some, x]
    · have x : D 67 3 = nI 0 := hR.2.1
      rw [F_X9_undo_eq]
      simp (disch := omega) only [hp_kN, nI_add, pk_mul, hp_isInN, hp_m1L, hp_l0, hp_l1, hp_l2, hp_l3, hp_l4, hp_l5, hp_l7, hp_l8, hp_l10, hp_l17, hp_l20, hp_l24, hp_l48, hp_l50, hp_l55, hp_l127, hp_lm1, hp_eqN, hp_ltN, hp_inN, hp_cl, if_pos, if_neg, if_true, if_false, Option.bind_some, x]
  · have c1 : fl = 1 := by omega
    subst c1
    have hwk : hp_WF yk := hw1.2.1 rfl
    refine ⟨nI (yk 0 0), (yk, pk, yk, pk, 1, T, P, tp, pp, ls, lc), ⟨hwk, hw1⟩, fun D hX => ?_, fun D hR => ?_⟩
    · obtain ⟨D1, e1, h1, f1⟩ := hp_yc_1_19 N (by omega) hwk (hX.2.2.1 rfl)
      refine ⟨D1, ?_, ⟨h1, hp_C1_fr hX.2 (fun c a => f1 c (by omega))⟩, fun c a b => f1 c (by omega)⟩
      have x : D 0 2 = nI 1 := hX.2.1
      have x0 : D1 1 0 = nI (yk 0 0) := hp_yb h1 (i := 0) (by decide) (by omega)
      rw [F_X8_undo_eq]
      simp (disch := omega) only [hp_kN, nI_add, pk_mul, hp_isInN, hp_m1L, hp_l0, hp_l1, hp_l2, hp_l3, hp_l4, hp_l5, hp_l7, hp_l8, hp_l10, hp_l17, hp_l20, hp_l24, hp_l48, hp_l50, hp_l55, hp_l127, hp_lm1, hp_eqN, hp_ltN, hp_inN, hp_cl, if_pos, if_neg, if_true, if_false, Option.bind_some, x, e1, x0]
    · obtain ⟨D1, e1, h1, f1⟩ := hp_mc_67_69_68 N hN D
      have hk : hp_MY 68 yk pk D1 := hp_MY_cp (hR.2.2.1 rfl) h1
      refine ⟨D1, ?_, ⟨hk, hp_M1_fr hR.2 (fun c a => f1 c (by omega)) (fun j a => by rw [f1 67 (by omega)])⟩, fun c a => f1 c (by omega)⟩
      have x : D 67 3 = nI 1 := hR.2.1
      have x0 : D1 68 0 = nI (yk 0 0) := hp_mb hk (i := 0) (j := 0) (by decide) (by omega) (by omega)
      rw [F_X9_undo_eq]
      simp (disch := omega) only [hp_kN, nI_add, pk_mul, hp_isInN, hp_m1L, hp_l0, hp_l1, hp_l2, hp_l3, hp_l4, hp_l5, hp_l7, hp_l8, hp_l10, hp_l17, hp_l20, hp_l24, hp_l48, hp_l50, hp_l55, hp_l127, hp_lm1, hp_eqN, hp_ltN, hp_inN, hp_cl, if_pos, if_neg, if_true, if_false, Option.bind_some, x, e1, x0]
