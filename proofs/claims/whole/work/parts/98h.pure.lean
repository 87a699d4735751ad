/-! ===== bounded, bind ===== -/
theorem hq_p2 {s : Nat} (hs : s < 4) : 2 ^ s ≤ 8 := by
  have : s = 0 ∨ s = 1 ∨ s = 2 ∨ s = 3 := by omega
  rcases this with rfl | rfl | rfl | rfl <;> decide
theorem hq_abX (N : Nat) (hN : 100 ≤ N) {b s : Nat} (hb : b < 4) (hs : s < 4) : ∀ m z f D, z + m = 2 ^ s → m < f → D 48 1 = nI (hp_cnt b z) → (∀ i, i < hp_cnt b z → D 49 i = nI (hp_cor b i)) → ∃ D1, F_X0_allowBelow_7 N f (nI b) (nI (2 ^ s)) (nI z) D = some D1 ∧ D1 48 1 = nI (hp_cnt b (2 ^ s)) ∧ (∀ i, i < hp_cnt b (2 ^ s) → D1 49 i = nI (hp_cor b i)) ∧ (∀ c, c ≠ 48 → c ≠ 49 → D1 c = D c) ∧ ∀ j, j ≠ 1 → D1 48 j = D 48 j := by
  have p8 := hq_p2 hs
  intro m
  induction m with
  | zero =>
    intro z f D e hf h1 h2
    obtain ⟨f, rfl⟩ : ∃ f', f = f' + 1 := ⟨f - 1, by omega⟩
    have e : z = 2 ^ s := by omega
    refine ⟨D, ?_, by rw [← e]; exact h1, fun i hi => h2 i (by rw [e]; exact hi), fun _ _ _ => rfl, fun _ _ => rfl⟩
    rw [F_X0_allowBelow_7_eq, if_neg]
    rw [hp_ltN (by omega) (by omega)]
    omega
  | succ m ih =>
    intro z f D e hf h1 h2
    obtain ⟨f, rfl⟩ : ∃ f', f = f' + 1 := ⟨f - 1, by omega⟩
    have cz := hp_cnt_le b z
    have km := hp_mayX N hb (c := z) (by omega) D
    have ec : hp_cnt b (z + 1) = hp_cnt b z + hp_may b z := rfl
    rcases hp_may01 b z with ma | ma
    · rw [ma] at ec km
      obtain ⟨D1, e1, f1⟩ := ih (z + 1) f D (by omega) (by omega) (by rw [ec]; exact h1) (fun i hi => h2 i (by omega))
      refine ⟨D1, ?_, f1⟩
      rw [← e1, F_X0_allowBelow_7_eq]
      clear ih e1 f1 h2
      simp (disch := omega) only [hp_kN, nI_add, pk_mul, hp_isInN, hp_m1L, hp_l0, hp_l1, hp_l2, hp_l3, hp_l4, hp_l5, hp_l7, hp_l8, hp_l10, hp_l17, hp_l20, hp_l24, hp_l48, hp_l50, hp_l55, hp_l127, hp_lm1, hp_eqN, hp_ltN, hp_inN, hp_cl, if_pos, if_neg, if_true, if_false, Option.bind_some, km]
    · rw [ma] at ec km
      have er := hq_rank hb (z := z) (by omega) ma
      obtain ⟨D1, e1, f1, f2, f3, f4⟩ := ih (z + 1) f (hy_w (hy_w D 49 (hp_cnt b z) (nI z)) 48 1 (nI (hp_cnt b z + 1))) (by omega) (by omega) (by rw [hp_ws, ec]) (fun i hi => by
        rw [hp_wn (Or.inl (by omega))]
        by_cases q : i = hp_cnt b z
        · rw [q, hp_ws, er]
        · rw [hp_wn (Or.inr q)]
          exact h2 i (by omega))
      refine ⟨D1, ?_, f1, f2, fun c p q => by rw [f3 c p q, hy_w_ne p, hy_w_ne q], fun j p => by rw [f4 j p, hp_wn (Or.inr p), hy_w_ne (by omega)]⟩
      rw [← e1, F_X0_allowBelow_7_eq]
      clear ih e1 f1 f2 f3 f4 h2
      simp (disch := omega) only [hp_kN, nI_add, pk_mul, hp_isInN, hp_m1L, hp_l0, hp_l1, hp_l2, hp_l3, hp_l4, hp_l5, hp_l7, hp_l8, hp_l10, hp_l17, hp_l20, hp_l24, hp_l48, hp_l50, hp_l55, hp_l127, hp_lm1, hp_eqN, hp_ltN, hp_inN, hp_cl, if_pos, if_neg, if_true, if_false, Option.bind_some, km, h1, hp_wn]
theorem hq_st_le {y : Nat → Nat → Nat} {s : Nat} (hs : s < 4) {c : Nat → Nat} (hc : ∀ w, w < y 0 0 → c w < 8) : hq_st1 y c ≤ s ↔ ∀ w, w < y 0 0 → c w < 2 ^ s := by
  unfold hq_st1
  rw [hq_wd_or (y 0 0) hc]
  exact ⟨fun h w hw => (hq_wd2 (hc w hw) hs).mp (h w hw), fun h w hw => (hq_wd2 (hc w hw) hs).mpr (h w hw)⟩
section
variable {y : Nat → Nat → Nat} {pu : Int32} {yk : Nat → Nat → Nat} {pk : Int32} {fl T P : Nat} {tp pp : Nat → Nat} {ls : Nat → Int32} {lc : Nat → Nat → Int32}
theorem hq_sS (N : Nat) (hN : 100 ≤ N) (hw : hp_WF y) {D0 : hy_M} (hX : hp_X (y, pu, yk, pk, fl, T, P, tp, pp, ls, lc) D0) : ∀ m s f D, s + m = 4 → m < f → hp_sc D0 D → (∀ j, j < y 0 0 → D 50 j = nI (hp_ch y j)) → D 48 6 = nI 1000 → (∀ s', s' < s → ∀ c, ¬ hq_okS y s' c) → ∃ r D1, F_X0_findBest_36 N f (nI s) D = some (nI r, D1) ∧ hp_sc D0 D1 ∧ ((r = 0 ∧ ∀ c, ¬ hq_okc y c) ∨ (r = 1 ∧ ∃ b, hq_best y b ∧ ∀ w, w < y 0 0 → D1 54 w = nI (b w))) := by
  have b0 := hw.1
  have b1 := hw.2.1
  intro m
  induction m with
  | zero =>
    intro s f D e hf hsc h50 h6 hno
    obtain ⟨f, rfl⟩ : ∃ f', f = f' + 1 := ⟨f - 1, by omega⟩
    have e : s = 4 := by omega
    subst e
    refine ⟨0, D, ?_, hsc, Or.inl ⟨rfl, fun c hc => hno 3 (by omega) c ⟨hc, fun w hw0 => (hc.1 w hw0).1⟩⟩⟩
    rw [F_X0_findBest_36_eq, if_pos (by decide), F_X0_findBest_80_eq, if_pos (by rw [h6]; rfl)]
    rfl
  | succ m ih =>
    intro s f D e hf hsc h50 h6 hno
    obtain ⟨f, rfl⟩ : ∃ f', f = f' + 1 := ⟨f - 1, by omega⟩
    have hs : s < 4 := by omega
    have hXD := hp_X_sc hX hsc
    obtain ⟨x00, x01, x02, x03, x1, x2, x3, x4, x6, x8, x9, x12, x17⟩ := hp_Xf hw hXD.1
    have x52 : ∀ t, t < 3 → D 52 t = 0 := hXD.2.2.2.2.2.2.2.2.1
    -- what may be
    obtain ⟨D1, e1, f1, f2, f3, f4⟩ := hq_abX N hN b1 hs (2 ^ s) 0 N (hy_w D 48 1 (nI 0)) (by omega) (by have := hq_p2 hs; omega) (hp_ws _ _ _ _) (fun i hi => absurd hi (by show ¬ i < 0; omega))
    have g1 : ∀ c, c ≠ 48 → c ≠ 49 → D1 c = D c := fun c p q => by rw [f3 c p q, hy_w_ne p]
    have hK1 : hq_K y s D1 := ⟨by rw [g1 1 (by omega) (by omega)]; exact x00, fun j hj => by rw [g1 2 (by omega) (by omega)]; exact x1 j hj, fun j hj => by rw [g1 4 (by omega) (by omega)]; exact x3 j hj, fun j hj => by rw [g1 5 (by omega) (by omega)]; exact x4 j hj, fun t ht j hj => by rw [g1 (7 + t) (by omega) (by omega)]; exact x6 t ht j hj, fun t ht => by rw [g1 9 (by omega) (by omega)]; exact x8 t ht, fun t ht => by rw [g1 10 (by omega) (by omega)]; exact x9 t ht, f1, f2, fun j hj => by rw [g1 50 (by omega) (by omega)]; exact h50 j hj⟩
    obtain ⟨D2, o, e2, k1, k2, k3⟩ := hq_fsX N hN hw hs hK1
    have hK2 : hq_K y s D2 := hq_K_f hK1 (fun c hc => k3 c (by omega)) (by rw [k3 48 (by omega)])
    have z6 : D2 48 6 = nI 1000 := by rw [k3 48 (by omega), f4 6 (by omega), hp_wn (Or.inr (by omega))]; exact h6
    have o24 := k1.2.2 0 (by omega) (by omega)
    obtain ⟨B, D3, e3, u1, u2, u3, u4, u5, u6⟩ := hq_chX N hN hw hs k1 (y 0 0) 0 10 D2 (fun _ => 0) none (by omega) (by omega) hK2 k2 (fun j hj => absurd hj (by omega)) ⟨fun j hj => absurd hj (by omega), fun i j hi => absurd hi (by omega)⟩ (fun t ht => by rw [k3 52 (by omega), g1 52 (by omega) (by omega)]; exact x52 t ht) (fun t _ => Nat.zero_le _) ⟨z6, fun b hb => by cases hb⟩ (fun b hb => by cases hb) (by show 0 + o 0 < 1000; omega)
    have sc3 : hp_sc D0 D3 := fun c hc => by
      by_cases q : c = 52
      · subst q
        have : D3 52 = D 52 := by
          funext t
          rw [u3 t, k3 52 (by omega), g1 52 (by omega) (by omega)]
        rw [this]
        exact hsc 52 (by omega)
      · rw [u1.1 c (by omega) (by omega) q (by omega), k3 c (by omega), g1 c (by omega) (by omega)]
        exact hsc c hc
    have e0 : F_X0_findBest_36 N (f + 1) (nI s) D = F_X0_findBest_36 N f (nI (s + 1)) D3 := by
      have ea : F_X0_allowBelow N (nI (y 0 1)) (nI (2 ^ s)) D = some D1 := by
        rw [F_X0_allowBelow_eq]
        exact e1
      have e3' : F_X0_choose N 10 (nI 0) (nI 0) D2 = some D3 := e3
      rw [F_X0_findBest_36_eq]
      clear ih hno u1 u2 u3 u4 u5 u6 k1 k2 k3 g1 f1 f2 f3 f4 hK1 hK2 x1 x2 x3 x4 x6 x8 x9 x12 x17 x52 h50 sc3 e3 e1 o24
      simp (disch := omega) only [hp_kN, nI_add, pk_mul, hp_isInN, hp_m1L, hp_l0, hp_l1, hp_l2, hp_l3, hp_l4, hp_l5, hp_l7, hp_l8, hp_l10, hp_l17, hp_l20, hp_l24, hp_l48, hp_l50, hp_l55, hp_l127, hp_lm1, hp_eqN, hp_ltN, hp_inN, hp_cl, if_pos, if_neg, if_true, if_false, Option.bind_some, h6, x01, hp_shl, ea, e2, e3', eq_self]
    rw [e0]
    cases B with
    | none =>
      refine ih (s + 1) f D3 (by omega) (by omega) sc3 (fun j hj => by rw [u1.1 50 (by omega) (by omega) (by omega) (by omega), k3 50 (by omega), g1 50 (by omega) (by omega)]; exact h50 j hj) u4.1 (fun s' hs' c hc => ?_)
      by_cases q : s' = s
      · subst q
        obtain ⟨b, hb, _⟩ := u6 c hc (fun j hj => absurd hj (by omega))
        cases hb
      · exact hno s' (by omega) c hc
    | some b =>
      have okb : hq_okS y s b := by
        rcases u5 with z | ⟨b', z1, z2, _, _⟩
        · cases z
        · injection z1 with z1
          rw [z1]
          exact z2
      have onb := hq_pcb (fun w hw0 => (okb.1.1 w hw0).1)
      have n6 : ¬ D3 48 6 = 1000 := by
        have : D3 48 6 = nI (hq_on1 y b) := u4.1
        rw [this, show (1000 : Int32) = nI 1000 from rfl, hp_eqN (by omega) (by omega)]
        omega
      refine ⟨1, D3, ?_, sc3, Or.inr ⟨rfl, b, ⟨okb.1, fun c hc => ?_⟩, fun w hw0 => u4.2 b rfl w hw0⟩⟩
      · obtain ⟨f, rfl⟩ : ∃ f', f = f' + 1 := ⟨f - 1, by omega⟩
        have e80 : F_X0_findBest_80 N D3 = some (nI 1, D3) := by
          rw [F_X0_findBest_80_eq, if_neg n6]
          rfl
        rw [F_X0_findBest_36_eq, if_neg n6, e80]
        split <;> rfl
      · have c8 : ∀ w, w < y 0 0 → c w < 8 := fun w hw0 => (hc.1 w hw0).1
        have sb : hq_st1 y b ≤ s := (hq_st_le hs (fun w hw0 => (okb.1.1 w hw0).1)).mpr okb.2
        rintro (z | ⟨z, z2⟩)
        · exact hno (hq_st1 y c) (by omega) c ⟨hc, (hq_st_le (by omega) c8).mp (Nat.le_refl _)⟩
        · obtain ⟨b', hb', h9⟩ := u6 c ⟨hc, (hq_st_le hs c8).mp (by omega)⟩ (fun j hj => absurd hj (by omega))
          injection hb' with hb'
          subst hb'
          exact h9 z2
theorem hq_fbX (N : Nat) (hN : 100 ≤ N) (hw : hp_WF y) {D : hy_M} (hX : hp_X (y, pu, yk, pk, fl, T, P, tp, pp, ls, lc) D) : ∃ r D1, F_X0_findBest N D = some (nI r, D1) ∧ hp_sc D D1 ∧ ((r = 0 ∧ ∀ c, ¬ hq_okc y c) ∨ (r = 1 ∧ ∃ b, hq_best y b ∧ ∀ w, w < y 0 0 → D1 54 w = nI (b w))) := by
  have b0 := hw.1
  have h1000 := hp_X1000 hX
  obtain ⟨x00, x01, x02, x03, x1, x2, x3, x4, x6, x8, x9, x12, x17⟩ := hp_Xf hw hX.1
  have l : ∀ m i f D1, i + m = y 0 0 → m < f → (∀ j, j < i → D1 50 j = nI (hp_ch y j)) → (∀ c, c ≠ 50 → D1 c = D c) → ∃ D2, F_X0_findBest_2 N f (nI i) D1 = F_X0_findBest_36 N N 0 (hy_w D2 48 6 1000) ∧ (∀ j, j < y 0 0 → D2 50 j = nI (hp_ch y j)) ∧ ∀ c, c ≠ 50 → D2 c = D c := by
    intro m
    induction m with
    | zero =>
      intro i f D1 e hf h50 hfr
      obtain ⟨f, rfl⟩ : ∃ f', f = f' + 1 := ⟨f - 1, by omega⟩
      refine ⟨D1, ?_, fun j hj => h50 j (by omega), hfr⟩
      rw [F_X0_findBest_2_eq, hfr 1 (by omega), x00, if_neg]
      rw [hp_ltN (by omega) (by omega)]
      omega
    | succ m ih =>
      intro i f D1 e hf h50 hfr
      obtain ⟨f, rfl⟩ : ∃ f', f = f' + 1 := ⟨f - 1, by omega⟩
      have kc := hp_chwX N (by omega) hw (D := D1) (fun t ht j hj => by rw [hfr (7 + t) (by omega)]; exact x6 t ht j hj) (fun j hj => by rw [hfr 4 (by omega)]; exact x3 j hj) (fun j hj => by rw [hfr 5 (by omega)]; exact x4 j hj) (fun j hj => by rw [hfr 1000 (by omega)]; exact h1000 j hj) (w := i) (by omega)
      obtain ⟨D2, e2, g1, g2⟩ := ih (i + 1) f (hy_w D1 50 i (nI (hp_ch y i))) (by omega) (by omega) (fun j hj => by
        by_cases q : j = i
        · rw [q, hp_ws]
        · rw [hp_wn (Or.inr q)]
          exact h50 j (by omega)) (fun c hc => by rw [hy_w_ne hc, hfr c hc])
      refine ⟨D2, ?_, g1, g2⟩
      rw [← e2, F_X0_findBest_2_eq, hfr 1 (by omega), x00, if_pos (by rw [hp_ltN (by omega) (by omega)]; omega), kc, Option.bind_some, if_pos (hp_in (by omega) (by omega)), hp_cl (by omega), hp_inc]
  obtain ⟨D2, e2, g1, g2⟩ := l (y 0 0) 0 N D (by omega) (by omega) (fun j hj => absurd hj (by omega)) (fun _ _ => rfl)
  obtain ⟨r, D3, e3, s1, s2⟩ := hq_sS N hN hw hX 4 0 N (hy_w D2 48 6 (nI 1000)) rfl (by omega) (fun c hc => by rw [hy_w_ne (by omega), g2 c (by omega)]) (fun j hj => by rw [hy_w_ne (by omega)]; exact g1 j hj) (hp_ws _ _ _ _) (fun s' hs' => absurd hs' (by omega))
  refine ⟨r, D3, ?_, s1, s2⟩
  rw [F_X0_findBest_eq]
  exact e2.trans e3
theorem hq_X1 (N : Nat) (hN : 100 ≤ N) (hw : hp_WF y) {D : hy_M} (hX : hp_X (y, pu, yk, pk, fl, T, P, tp, pp, ls, lc) D) {b : Nat → Nat} (hb : hq_best y b) : ∃ D1, F_X0_findBest N D = some (nI 1, D1) ∧ hp_sc D D1 ∧ ∀ w, w < y 0 0 → D1 54 w = nI (b w) := by
  obtain ⟨r, D1, e1, s1, h⟩ := hq_fbX N hN hw hX
  rcases h with ⟨_, h⟩ | ⟨rfl, b', h1, h2⟩
  · exact absurd hb.1 (h b)
  · exact ⟨D1, e1, s1, fun w hw0 => by rw [h2 w hw0, hq_best_u h1 hb w hw0]⟩
theorem hq_X0 (N : Nat) (hN : 100 ≤ N) (hw : hp_WF y) {D : hy_M} (hX : hp_X (y, pu, yk, pk, fl, T, P, tp, pp, ls, lc) D) (hb : ¬ ∃ b, hq_best y b) : ∃ D1, F_X0_findBest N D = some (nI 0, D1) ∧ hp_sc D D1 := by
  obtain ⟨r, D1, e1, s1, h⟩ := hq_fbX N hN hw hX
  rcases h with ⟨rfl, _⟩ | ⟨_, b', h1, _⟩
  · exact ⟨D1, e1, s1⟩
  · exact absurd ⟨b', h1⟩ hb
theorem hq_M1 (N : Nat) (hN : 1000000000 ≤ N) (hw : hp_WF y) {D : hy_M} (hM : hp_MY 68 y pu D) {b : Nat → Nat} (hb : hq_best y b) : ∃ D1, F_X9_findBounded N D = some D1 ∧ hq_F D D1 ∧ D1 67 11 = nI (hq_st1 y b) ∧ D1 67 12 = nI (y 0 0 + hq_on1 y b) ∧ ∀ w, w < y 0 0 → D1 74 w = nI (b w) := by
  obtain ⟨B, D1, e1, s1, s2, s3⟩ := hq_fbM N hN hw hM
  cases B with
  | none => exact absurd hb.1 (s3 b)
  | some b' =>
    have u := hq_best_u (b := b') (b' := b) s3 hb
    obtain ⟨q1, q2, q3⟩ := s2
    exact ⟨D1, e1, s1, by rw [q1, hq_st1_c u], by rw [q2, hq_on1_c u], fun w hw0 => by rw [q3 w hw0, u w hw0]⟩
theorem hq_M0 (N : Nat) (hN : 1000000000 ≤ N) (hw : hp_WF y) {D : hy_M} (hM : hp_MY 68 y pu D) (hb : ¬ ∃ b, hq_best y b) : ∃ D1, F_X9_findBounded N D = some D1 ∧ hq_F D D1 ∧ D1 67 11 = -nI 1 := by
  obtain ⟨B, D1, e1, s1, s2, s3⟩ := hq_fbM N hN hw hM
  cases B with
  | none => exact ⟨D1, e1, s1, s2⟩
  | some b' => exact absurd ⟨b', s3⟩ hb
end
theorem st_bounded (N : Nat) (hN : 1000000000 ≤ N) (v : Int32) : hp_step (F_X8_bounded N v) (F_X9_bounded N v) := by
  rintro ⟨y, pu, yk, pk, fl, T, P, tp, pp, ls, lc⟩ ⟨hw, hw1⟩
  obtain ⟨b0, b1, b2, b8, b17, b9⟩ := hp_Wb hw
  rcases hp_arg v with ⟨a0, a1, a2⟩ | ⟨k, hk, rfl⟩
  · refine ⟨-1, _, ⟨hw, hw1⟩, hp_qx0 fun D hX => ?_, hp_qm0 fun D hR => ?_⟩
    · have z1 : v < (10 : Int32) := by
        rw [Int32.lt_iff_toInt_lt]
        have : (10 : Int32).toInt = 10 := rfl
        omega
      have z2 : v ≠ 0 := fun e => by rw [e] at a2; exact absurd a2 (by decide)
      have z3 : v ≠ 1 := fun e => by rw [e] at a2; exact absurd a2 (by decide)
      rw [F_X8_bounded_eq, if_pos z1, F_X8_bounded_25_eq, if_neg z2, if_neg z3, if_pos rfl]
    · obtain ⟨m00, m01, m02, m03, m4, m12, m20, m30, m28, m46, m70, m51, m67, m49⟩ := hp_Mf hw hR.1
      rw [F_X9_bounded_eq, hp_isIng N a2 0 _ (by decide), Option.bind_some, if_pos (show nI 0 = 0 from rfl), hp_isIng N a2 10 _ (by decide)]
      rfl
  have hsm : ∀ {D D1 : hy_M}, hq_F D D1 → hp_sm D D1 := fun h => hq_F_sm h
  by_cases cin : k = 0 ∨ k = 1 ∨ (10 ≤ k ∧ k - 10 < y 0 0)
  case neg =>
    refine ⟨-1, _, ⟨hw, hw1⟩, hp_qx0 fun D hX => ?_, hp_qm0 fun D hR => ?_⟩
    · obtain ⟨x00, x01, x02, x03, x1, x2, x3, x4, x6, x8, x9, x12, x17⟩ := hp_Xf hw hX.1
      rw [F_X8_bounded_eq]
      by_cases c3 : k < 10
      · have c0 : k ≠ 0 := by omega
        have c1 : k ≠ 1 := by omega
        clear cin
        simp (disch := omega) only [hp_kN, nI_add, pk_mul, hp_isInN, hp_m1L, hp_l0, hp_l1, hp_l2, hp_l3, hp_l4, hp_l5, hp_l7, hp_l8, hp_l10, hp_l17, hp_l20, hp_l24, hp_l48, hp_l50, hp_l55, hp_l127, hp_lm1, hp_eqN, hp_ltN, hp_inN, hp_cl, if_pos, if_neg, if_true, if_false, Option.bind_some, F_X8_bounded_25_eq]
      · have k3 := hp_X_hasWagon N (k := k - 10) (by omega) b0 D x00
        rw [if_neg (by omega)] at k3
        simp (disch := omega) only [hp_kN, nI_add, pk_mul, hp_isInN, hp_m1L, hp_l0, hp_l1, hp_l2, hp_l3, hp_l4, hp_l5, hp_l7, hp_l8, hp_l10, hp_l17, hp_l20, hp_l24, hp_l48, hp_l50, hp_l55, hp_l127, hp_lm1, hp_eqN, hp_ltN, hp_inN, hp_cl, if_pos, if_neg, if_true, if_false, Option.bind_some, pk_sub, k3, F_X8_bounded_25_eq]
    · obtain ⟨m00, m01, m02, m03, m4, m12, m20, m30, m28, m46, m70, m51, m67, m49⟩ := hp_Mf hw hR.1
      have k4 : (nI (9 + y 0 0)).toInt64.toInt = (9 + y 0 0 : Nat) := by
        rw [← hp_ti (show 9 + y 0 0 < 2147483648 by omega)]
        simp
      rw [F_X9_bounded_eq]
      simp (disch := omega) only [hp_kN, nI_add, pk_mul, hp_isInN, hp_m1L, hp_l0, hp_l1, hp_l2, hp_l3, hp_l4, hp_l5, hp_l7, hp_l8, hp_l10, hp_l17, hp_l20, hp_l24, hp_l48, hp_l50, hp_l55, hp_l127, hp_lm1, hp_eqN, hp_ltN, hp_inN, hp_cl, if_pos, if_neg, if_true, if_false, Option.bind_some, m00, k4]
  have mB : ∀ D D1, hp_R (y, pu, yk, pk, fl, T, P, tp, pp, ls, lc) D → ∀ r, F_X9_bounded_33 N (nI k) D = some (r, D1) → F_X9_bounded N (nI k) D = some (r, D1) := fun D D1 hR r h => by
    obtain ⟨m00, m01, m02, m03, m4, m12, m20, m30, m28, m46, m70, m51, m67, m49⟩ := hp_Mf hw hR.1
    have k4 : (nI (9 + y 0 0)).toInt64.toInt = (9 + y 0 0 : Nat) := by
      rw [← hp_ti (show 9 + y 0 0 < 2147483648 by omega)]
      simp
    rw [F_X9_bounded_eq]
    clear m4 m12 m20 m30 m28 m46 m70 m51 m67 m49
    by_cases c01 : k ≤ 1
    · simp (disch := omega) only [hp_kN, nI_add, pk_mul, hp_isInN, hp_m1L, hp_l0, hp_l1, hp_l2, hp_l3, hp_l4, hp_l5, hp_l7, hp_l8, hp_l10, hp_l17, hp_l20, hp_l24, hp_l48, hp_l50, hp_l55, hp_l127, hp_lm1, hp_eqN, hp_ltN, hp_inN, hp_cl, if_pos, if_neg, if_true, if_false, Option.bind_some, h]
    · simp (disch := omega) only [hp_kN, nI_add, pk_mul, hp_isInN, hp_m1L, hp_l0, hp_l1, hp_l2, hp_l3, hp_l4, hp_l5, hp_l7, hp_l8, hp_l10, hp_l17, hp_l20, hp_l24, hp_l48, hp_l50, hp_l55, hp_l127, hp_lm1, hp_eqN, hp_ltN, hp_inN, hp_cl, if_pos, if_neg, if_true, if_false, Option.bind_some, m00, k4, h]
  have xB : ∀ D D1, hp_X (y, pu, yk, pk, fl, T, P, tp, pp, ls, lc) D → ∀ r, F_X8_bounded_41 N (nI k) (nI (if k < 10 then 0 else 1)) D = some (r, D1) → F_X8_bounded N (nI k) D = some (r, D1) := fun D D1 hX r h => by
    obtain ⟨x00, x01, x02, x03, x1, x2, x3, x4, x6, x8, x9, x12, x17⟩ := hp_Xf hw hX.1
    rw [F_X8_bounded_eq]
    by_cases c3 : k < 10
    · rw [if_pos c3] at h
      have c01 : k = 0 ∨ k = 1 := by omega
      clear x1 x2 x3 x4 x6 x8 x9 x12 x17 cin
      rcases c01 with rfl | rfl
      · simp (disch := omega) only [hp_kN, nI_add, pk_mul, hp_isInN, hp_m1L, hp_l0, hp_l1, hp_l2, hp_l3, hp_l4, hp_l5, hp_l7, hp_l8, hp_l10, hp_l17, hp_l20, hp_l24, hp_l48, hp_l50, hp_l55, hp_l127, hp_lm1, hp_eqN, hp_ltN, hp_inN, hp_cl, if_pos, if_neg, if_true, if_false, Option.bind_some, F_X8_bounded_25_eq, h]
      · simp (disch := omega) only [hp_kN, nI_add, pk_mul, hp_isInN, hp_m1L, hp_l0, hp_l1, hp_l2, hp_l3, hp_l4, hp_l5, hp_l7, hp_l8, hp_l10, hp_l17, hp_l20, hp_l24, hp_l48, hp_l50, hp_l55, hp_l127, hp_lm1, hp_eqN, hp_ltN, hp_inN, hp_cl, if_pos, if_neg, if_true, if_false, Option.bind_some, F_X8_bounded_25_eq, h]
    · rw [if_neg c3] at h
      have k3 := hp_X_hasWagon N (k := k - 10) (by omega) b0 D x00
      rw [if_pos (by omega)] at k3
      clear x1 x2 x3 x4 x6 x8 x9 x12 x17
      simp (disch := omega) only [hp_kN, nI_add, pk_mul, hp_isInN, hp_m1L, hp_l0, hp_l1, hp_l2, hp_l3, hp_l4, hp_l5, hp_l7, hp_l8, hp_l10, hp_l17, hp_l20, hp_l24, hp_l48, hp_l50, hp_l55, hp_l127, hp_lm1, hp_eqN, hp_ltN, hp_inN, hp_cl, if_pos, if_neg, if_true, if_false, Option.bind_some, pk_sub, k3, F_X8_bounded_25_eq, h]
  by_cases hb : ∃ b, hq_best y b
  case neg =>
    refine ⟨-5, _, ⟨hw, hw1⟩, hp_qx fun D hX => ?_, hp_qm fun D hR => ?_⟩
    · obtain ⟨D1, e1, s1⟩ := hq_X0 N (by omega) hw hX hb
      refine ⟨D1, xB D D1 hX _ ?_, s1⟩
      rw [F_X8_bounded_41_eq, e1, Option.bind_some, if_pos (show nI 0 = 0 from rfl)]
    · obtain ⟨D1, e1, s1, s2⟩ := hq_M0 N hN hw hR.1 hb
      refine ⟨D1, mB D D1 hR _ ?_, hsm s1⟩
      rw [F_X9_bounded_33_eq, e1, Option.bind_some, if_pos (by rw [s2]; decide)]
  obtain ⟨b, hb⟩ := hb
  have q1 := hq_stb y b
  have b8' : ∀ w, w < y 0 0 → b w < 8 := fun w hw0 => (hb.1.1 w hw0).1
  have q2 := hq_pcb b8'
  have kx : ∀ D, hp_X (y, pu, yk, pk, fl, T, P, tp, pp, ls, lc) D → ∃ D1, F_X0_findBest N D = some (nI 1, D1) ∧ hp_sc D D1 ∧ (∀ w, w < y 0 0 → D1 54 w = nI (b w)) ∧ F_X7_stepsOf_1_54 N D1 = some (nI (hq_st1 y b), D1) ∧ F_X7_rollsOf_1_54 N D1 = some (nI (y 0 0 + hq_on1 y b), D1) := fun D hX => by
    obtain ⟨D1, e1, s1, s2⟩ := hq_X1 N (by omega) hw hX hb
    have x00 : D1 1 0 = nI (y 0 0) := (hp_Xf hw (hp_X_sc hX s1).1).1
    exact ⟨D1, e1, s1, s2, hp_stX_1_54 N (by omega) b0 x00 s2 b8', hp_roX_1_54 N (by omega) b0 x00 s2 b8'⟩
  have km : ∀ D, hp_R (y, pu, yk, pk, fl, T, P, tp, pp, ls, lc) D → ∃ D1, F_X9_findBounded N D = some D1 ∧ hp_sm D D1 ∧ D1 67 11 = nI (hq_st1 y b) ∧ D1 67 12 = nI (y 0 0 + hq_on1 y b) ∧ ∀ w, w < y 0 0 → D1 74 w = nI (b w) := fun D hR => by
    obtain ⟨D1, e1, s1, s2⟩ := hq_M1 N hN hw hR.1 hb
    exact ⟨D1, e1, hsm s1, s2⟩
  have neg11 : ∀ D1 : hy_M, D1 67 11 = nI (hq_st1 y b) → ¬ D1 67 11 < 0 := fun D1 h => by
    rw [h, show (0 : Int32) = nI 0 from rfl, hp_ltN (by omega) (by omega)]
    omega
  rcases cin with rfl | rfl | ⟨c1, c2⟩
  · refine ⟨nI (hq_st1 y b), _, ⟨hw, hw1⟩, hp_qx fun D hX => ?_, hp_qm fun D hR => ?_⟩
    · obtain ⟨D1, e1, s1, s2, s3, s4⟩ := kx D hX
      refine ⟨D1, xB D D1 hX _ ?_, s1⟩
      rw [if_pos (by omega), F_X8_bounded_41_eq, e1, Option.bind_some, if_neg (show ¬ nI 1 = 0 by decide), if_pos (show nI 0 = 0 from rfl), if_pos (show nI 0 = 0 from rfl), s3, Option.bind_some]
    · obtain ⟨D1, e1, s1, s2, s3, s4⟩ := km D hR
      refine ⟨D1, mB D D1 hR _ ?_, s1⟩
      rw [F_X9_bounded_33_eq, e1, Option.bind_some, if_neg (neg11 D1 s2), if_pos (show nI 0 = 0 from rfl), s2]
  · refine ⟨nI (y 0 0 + hq_on1 y b), _, ⟨hw, hw1⟩, hp_qx fun D hX => ?_, hp_qm fun D hR => ?_⟩
    · obtain ⟨D1, e1, s1, s2, s3, s4⟩ := kx D hX
      refine ⟨D1, xB D D1 hX _ ?_, s1⟩
      rw [if_pos (by omega), F_X8_bounded_41_eq, e1, Option.bind_some, if_neg (show ¬ nI 1 = 0 by decide), if_pos (show nI 0 = 0 from rfl), if_neg (show ¬ nI 1 = 0 by decide), s4, Option.bind_some]
    · obtain ⟨D1, e1, s1, s2, s3, s4⟩ := km D hR
      refine ⟨D1, mB D D1 hR _ ?_, s1⟩
      rw [F_X9_bounded_33_eq, e1, Option.bind_some, if_neg (neg11 D1 s2), if_neg (show ¬ nI 1 = 0 by decide), if_pos (show nI 1 = 1 from rfl), s3]
  · refine ⟨nI (b (k - 10)), _, ⟨hw, hw1⟩, hp_qx fun D hX => ?_, hp_qm fun D hR => ?_⟩
    · obtain ⟨D1, e1, s1, s2, s3, s4⟩ := kx D hX
      refine ⟨D1, xB D D1 hX _ ?_, s1⟩
      have z := s2 (k - 10) c2
      rw [if_neg (by omega), F_X8_bounded_41_eq]
      clear xB mB kx km s2 s3 s4 b8' neg11 hsm
      simp (disch := omega) only [hp_kN, nI_add, pk_mul, hp_isInN, hp_m1L, hp_l0, hp_l1, hp_l2, hp_l3, hp_l4, hp_l5, hp_l7, hp_l8, hp_l10, hp_l17, hp_l20, hp_l24, hp_l48, hp_l50, hp_l55, hp_l127, hp_lm1, hp_eqN, hp_ltN, hp_inN, hp_cl, if_pos, if_neg, if_true, if_false, Option.bind_some, e1, pk_sub, z]
    · obtain ⟨D1, e1, s1, s2, s3, s4⟩ := km D hR
      refine ⟨D1, mB D D1 hR _ ?_, s1⟩
      have z := s4 (k - 10) c2
      have ng := neg11 D1 s2
      rw [F_X9_bounded_33_eq, e1, Option.bind_some, if_neg ng]
      clear xB mB kx km s2 s3 s4 b8' neg11 hsm ng
      simp (disch := omega) only [hp_kN, nI_add, pk_mul, hp_isInN, hp_m1L, hp_l0, hp_l1, hp_l2, hp_l3, hp_l4, hp_l5, hp_l7, hp_l8, hp_l10, hp_l17, hp_l20, hp_l24, hp_l48, hp_l50, hp_l55, hp_l127, hp_lm1, hp_eqN, hp_ltN, hp_inN, hp_cl, if_pos, if_neg, if_true, if_false, Option.bind_some, pk_sub, z]
theorem hq_cs_2 (y : Nat → Nat → Nat) (f : Nat → Nat) : ∀ n j, hp_cs y f n 2 j = if j < n then f j else y 2 j := by
  intro n
  induction n with
  | zero => intro j; rw [if_neg (by omega)]; rfl
  | succ n ih =>
    intro j
    show hp_yw (hp_cs y f n) 2 n (f n) 2 j = _
    by_cases q : j = n
    · rw [q, hp_yw_s, if_pos (by omega)]
    · rw [hp_yw_n (Or.inr q), ih j]
      by_cases q2 : j < n
      · rw [if_pos q2, if_pos (by omega)]
      · rw [if_neg q2, if_neg (by omega)]
theorem st_bind (N : Nat) (hN : 1000000000 ≤ N) : hp_step (F_X8_bind N) (F_X9_bind N) := by
  rintro ⟨y, pu, yk, pk, fl, T, P, tp, pp, ls, lc⟩ ⟨hw, hw1⟩
  obtain ⟨b0, b1, b2, b8, b17, b9⟩ := hp_Wb hw
  by_cases hh : y 0 2 = 1
  · refine ⟨-3, _, ⟨hw, hw1⟩, hp_qx0 fun D hX => ?_, hp_qm0 fun D hR => ?_⟩
    · obtain ⟨x00, x01, x02, x03, x1, x2, x3, x4, x6, x8, x9, x12, x17⟩ := hp_Xf hw hX.1
      rw [hh] at x02
      rw [F_X8_bind_eq]
      simp (disch := omega) only [hp_kN, nI_add, pk_mul, hp_isInN, hp_m1L, hp_l0, hp_l1, hp_l2, hp_l3, hp_l4, hp_l5, hp_l7, hp_l8, hp_l10, hp_l17, hp_l20, hp_l24, hp_l48, hp_l50, hp_l55, hp_l127, hp_lm1, hp_eqN, hp_ltN, hp_inN, hp_cl, if_pos, if_neg, if_true, if_false, Option.bind_some, x02]
    · obtain ⟨m00, m01, m02, m03, m4, m12, m20, m30, m28, m46, m70, m51, m67, m49⟩ := hp_Mf hw hR.1
      rw [hh] at m02
      rw [F_X9_bind_eq]
      simp (disch := omega) only [hp_kN, nI_add, pk_mul, hp_isInN, hp_m1L, hp_l0, hp_l1, hp_l2, hp_l3, hp_l4, hp_l5, hp_l7, hp_l8, hp_l10, hp_l17, hp_l20, hp_l24, hp_l48, hp_l50, hp_l55, hp_l127, hp_lm1, hp_eqN, hp_ltN, hp_inN, hp_cl, if_pos, if_neg, if_true, if_false, Option.bind_some, m02]
  have hh0 : y 0 2 = 0 := by omega
  by_cases hb : ∃ b, hq_best y b
  case neg =>
    refine ⟨-5, _, ⟨hw, hw1⟩, hp_qx fun D hX => ?_, hp_qm fun D hR => ?_⟩
    · obtain ⟨D1, e1, s1⟩ := hq_X0 N (by omega) hw hX hb
      refine ⟨D1, ?_, s1⟩
      obtain ⟨x00, x01, x02, x03, x1, x2, x3, x4, x6, x8, x9, x12, x17⟩ := hp_Xf hw hX.1
      rw [hh0] at x02
      rw [F_X8_bind_eq, if_pos (by rw [x02]; rfl), e1, Option.bind_some, if_pos (show nI 0 = 0 from rfl)]
    · obtain ⟨D1, e1, s1, s2⟩ := hq_M0 N hN hw hR.1 hb
      refine ⟨D1, ?_, hq_F_sm s1⟩
      obtain ⟨m00, m01, m02, m03, m4, m12, m20, m30, m28, m46, m70, m51, m67, m49⟩ := hp_Mf hw hR.1
      rw [hh0] at m02
      rw [F_X9_bind_eq, if_neg (by rw [m02]; decide), e1, Option.bind_some, if_pos (by rw [s2]; decide)]
  obtain ⟨b, hb⟩ := hb
  have b8' : ∀ w, w < y 0 0 → b w < 8 := fun w hw0 => (hb.1.1 w hw0).1
  have q1 := hq_stb y b
  have q2 := hq_pcb b8'
  refine ⟨nI (y 0 0 + hq_on1 y b), (hp_cs y b (y 0 0), pu, yk, pk, fl, T, P, tp, pp, ls, lc), ⟨hp_cs_WF hw _ b8', hw1⟩, fun D hX => ?_, fun D hR => ?_⟩
  · obtain ⟨D1, e1, s1, s2⟩ := hq_X1 N (by omega) hw hX hb
    have hX1 := hp_X_sc hX s1
    have cf : ∀ c, c ≠ 3 → hy_cp D1 54 3 0 0 (y 0 0) c = D1 c := fun c hc => hp_cpn hc
    have c3 : ∀ j, hy_cp D1 54 3 0 0 (y 0 0) 3 j = if j < y 0 0 then D1 54 j else D1 3 j := fun j => hp_cp0 _ _ _ _ _
    have x00 : D1 1 0 = nI (y 0 0) := (hp_Xf hw hX1.1).1
    have x02 : D 1 2 = nI (y 0 2) := (hp_Xf hw hX.1).2.2.1
    rw [hh0] at x02
    have kr := hp_roX N (by omega) b0 (D := hy_cp D1 54 3 0 0 (y 0 0)) (by_ := b) (by rw [cf 1 (by omega)]; exact x00) (fun j hj => by rw [c3, if_pos hj]; exact s2 j hj) b8'
    refine ⟨hy_cp D1 54 3 0 0 (y 0 0), ?_, ⟨⟨?_, fun i j hd => ?_⟩, hp_C1_fr hX1.2 (fun c hc => cf c (by omega))⟩, fun c p q => by rw [cf c (by omega), s1 c (by omega)]⟩
    · have kr' : F_X7_rollsOf N (hy_cp D1 54 3 0 0 (y 0 0)) = some (nI (y 0 0 + hq_on1 y b), hy_cp D1 54 3 0 0 (y 0 0)) := kr
      rw [F_X8_bind_eq]
      clear cf c3 s1 s2 b8' kr hX1
      simp (disch := omega) only [hp_kN, nI_add, pk_mul, hp_isInN, hp_m1L, hp_l0, hp_l1, hp_l2, hp_l3, hp_l4, hp_l5, hp_l7, hp_l8, hp_l10, hp_l17, hp_l20, hp_l24, hp_l48, hp_l50, hp_l55, hp_l127, hp_lm1, hp_eqN, hp_ltN, hp_inN, hp_cl, if_pos, if_neg, if_true, if_false, Option.bind_some, x02, e1, x00, hp_rng, and_self, kr']
    · rw [cf 1 (by omega), hX1.1.1]
      unfold hp_pu
      rw [hp_cs_n _ _ _ _ _ (by omega)]
    · have hd2 : hp_dom y i j := ⟨hd.1, fun p q => by
        have := hd.2 p q
        rw [hp_cs_n _ _ _ _ _ (by omega)] at this
        exact this⟩
      by_cases z : i = 2
      · subst z
        rw [hq_cs_2]
        show hy_cp D1 54 3 0 0 (y 0 0) 3 j = _
        rw [c3]
        by_cases z2 : j < y 0 0
        · rw [if_pos z2, if_pos z2]
          exact s2 j z2
        · rw [if_neg z2, if_neg z2]
          exact hX1.1.2 2 j hd2
      · rw [cf (1 + i) (by omega), hp_cs_n _ _ _ _ _ z]
        exact hX1.1.2 i j hd2
  · obtain ⟨D1, e1, s1, s2, s3, s4⟩ := hq_M1 N hN hw hR.1 hb
    have hR1 := hp_R_sm hR (hq_F_sm s1)
    have m02 : D 68 2 = nI (y 0 2) := (hp_Mf hw hR.1).2.2.1
    rw [hh0] at m02
    have l : ∀ m i f D2, i + m = y 0 0 → m < f → hp_R (hp_cs y b i, pu, yk, pk, fl, T, P, tp, pp, ls, lc) D2 → (∀ c, c ≠ 68 → D2 c = D1 c) → ∃ D3, F_X9_bind_29 N f (nI i) D2 = some (nI (y 0 0 + hq_on1 y b), D3) ∧ hp_R (hp_cs y b (y 0 0), pu, yk, pk, fl, T, P, tp, pp, ls, lc) D3 ∧ ∀ c, c ≠ 68 → D3 c = D1 c := by
      intro m
      induction m with
      | zero =>
        intro i f D2 e hf h hfr
        obtain ⟨f, rfl⟩ : ∃ f', f = f' + 1 := ⟨f - 1, by omega⟩
        have e : i = y 0 0 := by omega
        rw [e] at h
        refine ⟨D2, ?_, h, hfr⟩
        have z0 : D2 68 0 = nI (y 0 0) := by
          have := hp_mb h.1 (i := 0) (j := 0) (by decide) (by omega) (by omega)
          rw [hp_cs_n _ _ _ _ _ (by omega)] at this
          exact this
        rw [F_X9_bind_29_eq, z0, if_neg (by rw [hp_ltN (by omega) (by omega)]; omega), hfr 67 (by omega), s3]
      | succ m ih =>
        intro i f D2 e hf h hfr
        obtain ⟨f, rfl⟩ : ∃ f', f = f' + 1 := ⟨f - 1, by omega⟩
        have z0 : D2 68 0 = nI (y 0 0) := by
          have := hp_mb h.1 (i := 0) (j := 0) (by decide) (by omega) (by omega)
          rw [hp_cs_n _ _ _ _ _ (by omega)] at this
          exact this
        have z74 : D2 74 i = nI (b i) := by rw [hfr 74 (by omega)]; exact s4 i (by omega)
        have ep : hp_pos 2 i = 12 + i := by simp [hp_pos]
        have h' : hp_R (hp_cs y b (i + 1), pu, yk, pk, fl, T, P, tp, pp, ls, lc) (hy_w D2 68 (12 + i) (nI (b i))) := ⟨by rw [← ep]; exact hp_MY_w 2 i _ h.1 (by omega) (by omega) (show i < 8 by omega), hp_M1_fr h.2 (fun c a => hy_w_ne (by omega)) (fun j a => by rw [hy_w_ne (by omega)])⟩
        obtain ⟨D3, e3, g1, g2⟩ := ih (i + 1) f _ (by omega) (by omega) h' (fun c hc => by rw [hy_w_ne hc, hfr c hc])
        refine ⟨D3, ?_, g1, g2⟩
        rw [← e3, F_X9_bind_29_eq]
        clear ih e3 g1 g2 h h' hfr s4 b8'
        simp (disch := omega) only [hp_kN, nI_add, pk_mul, hp_isInN, hp_m1L, hp_l0, hp_l1, hp_l2, hp_l3, hp_l4, hp_l5, hp_l7, hp_l8, hp_l10, hp_l17, hp_l20, hp_l24, hp_l48, hp_l50, hp_l55, hp_l127, hp_lm1, hp_eqN, hp_ltN, hp_inN, hp_cl, if_pos, if_neg, if_true, if_false, Option.bind_some, z0, z74]
    obtain ⟨D3, e3, g1, g2⟩ := l (y 0 0) 0 N D1 (by omega) (by omega) hR1 (fun _ _ => rfl)
    refine ⟨D3, ?_, g1, fun c hc => by rw [g2 c (by omega), (hq_F_sm s1).1 c (by omega)]⟩
    rw [F_X9_bind_eq, if_neg (by rw [m02]; decide), e1, Option.bind_some, if_neg (by rw [s2, show (0 : Int32) = nI 0 from rfl, hp_ltN (by omega) (by omega)]; omega)]
    exact e3
