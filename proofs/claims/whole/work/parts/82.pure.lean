/-! ===== codes ===== -/
theorem hp_cdX (N : Nat) {y : Nat → Nat → Nat} {pu : Int32} {yk : Nat → Nat → Nat} {pk : Int32} {fl T P : Nat} {tp pp : Nat → Nat} {ls : Nat → Int32} {lc : Nat → Nat → Int32} (hw : hp_WF y) (hT : T = y 0 0) (hok : ∀ j, j < T → 48 ≤ tp j ∧ tp j < 56) : ∀ m i n D, i + m = y 0 0 → m < n → hp_X (hp_cs y (fun j => tp j - 48) i, pu, yk, pk, fl, T, P, tp, pp, ls, lc) D → ∃ D1, F_X8_codes_44 N n (-nI 1) (nI i) D = some (nI (y 0 0), D1) ∧ hp_X (hp_cs y (fun j => tp j - 48) (y 0 0), pu, yk, pk, fl, 0, P, tp, pp, ls, lc) D1 ∧ ∀ c, c ≠ 3 → c ≠ 37 → D1 c = D c := by
  have b0 := hw.1
  intro m
  induction m with
  | zero =>
    intro i n D e hm hX
    obtain ⟨n, rfl⟩ : ∃ n', n = n' + 1 := ⟨n - 1, by omega⟩
    have e : i = y 0 0 := by omega
    rw [e] at hX
    have x00 : D 1 0 = nI (y 0 0) := by
      have := hp_yb hX.1 (i := 0) (j := 0) (by decide) (by omega)
      rw [hp_cs_n _ _ _ _ _ (by omega)] at this
      exact this
    refine ⟨hy_w D 37 1 (nI 0), ?_, ⟨hp_CY_fr hX.1 (fun c a b => hy_w_ne (by omega)), hp_C1_tape hX.2 (fun c a => hy_w_ne (by omega)) (hp_ws _ _ _ _) (fun j hj => absurd hj (by omega))⟩, fun c a b => hy_w_ne b⟩
    rw [F_X8_codes_44_eq, e]
    clear hok
    simp (disch := omega) only [hp_kN, nI_add, pk_mul, hp_isInN, hp_m1L, hp_l0, hp_l1, hp_l2, hp_l3, hp_l4, hp_l5, hp_l7, hp_l8, hp_l10, hp_l17, hp_l20, hp_l24, hp_l48, hp_l50, hp_l55, hp_l127, hp_lm1, hp_eqN, hp_ltN, hp_inN, hp_cl, if_pos, if_neg, if_true, if_false, Option.bind_some, x00, F_X8_codes_78_eq, hp_wn]
  | succ m ih =>
    intro i n D e hm hX
    obtain ⟨n, rfl⟩ : ∃ n', n = n' + 1 := ⟨n - 1, by omega⟩
    have x00 : D 1 0 = nI (y 0 0) := by
      have := hp_yb hX.1 (i := 0) (j := 0) (by decide) (by omega)
      rw [hp_cs_n _ _ _ _ _ (by omega)] at this
      exact this
    have x38 : D 38 i = nI (tp i) := hX.2.2.2.2.1 i (by omega)
    have hX' : hp_X (hp_cs y (fun j => tp j - 48) (i + 1), pu, yk, pk, fl, T, P, tp, pp, ls, lc) (hy_w D 3 i (nI (tp i - 48))) := ⟨hp_CY_w 2 i _ hX.1 (by omega) (show i < 8 by omega), hp_C1_fr hX.2 (fun c a => hy_w_ne (by omega))⟩
    obtain ⟨D1, q1, q2, q3⟩ := ih (i + 1) n _ (by omega) (by omega) hX'
    refine ⟨D1, ?_, q2, fun c a b => by rw [q3 c a b, hy_w_ne a]⟩
    rw [← q1]
    have o := hok i (by omega)
    clear ih q1 q2 q3 hok hX hX'
    rw [F_X8_codes_44_eq]
    simp (disch := omega) only [hp_kN, nI_add, pk_mul, hp_isInN, hp_m1L, hp_l0, hp_l1, hp_l2, hp_l3, hp_l4, hp_l5, hp_l7, hp_l8, hp_l10, hp_l17, hp_l20, hp_l24, hp_l48, hp_l50, hp_l55, hp_l127, hp_lm1, hp_eqN, hp_ltN, hp_inN, hp_cl, if_pos, if_neg, if_true, if_false, Option.bind_some, x00, F_X6_figureAt_eq, x38, pk_sub]
theorem hp_cdM25 (N : Nat) {k T : Nat} {tp : Nat → Nat} {D : hy_M} (hk : k ≤ 8) (hT40 : T ≤ 40) (m00 : D 68 0 = nI k) (htp : ∀ j, j < T → D 71 j = nI (tp j)) (htb : ∀ j, j < T → 1 ≤ tp j ∧ tp j ≤ 127) : ∀ m i n, i + m = T → m < n → F_X9_codes_25 N n (nI T) (nI i) D = F_X9_codes_65 N (nI T) (nI (match hp_ff 8 k tp m i with | some w => w | none => T)) D := by
  intro m
  induction m with
  | zero =>
    intro i n e hn
    obtain ⟨n, rfl⟩ : ∃ n', n = n' + 1 := ⟨n - 1, by omega⟩
    have e : i = T := by omega
    rw [F_X9_codes_25_eq, e]
    unfold hp_ff
    clear htb htp
    simp (disch := omega) only [hp_kN, nI_add, pk_mul, hp_isInN, hp_m1L, hp_l0, hp_l1, hp_l2, hp_l3, hp_l4, hp_l5, hp_l7, hp_l8, hp_l10, hp_l17, hp_l20, hp_l24, hp_l48, hp_l50, hp_l55, hp_l127, hp_lm1, hp_eqN, hp_ltN, hp_inN, hp_cl, if_pos, if_neg, if_true, if_false, Option.bind_some]
  | succ m ih =>
    intro i n e hn
    obtain ⟨n, rfl⟩ : ∃ n', n = n' + 1 := ⟨n - 1, by omega⟩
    have hi := ih (i + 1) n (by omega) (by omega)
    have t1 := htp i (by omega)
    have t2 := htb i (by omega)
    rw [F_X9_codes_25_eq]
    unfold hp_ff
    clear ih htb htp
    by_cases q : hp_fok 8 k tp i
    · rw [if_pos q, ← hi]
      obtain ⟨q1, q2, q3⟩ := q
      clear hi
      simp (disch := omega) only [hp_kN, nI_add, pk_mul, hp_isInN, hp_m1L, hp_l0, hp_l1, hp_l2, hp_l3, hp_l4, hp_l5, hp_l7, hp_l8, hp_l10, hp_l17, hp_l20, hp_l24, hp_l48, hp_l50, hp_l55, hp_l127, hp_lm1, hp_eqN, hp_ltN, hp_inN, hp_cl, if_pos, if_neg, if_true, if_false, Option.bind_some, m00, t1]
    · rw [if_neg q]
      clear hi
      by_cases q1 : i < k
      · have q3 : ¬ (48 ≤ tp i ∧ tp i < 56) := fun z => q ⟨q1, z.1, by omega⟩
        clear q
        simp (disch := omega) only [hp_kN, nI_add, pk_mul, hp_isInN, hp_m1L, hp_l0, hp_l1, hp_l2, hp_l3, hp_l4, hp_l5, hp_l7, hp_l8, hp_l10, hp_l17, hp_l20, hp_l24, hp_l48, hp_l50, hp_l55, hp_l127, hp_lm1, hp_eqN, hp_ltN, hp_inN, hp_cl, if_pos, if_neg, if_true, if_false, Option.bind_some, m00, t1]
      · clear q
        simp (disch := omega) only [hp_kN, nI_add, pk_mul, hp_isInN, hp_m1L, hp_l0, hp_l1, hp_l2, hp_l3, hp_l4, hp_l5, hp_l7, hp_l8, hp_l10, hp_l17, hp_l20, hp_l24, hp_l48, hp_l50, hp_l55, hp_l127, hp_lm1, hp_eqN, hp_ltN, hp_inN, hp_cl, if_pos, if_neg, if_true, if_false, Option.bind_some, m00]
theorem hp_cdM (N : Nat) {y : Nat → Nat → Nat} {pu : Int32} {yk : Nat → Nat → Nat} {pk : Int32} {fl T P : Nat} {tp pp : Nat → Nat} {ls : Nat → Int32} {lc : Nat → Nat → Int32} (hw : hp_WF y) (hT : T = y 0 0) (hok : ∀ j, j < T → 48 ≤ tp j ∧ tp j < 56) : ∀ m i n D, i + m = y 0 0 → m < n → (∀ j, j < T → D 71 j = nI (tp j)) → hp_R (hp_cs y (fun j => tp j - 48) i, pu, yk, pk, fl, 0, P, tp, pp, ls, lc) D → ∃ D1, F_X9_codes_87 N n (nI T) (nI i) D = some (nI (y 0 0), D1) ∧ hp_R (hp_cs y (fun j => tp j - 48) (y 0 0), pu, yk, pk, fl, 0, P, tp, pp, ls, lc) D1 ∧ ∀ c, c ≠ 68 → D1 c = D c := by
  have b0 := hw.1
  intro m
  induction m with
  | zero =>
    intro i n D e hm h71 hR
    obtain ⟨n, rfl⟩ : ∃ n', n = n' + 1 := ⟨n - 1, by omega⟩
    have e : i = y 0 0 := by omega
    rw [e] at hR
    refine ⟨D, ?_, hR, fun _ _ => rfl⟩
    rw [F_X9_codes_87_eq, e, hT]
    clear hok h71 hR
    simp (disch := omega) only [hp_kN, nI_add, pk_mul, hp_isInN, hp_m1L, hp_l0, hp_l1, hp_l2, hp_l3, hp_l4, hp_l5, hp_l7, hp_l8, hp_l10, hp_l17, hp_l20, hp_l24, hp_l48, hp_l50, hp_l55, hp_l127, hp_lm1, hp_eqN, hp_ltN, hp_inN, hp_cl, if_pos, if_neg, if_true, if_false, Option.bind_some]
  | succ m ih =>
    intro i n D e hm h71 hR
    obtain ⟨n, rfl⟩ : ∃ n', n = n' + 1 := ⟨n - 1, by omega⟩
    have x71 : D 71 i = nI (tp i) := h71 i (by omega)
    have ep : hp_pos 2 i = 12 + i := by simp [hp_pos]
    have hR' : hp_R (hp_cs y (fun j => tp j - 48) (i + 1), pu, yk, pk, fl, 0, P, tp, pp, ls, lc) (hy_w D 68 (12 + i) (nI (tp i - 48))) := ⟨by rw [← ep]; exact hp_MY_w 2 i _ hR.1 (by omega) (by omega) (show i < 8 by omega), hp_M1_fr hR.2 (fun c a => hy_w_ne (by omega)) (fun j a => by rw [hy_w_ne (by omega)])⟩
    obtain ⟨D1, q1, q2, q3⟩ := ih (i + 1) n _ (by omega) (by omega) (fun j hj => by rw [hy_w_ne (by omega)]; exact h71 j hj) hR'
    refine ⟨D1, ?_, q2, fun c a => by rw [q3 c a, hy_w_ne a]⟩
    rw [← q1]
    have o := hok i (by omega)
    clear ih q1 q2 q3 hok hR hR' h71
    rw [F_X9_codes_87_eq]
    simp (disch := omega) only [hp_kN, nI_add, pk_mul, hp_isInN, hp_m1L, hp_l0, hp_l1, hp_l2, hp_l3, hp_l4, hp_l5, hp_l7, hp_l8, hp_l10, hp_l17, hp_l20, hp_l24, hp_l48, hp_l50, hp_l55, hp_l127, hp_lm1, hp_eqN, hp_ltN, hp_inN, hp_cl, if_pos, if_neg, if_true, if_false, Option.bind_some, x71, pk_sub]
theorem st_codes (N : Nat) (hN : 100 ≤ N) : hp_step (F_X8_codes N) (F_X9_codes N) := by
  rintro ⟨y, pu, yk, pk, fl, T, P, tp, pp, ls, lc⟩ ⟨hw, hw1⟩
  obtain ⟨b0, b1, b2, b8, b17, b9⟩ := hp_Wb hw
  obtain ⟨w1, w2, w3, w4, w5, w6, w7⟩ := hw1
  by_cases c3 : y 0 2 = 0
  case neg =>
    have c3' : y 0 2 = 1 := by omega
    refine ⟨-3, _, ⟨hw, ⟨w1, w2, w3, w4, w5, w6, w7⟩⟩, hp_qx0 fun D hX => ?_, hp_qm0 fun D hR => ?_⟩
    · obtain ⟨x00, x01, x02, x03, x1, x2, x3, x4, x6, x8, x9, x12, x17⟩ := hp_Xf hw hX.1
      rw [F_X8_codes_eq]
      simp (disch := omega) only [hp_kN, nI_add, pk_mul, hp_isInN, hp_m1L, hp_l0, hp_l1, hp_l2, hp_l3, hp_l4, hp_l5, hp_l7, hp_l8, hp_l10, hp_l17, hp_l20, hp_l24, hp_l48, hp_l50, hp_l55, hp_l127, hp_lm1, hp_eqN, hp_ltN, hp_inN, hp_cl, if_pos, if_neg, if_true, if_false, Option.bind_some, x02, c3']
    · obtain ⟨m00, m01, m02, m03, m4, m12, m20, m30, m28, m46, m70, m51, m67, m49⟩ := hp_Mf hw hR.1
      rw [F_X9_codes_eq]
      simp (disch := omega) only [hp_kN, nI_add, pk_mul, hp_isInN, hp_m1L, hp_l0, hp_l1, hp_l2, hp_l3, hp_l4, hp_l5, hp_l7, hp_l8, hp_l10, hp_l17, hp_l20, hp_l24, hp_l48, hp_l50, hp_l55, hp_l127, hp_lm1, hp_eqN, hp_ltN, hp_inN, hp_cl, if_pos, if_neg, if_true, if_false, Option.bind_some, m02, c3']
  have W0 : hp_W1 yk fl 0 P tp pp ls := ⟨w1, w2, by omega, fun j hj => absurd hj (by omega), w5, w6, w7⟩
  have hm0 : ∀ D, hp_R (y, pu, yk, pk, fl, T, P, tp, pp, ls, lc) D → hp_R (y, pu, yk, pk, fl, 0, P, tp, pp, ls, lc) (hy_w D 67 5 (nI 0)) := fun D hR => ⟨hp_MY_fr hR.1 (hy_w_ne (by omega)), hp_M1_tape hR.2 (fun c a => hy_w_ne (by omega)) (fun j a => hp_wn (Or.inr (by omega))) (hp_ws _ _ _ _) (fun j hj => absurd hj (by omega))⟩
  have hx0 : ∀ D, hp_X (y, pu, yk, pk, fl, T, P, tp, pp, ls, lc) D → hp_X (y, pu, yk, pk, fl, 0, P, tp, pp, ls, lc) (hy_w D 37 1 (nI 0)) := fun D hX => ⟨hp_CY_fr hX.1 (fun c a b => hy_w_ne (by omega)), hp_C1_tape hX.2 (fun c a => hy_w_ne (by omega)) (hp_ws _ _ _ _) (fun j hj => absurd hj (by omega))⟩
  have kx : ∀ D, hp_X (y, pu, yk, pk, fl, T, P, tp, pp, ls, lc) D → F_X6_faultOfFigures N (nI 8) (nI (y 0 0)) (nI (y 0 0)) D = some (match hp_ff 8 (y 0 0) tp T 0 with | some w => nI w | none => if T < y 0 0 then nI T else -nI 1, D) := fun D hX => by
    rw [F_X6_faultOfFigures_eq]
    exact hp_ffX N (by omega) (by omega) (by omega) hX.2.2.2.1 w3 hX.2.2.2.2.1 w4 T 0 N (by omega) (by omega)
  have km : ∀ D, hp_R (y, pu, yk, pk, fl, T, P, tp, pp, ls, lc) D → F_X9_codes N D = F_X9_codes_65 N (nI T) (nI (match hp_ff 8 (y 0 0) tp T 0 with | some w => w | none => T)) (hy_w D 67 5 (nI 0)) := fun D hR => by
    have h71 := hR.2.2.2.2.1
    have hT : D 67 5 = nI T := hR.2.2.2.1
    obtain ⟨m00, m01, m02, m03, m4, m12, m20, m30, m28, m46, m70, m51, m67, m49⟩ := hp_Mf hw hR.1
    have k := hp_cdM25 N (D := hy_w D 67 5 (nI 0)) b0 w3 (by rw [hy_w_ne (by omega)]; exact m00) (fun j hj => by rw [hy_w_ne (by omega)]; exact h71 j hj) w4 T 0 N (by omega) (by omega)
    rw [F_X9_codes_eq, hT]
    clear h71 w2 w4 w6 w7 W0 hm0 hx0 kx
    simp (disch := omega) only [hp_kN, nI_add, pk_mul, hp_isInN, hp_m1L, hp_l0, hp_l1, hp_l2, hp_l3, hp_l4, hp_l5, hp_l7, hp_l8, hp_l10, hp_l17, hp_l20, hp_l24, hp_l48, hp_l50, hp_l55, hp_l127, hp_lm1, hp_eqN, hp_ltN, hp_inN, hp_cl, if_pos, if_neg, if_true, if_false, Option.bind_some, m02, c3]
    exact k
  have bad : ∀ w, w ≤ 40 → (∀ D, hp_X (y, pu, yk, pk, fl, T, P, tp, pp, ls, lc) D → F_X6_faultOfFigures N (nI 8) (nI (y 0 0)) (nI (y 0 0)) D = some (nI w, D)) → (∀ D, hp_R (y, pu, yk, pk, fl, T, P, tp, pp, ls, lc) D → F_X9_codes N D = F_X9_codes_65 N (nI T) (nI w) (hy_w D 67 5 (nI 0))) → (w < y 0 0 ∨ w < T) → ∃ r q', hp_V q' ∧ hp_cx (F_X8_codes N) (y, pu, yk, pk, fl, T, P, tp, pp, ls, lc) r q' ∧ hp_cm (F_X9_codes N) (y, pu, yk, pk, fl, T, P, tp, pp, ls, lc) r q' := fun w hw40 k1 k2 hlt => by
    refine ⟨-nI 100 - nI w, (y, pu, yk, pk, fl, 0, P, tp, pp, ls, lc), ⟨hw, W0⟩, fun D hX => ?_, fun D hR => ?_⟩
    · refine ⟨hy_w D 37 1 (nI 0), ?_, hx0 D hX, fun c a b => hy_w_ne (by omega)⟩
      have k := k1 D hX
      obtain ⟨x00, x01, x02, x03, x1, x2, x3, x4, x6, x8, x9, x12, x17⟩ := hp_Xf hw hX.1
      clear k1 k2 kx km w2 w4 w6 w7 W0 hm0 hx0
      rw [F_X8_codes_eq]
      simp (disch := omega) only [hp_kN, nI_add, pk_mul, hp_isInN, hp_m1L, hp_l0, hp_l1, hp_l2, hp_l3, hp_l4, hp_l5, hp_l7, hp_l8, hp_l10, hp_l17, hp_l20, hp_l24, hp_l48, hp_l50, hp_l55, hp_l127, hp_lm1, hp_eqN, hp_ltN, hp_inN, hp_cl, if_pos, if_neg, if_true, if_false, Option.bind_some, x02, c3, x00, k, hp_n5, F_X8_codes_78_eq]
    · refine ⟨hy_w D 67 5 (nI 0), ?_, hm0 D hR, fun c a => hy_w_ne (by omega)⟩
      obtain ⟨m00, m01, m02, m03, m4, m12, m20, m30, m28, m46, m70, m51, m67, m49⟩ := hp_Mf hw hR.1
      rw [k2 D hR, F_X9_codes_65_eq, hy_w_ne (show 68 ≠ 67 by omega), m00]
      clear k1 k2 kx km w2 w4 w6 w7 W0 hm0 hx0
      by_cases z : w < y 0 0
      · simp (disch := omega) only [hp_kN, nI_add, pk_mul, hp_isInN, hp_m1L, hp_l0, hp_l1, hp_l2, hp_l3, hp_l4, hp_l5, hp_l7, hp_l8, hp_l10, hp_l17, hp_l20, hp_l24, hp_l48, hp_l50, hp_l55, hp_l127, hp_lm1, hp_eqN, hp_ltN, hp_inN, hp_cl, if_pos, if_neg, if_true, if_false, Option.bind_some]
      · simp (disch := omega) only [hp_kN, nI_add, pk_mul, hp_isInN, hp_m1L, hp_l0, hp_l1, hp_l2, hp_l3, hp_l4, hp_l5, hp_l7, hp_l8, hp_l10, hp_l17, hp_l20, hp_l24, hp_l48, hp_l50, hp_l55, hp_l127, hp_lm1, hp_eqN, hp_ltN, hp_inN, hp_cl, if_pos, if_neg, if_true, if_false, Option.bind_some]
  cases e : hp_ff 8 (y 0 0) tp T 0 with
  | some w =>
    have s := hp_ff_s _ _ _ e
    have s2 := s.2.1
    exact bad w (by omega) (fun D hX => by rw [kx D hX, e]) (fun D hR => by rw [km D hR, e]) (by omega)
  | none =>
    by_cases z : T < y 0 0
    · exact bad T w3 (fun D hX => by rw [kx D hX, e]; simp only [if_pos z]) (fun D hR => by rw [km D hR, e]) (Or.inl z)
    · have hok := hp_ff_n _ _ e
      have hT : T = y 0 0 := by
        by_cases q : T = 0
        · omega
        · have := (hok (T - 1) (by omega) (by omega)).1
          omega
      have hok2 : ∀ j, j < T → 48 ≤ tp j ∧ tp j < 56 := fun j hj => by
        have := hok j (by omega) (by omega)
        exact ⟨this.2.1, by omega⟩
      clear bad
      refine ⟨nI (y 0 0), (hp_cs y (fun j => tp j - 48) (y 0 0), pu, yk, pk, fl, 0, P, tp, pp, ls, lc), ⟨hp_cs_WF hw _ (fun j hj => by have := hok2 j (by omega); show tp j - 48 < 8; omega), W0⟩, fun D hX => ?_, fun D hR => ?_⟩
      · obtain ⟨D1, q1, q2, q3⟩ := hp_cdX N hw hT hok2 (y 0 0) 0 N D (by omega) (by omega) hX
        refine ⟨D1, ?_, q2, fun c a b => q3 c (by omega) (by omega)⟩
        have k := kx D hX
        rw [e] at k
        simp only [if_neg z] at k
        obtain ⟨x00, x01, x02, x03, x1, x2, x3, x4, x6, x8, x9, x12, x17⟩ := hp_Xf hw hX.1
        clear kx km w2 w4 w6 w7 W0 hm0 hx0 hok hok2 q2 q3
        rw [F_X8_codes_eq]
        simp (disch := omega) only [hp_kN, nI_add, pk_mul, hp_isInN, hp_m1L, hp_l0, hp_l1, hp_l2, hp_l3, hp_l4, hp_l5, hp_l7, hp_l8, hp_l10, hp_l17, hp_l20, hp_l24, hp_l48, hp_l50, hp_l55, hp_l127, hp_lm1, hp_eqN, hp_ltN, hp_inN, hp_cl, if_pos, if_neg, if_true, if_false, Option.bind_some, x02, c3, x00, k, q1]
      · have h71 := hR.2.2.2.2.1
        obtain ⟨D1, q1, q2, q3⟩ := hp_cdM N hw hT hok2 (y 0 0) 0 N (hy_w D 67 5 (nI 0)) (by omega) (by omega) (fun j hj => by rw [hy_w_ne (by omega)]; exact h71 j hj) (hm0 D hR)
        refine ⟨D1, ?_, q2, fun c a => by rw [q3 c (by omega), hy_w_ne (by omega)]⟩
        have k := km D hR
        rw [e] at k
        obtain ⟨m00, m01, m02, m03, m4, m12, m20, m30, m28, m46, m70, m51, m67, m49⟩ := hp_Mf hw hR.1
        rw [k, F_X9_codes_65_eq, hy_w_ne (show 68 ≠ 67 by omega), m00]
        clear kx km w2 w4 w6 w7 W0 hm0 hx0 hok hok2 q2 q3 k h71
        simp (disch := omega) only [hp_kN, nI_add, pk_mul, hp_isInN, hp_m1L, hp_l0, hp_l1, hp_l2, hp_l3, hp_l4, hp_l5, hp_l7, hp_l8, hp_l10, hp_l17, hp_l20, hp_l24, hp_l48, hp_l50, hp_l55, hp_l127, hp_lm1, hp_eqN, hp_ltN, hp_inN, hp_cl, if_pos, if_neg, if_true, if_false, Option.bind_some]
        exact q1
