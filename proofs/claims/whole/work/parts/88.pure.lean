/-! ===== hump and pull ===== -/
def hp_yl (y : Nat → Nat → Nat) (L : hp_L) (h : Nat) : Nat → Nat → Nat := fun i j => if i = 17 then L.1 j else if 12 ≤ i ∧ i ≤ 16 then L.2 (i - 12) j else if i = 0 ∧ j = 2 then h else y i j
theorem hp_yl_n {y : Nat → Nat → Nat} {L : hp_L} {h i j : Nat} (hi : i < 12) (hj : ¬ (i = 0 ∧ j = 2)) : hp_yl y L h i j = y i j := by
  unfold hp_yl
  rw [if_neg (by omega), if_neg (by omega), if_neg hj]
theorem hp_yl_r {y : Nat → Nat → Nat} {L : hp_L} {h l j : Nat} (hl : l < 5) : hp_yl y L h (12 + l) j = L.2 l j := by
  unfold hp_yl
  rw [if_neg (by omega), if_pos (by omega), show 12 + l - 12 = l by omega]
theorem hp_yl_c {y : Nat → Nat → Nat} {L : hp_L} {h j : Nat} : hp_yl y L h 17 j = L.1 j := rfl
theorem hp_yl_h {y : Nat → Nat → Nat} {L : hp_L} {h : Nat} : hp_yl y L h 0 2 = h := rfl
theorem hp_pos_lp : ∀ l, l < 5 → ∀ j, j < 8 → hp_pos (12 + l) j = hp_lp l + j := by decide +kernel
theorem hp_pos_lq : ∀ j, j < 5 → hp_pos 17 j = hp_lq j := by decide +kernel
theorem hp_pos_lowA : ((List.range 12).all fun i => (List.range 8).all fun j => !(decide (j < hp_ub i)) || decide (i = 4) || decide (i = 0 ∧ j = 2) || (decide (hp_pos i j < 49) && decide (hp_pos i j ≠ 2) && decide (hp_pos i j ≠ 3))) = true := by decide +kernel
theorem hp_pos_low {i j : Nat} (h1 : i < 12) (h2 : j < 8) (h3 : j < hp_ub i) (h4 : i ≠ 4) (h5 : ¬ (i = 0 ∧ j = 2)) : hp_pos i j < 49 ∧ hp_pos i j ≠ 2 ∧ hp_pos i j ≠ 3 := by
  have h := hp_all1 (hp_all1 hp_pos_lowA h1) h2
  simp only [h3, h4, h5, decide_true, decide_false, Bool.not_true, Bool.false_or, Bool.and_eq_true, decide_eq_true_eq] at h
  exact ⟨h.1.1, h.1.2, h.2⟩
theorem hp_CY_yl {y : Nat → Nat → Nat} {L : hp_L} {h : Nat} {pu pu' : Int32} {D D' : hy_M} (hY : hp_CY 1 y pu D) (f : ∀ i j, i < 12 → ¬ (i = 0 ∧ (j = 2 ∨ j = 3)) → D' (1 + i) j = D (1 + i) j) (h2 : D' 1 2 = nI h) (h3 : D' 1 3 = hp_pu (hp_yl y L h) pu') (hc : ∀ l, l < 5 → D' 18 l = nI (L.1 l)) (hr : ∀ l, l < 5 → ∀ j, j < L.1 l → D' (13 + l) j = nI (L.2 l j)) : hp_CY 1 (hp_yl y L h) pu' D' := by
  refine ⟨h3, fun i j hd => ?_⟩
  obtain ⟨d1, d2⟩ := hd
  have hb := hp_ub_lt d1
  by_cases q : i = 17
  · subst q
    have : hp_ub 17 = 5 := by decide
    exact hc j (by omega)
  · by_cases q2 : 12 ≤ i
    · obtain ⟨l, rfl⟩ : ∃ l, i = 12 + l := ⟨i - 12, by omega⟩
      have d3 : j < L.1 (12 + l - 12) := d2 q2 (by omega)
      rw [show 12 + l - 12 = l by omega] at d3
      rw [hp_yl_r (by omega), show 1 + (12 + l) = 13 + l by omega]
      exact hr l (by omega) j d3
    · by_cases q3 : i = 0 ∧ j = 2
      · obtain ⟨rfl, rfl⟩ := q3
        exact h2
      · have : hp_ub 0 = 3 := by decide
        rw [hp_yl_n (by omega) q3, f i j (by omega) (fun z => by
          obtain ⟨rfl, z⟩ := z
          omega)]
        exact hY.2 i j ⟨d1, fun a b => absurd a q2⟩
theorem hp_MY_yl {y : Nat → Nat → Nat} {L : hp_L} {h : Nat} {pu pu' : Int32} {D D' : hy_M} (hY : hp_MY 68 y pu D) (f : ∀ p, p < 49 → p ≠ 2 → p ≠ 3 → D' 68 p = D 68 p) (h2 : D' 68 2 = nI h) (h3 : D' 68 3 = hp_pu (hp_yl y L h) pu') (hL : hp_LN L D') : hp_MY 68 (hp_yl y L h) pu' D' := by
  refine ⟨h3, fun i j hd h4 => ?_⟩
  obtain ⟨d1, d2⟩ := hd
  have hb := hp_ub_lt d1
  by_cases q : i = 17
  · subst q
    have : hp_ub 17 = 5 := by decide
    rw [hp_pos_lq j (by omega)]
    exact (hL j (by omega)).1
  · by_cases q2 : 12 ≤ i
    · obtain ⟨l, rfl⟩ : ∃ l, i = 12 + l := ⟨i - 12, by omega⟩
      have d3 : j < L.1 (12 + l - 12) := d2 q2 (by omega)
      rw [show 12 + l - 12 = l by omega] at d3
      rw [hp_yl_r (by omega), hp_pos_lp l (by omega) j (by omega)]
      exact (hL l (by omega)).2 j d3
    · by_cases q3 : i = 0 ∧ j = 2
      · obtain ⟨rfl, rfl⟩ := q3
        exact h2
      · obtain ⟨z1, z2, z3⟩ := hp_pos_low (by omega) hb.2 d1 h4 q3
        rw [hp_yl_n (by omega) q3, f _ z1 z2 z3]
        exact hY.2 i j ⟨d1, fun a b => absurd a q2⟩ h4
theorem hp_WF_yl {y : Nat → Nat → Nat} (hw : hp_WF y) {L : hp_L} (hO : hp_LO y L) (ht : hp_tot L = y 0 0) : hp_WF (hp_yl y L 1) := by
  have n : ∀ i j, i < 12 → ¬ (i = 0 ∧ j = 2) → hp_yl y L 1 i j = y i j := fun i j a b => hp_yl_n a b
  obtain ⟨a1, a2, a3, a4, a5, a6, a7, a8, a9, a10, a11⟩ := hw
  refine ⟨by rw [n 0 0 (by omega) (by omega)]; exact a1, by rw [n 0 1 (by omega) (by omega)]; exact a2, by rw [hp_yl_h]; omega, fun w h8 => by rw [n 1 w (by omega) (by omega), n 2 w (by omega) (by omega), n 3 w (by omega) (by omega)]; exact a4 w h8, fun t ht j hj => by rw [n (6 + t) j (by omega) (by omega)]; exact a5 t ht j hj, by rw [n 8 0 (by omega) (by omega), n 8 1 (by omega) (by omega), n 0 0 (by omega) (by omega)]; exact a6, fun t ht => by rw [n 9 t (by omega) (by omega)]; exact a7 t ht, fun w h0 => ?_, fun t ht j hj => ?_, ?_, fun l hl j hj => ?_⟩
  · rw [n 0 0 (by omega) (by omega)] at h0
    have tw := (a4 w (by omega)).2.2
    rw [n 1 w (by omega) (by omega), n 4 w (by omega) (by omega), n 3 w (by omega) (by omega), n 8 (y 3 w) (by omega) (by omega), n (6 + y 3 w) (y 4 w) (by omega) (by omega)]
    exact a8 w h0
  · rw [n 8 t (by omega) (by omega)] at hj
    rw [n (6 + t) j (by omega) (by omega), n 0 0 (by omega) (by omega), n 3 _ (by omega) (by omega), n 4 _ (by omega) (by omega)]
    exact a9 t ht j hj
  · rw [n 0 0 (by omega) (by omega), hp_yl_h, if_neg (by omega)]
    exact ht
  · rw [hp_yl_r hl, n 0 0 (by omega) (by omega), n 3 _ (by omega) (by omega)]
    exact hO l hl j hj
def hp_ly (y : Nat → Nat → Nat) : hp_L := (y 17, fun l => y (12 + l))
theorem hp_ly_w {y : Nat → Nat → Nat} (hw : hp_WF y) : hp_LO y (hp_ly y) ∧ hp_tot (hp_ly y) = (if y 0 2 = 0 then 0 else y 0 0) := ⟨hw.2.2.2.2.2.2.2.2.2.2, hw.2.2.2.2.2.2.2.2.2.1⟩
theorem hp_ly_N {y : Nat → Nat → Nat} {pu : Int32} {D : hy_M} (hw : hp_WF y) (h : hp_MY 68 y pu D) : hp_LN (hp_ly y) D := by
  have b17 := (hp_Wb hw).2.2.2.2.1
  intro l hl
  have : hp_ub 17 = 5 := by decide
  have u : ∀ l, l < 5 → hp_ub (12 + l) = 8 := by decide
  have hb := b17 l hl
  refine ⟨?_, fun j hj => ?_⟩
  · rw [← hp_pos_lq l hl]
    exact h.2 17 l ⟨by omega, fun a b => absurd b (by omega)⟩ (by omega)
  · have hj' : j < y 17 l := hj
    rw [← hp_pos_lp l hl j (by omega)]
    exact h.2 (12 + l) j ⟨by rw [u l hl]; omega, fun a b => by rw [show 12 + l - 12 = l by omega]; exact hj'⟩ (by omega)
theorem hp_LN0 {L : hp_L} {D : hy_M} (h : hp_LN L D) (h0 : hp_tot L = 0) : hp_LN hp_L0 D := fun l hl => by
  have := hp_tot_le (L := L) hl
  have e : L.1 l = 0 := by omega
  refine ⟨?_, fun j hj => absurd hj (by show ¬ j < 0; omega)⟩
  have := (h l hl).1
  rw [e] at this
  exact this
theorem hp_ov01 (y : Nat → Nat → Nat) (cnt : Nat → Nat) (row : Nat → Nat → Nat) : hp_ov y cnt row = 0 ∨ hp_ov y cnt row = 1 := by
  unfold hp_ov
  split
  · right; rfl
  · split
    · right; rfl
    · split
      · right; rfl
      · left; rfl
section
variable {y : Nat → Nat → Nat} {pu : Int32} {yk : Nat → Nat → Nat} {pk : Int32} {fl T P : Nat} {tp pp : Nat → Nat} {ls : Nat → Int32} {lc : Nat → Nat → Int32}
theorem hp_thX (N : Nat) (hN : 10 ≤ N) (hw : hp_WF y) {D D1 : hy_M} (hX : hp_X (y, pu, yk, pk, fl, T, P, tp, pp, ls, lc) D) (hf : ∀ q, q < 19 → D1 q = D q) : ∃ D2, F_X7_humpInto N D1 = some D2 ∧ hp_LX (hp_H y (y 2)).1 (hp_H y (y 2)).2 D2 ∧ ∀ q, ¬ (60 ≤ q ∧ q < 66) → D2 q = D1 q := by
  have b0 := hw.1
  obtain ⟨x00, x01, x02, x03, x1, x2, x3, x4, x6, x8, x9, x12, x17⟩ := hp_Xf hw hX.1
  exact hp_hiX N hN hw (by rw [hf 1 (by omega)]; exact x00) (fun j hj => by rw [hf 3 (by omega)]; exact x2 j (by omega)) (fun j hj => (hw.2.2.2.1 j (by omega)).2.1) (fun j hj => by rw [hf 4 (by omega)]; exact x3 j hj)
theorem hp_tpX (N : Nat) (hN : 10 ≤ N) (hw : hp_WF y) {D D1 : hy_M} (hX : hp_X (y, pu, yk, pk, fl, T, P, tp, pp, ls, lc) D) (hf : ∀ q, q < 19 → D1 q = D q) {L : hp_L} (hL : hp_LX L.1 L.2 D1) (hO : hp_LO y L) (h8 : hp_tot L ≤ 8) {t : Nat} (ht : t < 3) : ∃ D2, F_X7_pullIn N (nI t) D1 = some (nI (L.1 t), D2) ∧ hp_LX (hp_pul y (y 2) t L).1 (hp_pul y (y 2) t L).2 D2 ∧ ∀ q, ¬ (60 ≤ q ∧ q < 66) → D2 q = D1 q := by
  have b0 := hw.1
  obtain ⟨x00, x01, x02, x03, x1, x2, x3, x4, x6, x8, x9, x12, x17⟩ := hp_Xf hw hX.1
  exact hp_piX N hN hw (fun j hj => by rw [hf 3 (by omega)]; exact x2 j (by omega)) (fun j hj => (hw.2.2.2.1 j (by omega)).2.1) (fun j hj => by rw [hf 4 (by omega)]; exact x3 j hj) ht hL hO h8
theorem hp_toX (N : Nat) (hN : 10 ≤ N) (hw : hp_WF y) {D D1 : hy_M} (hX : hp_X (y, pu, yk, pk, fl, T, P, tp, pp, ls, lc) D) (hf : ∀ q, q < 19 → D1 q = D q) {L : hp_L} (hL : hp_LX L.1 L.2 D1) (hO : hp_LO y L) (h8 : hp_tot L ≤ 8) : F_X7_isOverfull N D1 = some (nI (hp_ov y L.1 L.2), D1) := by
  have b0 := hw.1
  obtain ⟨x00, x01, x02, x03, x1, x2, x3, x4, x6, x8, x9, x12, x17⟩ := hp_Xf hw hX.1
  exact hp_ovX N hN hw (fun j hj => by rw [hf 2 (by omega)]; exact x1 j hj) (fun t ht => by rw [hf 10 (by omega)]; exact x9 t ht) hL.1 (fun l hl => by have := hp_tot_le (L := L) hl; omega) hL.2 (fun l hl j hj => by have := (hO l hl j hj).1; omega)
theorem hp_toM (N : Nat) (hN : 10 ≤ N) (hw : hp_WF y) {D D1 : hy_M} (hM : hp_MY 68 y pu D) (hf : hp_fk D D1) {L : hp_L} (hL : hp_LN L D1) (hO : hp_LO y L) (h8 : hp_tot L ≤ 8) : F_X9_isOver N D1 = some (nI (hp_ov y L.1 L.2), D1) := by
  have b0 := hw.1
  obtain ⟨m00, m01, m02, m03, m4, m12, m20, m30, m28, m46, m70, m51, m67, m49⟩ := hp_Mf hw hM
  refine hp_ovM N hN hw (fun j hj => by rw [hf.2.2 _ (by omega) (by omega) (by omega)]; exact m4 j hj) (fun t ht => by rw [hf.2.2 _ (by omega) (by omega) (by omega)]; exact m46 t ht) (fun l hl => ?_) (fun l hl => by have := hp_tot_le (L := L) (l := l) (by omega); omega) (fun l hl j hj => ?_) (fun l hl j hj => by have := (hO l (by omega) j hj).1; omega)
  · have hb := hp_lp_b l (by omega)
    have := (hL l (by omega)).1
    rw [show hp_lq l = 67 + l by omega] at this
    exact this
  · have hb := hp_lp_b l (by omega)
    have := (hL l (by omega)).2 j hj
    rw [show hp_lp l = 70 + 8 * l by omega] at this
    exact this
theorem hp_thM (N : Nat) (hN : 10 ≤ N) (hw : hp_WF y) {s : Nat} {D D1 : hy_M} (hM : hp_MY 68 y pu D) (hf : hp_fk D D1) (h14 : D1 67 14 = nI s) (hL : hp_LN hp_L0 D1) {Q : hp_Q} (hQ : hp_PM Q D1) (hs : s = 0 ∨ (s = 1 ∧ Q.1 + 2 * y 0 0 ≤ 80)) : ∃ D2, F_X9_humps N D1 = some D2 ∧ hp_LN (hp_H y (y 2)) D2 ∧ hp_PM (hp_huQ s y (y 2) (y 0 0) 0 Q) D2 ∧ D2 67 13 = D1 67 13 + nI (y 0 0) ∧ D2 68 2 = nI 1 ∧ D2 68 3 = D1 68 3 ∧ hp_fk D1 D2 := by
  have b0 := hw.1
  obtain ⟨m00, m01, m02, m03, m4, m12, m20, m30, m28, m46, m70, m51, m67, m49⟩ := hp_Mf hw hM
  exact hp_hmM2 N hN hw (s := s) (fun j hj => (hw.2.2.2.1 j (by omega)).2.1) (by rw [hf.2.2 _ (by omega) (by omega) (by omega)]; exact m00) (fun j hj => by rw [hf.2.2 _ (by omega) (by omega) (by omega)]; exact m12 j (by omega)) (fun j hj => by rw [hf.2.2 _ (by omega) (by omega) (by omega)]; exact m20 j hj) h14 hL hQ hs
theorem hp_tpM (N : Nat) (hN : 10 ≤ N) (hw : hp_WF y) {s : Nat} {D D1 : hy_M} (hM : hp_MY 68 y pu D) (hf : hp_fk D D1) (h14 : D1 67 14 = nI s) {L : hp_L} (hL : hp_LN L D1) (hO : hp_LO y L) (h8 : hp_tot L ≤ 8) {Q : hp_Q} (hQ : hp_PM Q D1) {t : Nat} (ht : t < 3) (hs : s = 0 ∨ (s = 1 ∧ Q.1 + 2 * L.1 t ≤ 80)) : ∃ D2, F_X9_pulls N (nI t) D1 = some D2 ∧ hp_LN (hp_pul y (y 2) t L) D2 ∧ hp_PM (hp_pulQ s y (y 2) t L Q) D2 ∧ D2 67 13 = D1 67 13 + nI (L.1 t) ∧ D2 68 2 = D1 68 2 ∧ D2 68 3 = D1 68 3 + nI 1 ∧ hp_fk D1 D2 := by
  have b0 := hw.1
  obtain ⟨m00, m01, m02, m03, m4, m12, m20, m30, m28, m46, m70, m51, m67, m49⟩ := hp_Mf hw hM
  exact hp_puM N hN hw (s := s) (fun j hj => (hw.2.2.2.1 j (by omega)).2.1) ht (fun j hj => by rw [hf.2.2 _ (by omega) (by omega) (by omega)]; exact m12 j (by omega)) (fun j hj => by rw [hf.2.2 _ (by omega) (by omega) (by omega)]; exact m20 j hj) h14 hL hQ hO h8 hs
theorem hp_R_yl {P' h : Nat} {pp' : Nat → Nat} {pu' : Int32} {L : hp_L} {D D1 : hy_M} (hR : hp_R (y, pu, yk, pk, fl, T, P, tp, pp, ls, lc) D) (hf : hp_fk D D1) (hL : hp_LN L D1) (hQ : hp_PM (P', pp') D1) (h2 : D1 68 2 = nI h) (h3 : D1 68 3 = hp_pu (hp_yl y L h) pu') : hp_R (hp_yl y L h, pu', yk, pk, fl, T, P', tp, pp', ls, lc) D1 := by
  obtain ⟨k1, k2, k3, k4, k5, k6, k7, k8⟩ := hR.2
  exact ⟨hp_MY_yl hR.1 hf.2.2 h2 h3 hL, by rw [hf.2.1 3 (by omega) (by omega)]; exact k1, fun e => hp_MY_fr (k2 e) (hf.1 69 (by omega) (by omega) (by omega)), by rw [hf.2.1 5 (by omega) (by omega)]; exact k3, fun j hj => by rw [hf.1 71 (by omega) (by omega) (by omega)]; exact k4 j hj, hQ.1, hQ.2, fun l hl => ⟨by rw [hf.1 80 (by omega) (by omega) (by omega)]; exact (k7 l hl).1, fun j hj => by rw [hf.1 79 (by omega) (by omega) (by omega)]; exact (k7 l hl).2 j hj⟩, by rw [hf.2.1 14 (by omega) (by omega)]; exact k8⟩
theorem hp_R_bk {P' T' : Nat} {pp' : Nat → Nat} {D D' : hy_M} (hR : hp_R (y, pu, yk, pk, fl, T, P, tp, pp, ls, lc) D) (h68 : ∀ j, j < 94 → D' 68 j = D 68 j) (hf : ∀ c, c ≠ 67 → c ≠ 68 → c ≠ 70 → c ≠ 77 → D' c = D c) (h3 : D' 67 3 = D 67 3) (h14 : D' 67 14 = D 67 14) (hT : T' ≤ T) (h5 : D' 67 5 = nI T') (hQ : hp_PM (P', pp') D') : hp_R (y, pu, yk, pk, fl, T', P', tp, pp', ls, lc) D' := by
  obtain ⟨k1, k2, k3, k4, k5, k6, k7, k8⟩ := hR.2
  exact ⟨hp_MY_cp hR.1 h68, h3.trans k1, fun e => hp_MY_fr (k2 e) (hf 69 (by omega) (by omega) (by omega) (by omega)), h5, fun j hj => by rw [hf 71 (by omega) (by omega) (by omega) (by omega)]; exact k4 j (by omega), hQ.1, hQ.2, fun l hl => ⟨by rw [hf 80 (by omega) (by omega) (by omega) (by omega)]; exact (k7 l hl).1, fun j hj => by rw [hf 79 (by omega) (by omega) (by omega) (by omega)]; exact (k7 l hl).2 j hj⟩, h14.trans k8⟩
end
theorem hp_coX (N : Nat) {a b : Nat} {D : hy_M} (ha : D 18 3 = nI a) (hb : D 18 4 = nI b) : F_X2_countOut N D = some (nI (a + b), D) := by
  rw [F_X2_countOut_eq]
  simp (disch := omega) only [hp_kN, nI_add, pk_mul, hp_isInN, hp_m1L, hp_l0, hp_l1, hp_l2, hp_l3, hp_l4, hp_l5, hp_l7, hp_l8, hp_l10, hp_l17, hp_l20, hp_l24, hp_l48, hp_l50, hp_l55, hp_l127, hp_lm1, hp_eqN, hp_ltN, hp_inN, hp_cl, if_pos, if_neg, if_true, if_false, Option.bind_some, F_X2_outOf_eq, Nat.reduceAdd, ha, hb]
theorem hp_coX58 (N : Nat) {a b : Nat} {D : hy_M} (ha : D 65 3 = nI a) (hb : D 65 4 = nI b) : F_X2_countOut_58 N D = some (nI (a + b), D) := by
  rw [F_X2_countOut_58_eq]
  simp (disch := omega) only [hp_kN, nI_add, pk_mul, hp_isInN, hp_m1L, hp_l0, hp_l1, hp_l2, hp_l3, hp_l4, hp_l5, hp_l7, hp_l8, hp_l10, hp_l17, hp_l20, hp_l24, hp_l48, hp_l50, hp_l55, hp_l127, hp_lm1, hp_eqN, hp_ltN, hp_inN, hp_cl, if_pos, if_neg, if_true, if_false, Option.bind_some, F_X2_outOf_eq, Nat.reduceAdd, ha, hb]
theorem hp_ouM (N : Nat) {L : hp_L} {D : hy_M} (h : hp_LN L D) : F_X9_outs N D = some (nI (L.1 3 + L.1 4), D) := by
  have a : D 68 49 = nI (L.1 3) := (h 3 (by omega)).1
  have b : D 68 50 = nI (L.1 4) := (h 4 (by omega)).1
  rw [F_X9_outs_eq, a, b, nI_add]
theorem hp_sm70 {D D1 : hy_M} (h : ∀ c, c ≠ 70 → D1 c = D c) : hp_sm D D1 := ⟨fun c a => h c (by omega), fun j _ => by rw [h 67 (by omega)]⟩
theorem st_hump (N : Nat) (hN : 100 ≤ N) : hp_step (F_X8_hump N) (F_X9_hump N) := by
  rintro ⟨y, pu, yk, pk, fl, T, P, tp, pp, ls, lc⟩ ⟨hw, hw1⟩
  obtain ⟨b0, b1, b2, b8, b17, b9⟩ := hp_Wb hw
  by_cases hh : y 0 2 = 1
  · refine ⟨-3, _, ⟨hw, hw1⟩, hp_qx0 fun D hX => ?_, hp_qm0 fun D hR => ?_⟩
    · obtain ⟨x00, x01, x02, x03, x1, x2, x3, x4, x6, x8, x9, x12, x17⟩ := hp_Xf hw hX.1
      rw [hh] at x02
      rw [F_X8_hump_eq]
      simp (disch := omega) only [hp_kN, nI_add, pk_mul, hp_isInN, hp_m1L, hp_l0, hp_l1, hp_l2, hp_l3, hp_l4, hp_l5, hp_l7, hp_l8, hp_l10, hp_l17, hp_l20, hp_l24, hp_l48, hp_l50, hp_l55, hp_l127, hp_lm1, hp_eqN, hp_ltN, hp_inN, hp_cl, if_pos, if_neg, if_true, if_false, Option.bind_some, x02]
    · obtain ⟨m00, m01, m02, m03, m4, m12, m20, m30, m28, m46, m70, m51, m67, m49⟩ := hp_Mf hw hR.1
      rw [hh] at m02
      rw [F_X9_hump_eq]
      simp (disch := omega) only [hp_kN, nI_add, pk_mul, hp_isInN, hp_m1L, hp_l0, hp_l1, hp_l2, hp_l3, hp_l4, hp_l5, hp_l7, hp_l8, hp_l10, hp_l17, hp_l20, hp_l24, hp_l48, hp_l50, hp_l55, hp_l127, hp_lm1, hp_eqN, hp_ltN, hp_inN, hp_cl, if_pos, if_neg, if_true, if_false, Option.bind_some, m02]
  have hh0 : y 0 2 = 0 := by omega
  obtain ⟨hO, ht⟩ := hp_H_w hw (y 2)
  obtain ⟨L, eL⟩ : ∃ L, L = hp_H y (y 2) := ⟨_, rfl⟩
  have kx : ∀ D, hp_X (y, pu, yk, pk, fl, T, P, tp, pp, ls, lc) D → ∃ D1, F_X7_humpInto N D = some D1 ∧ hp_LX L.1 L.2 D1 ∧ (∀ q, ¬ (60 ≤ q ∧ q < 66) → D1 q = D q) ∧ F_X7_isOverfull N D1 = some (nI (hp_ov y L.1 L.2), D1) := fun D hX => by
    obtain ⟨D1, e1, f1, f2⟩ := hp_thX N (by omega) hw hX (D1 := D) (fun _ _ => rfl)
    rw [eL]
    exact ⟨D1, e1, f1, f2, hp_toX N (by omega) hw hX (fun q hq => f2 q (by omega)) f1 hO (by omega)⟩
  have km : ∀ D, hp_R (y, pu, yk, pk, fl, T, P, tp, pp, ls, lc) D → ∃ D1 D2, F_X9_copies N D = some D1 ∧ F_X9_humps N D1 = some D2 ∧ (∀ j, j < 94 → D1 70 j = D 68 j) ∧ (∀ c, c ≠ 70 → D1 c = D c) ∧ hp_R (y, pu, yk, pk, fl, T, P, tp, pp, ls, lc) D1 ∧ hp_LN L D2 ∧ hp_PM (P, pp) D2 ∧ D2 68 2 = nI 1 ∧ D2 68 3 = nI 0 ∧ hp_fk D1 D2 ∧ F_X9_isOver N D2 = some (nI (hp_ov y L.1 L.2), D2) := fun D hR0 => by
    obtain ⟨D1, e1, f1, f2⟩ := hp_mc N hN D
    have hR := hp_R_sm hR0 (hp_sm70 f2)
    have h0 : hp_LN hp_L0 D1 := hp_LN0 (hp_ly_N hw hR.1) (by rw [(hp_ly_w hw).2, if_pos hh0])
    obtain ⟨D2, e2, g1, g2, g3, g4, g5, g6⟩ := hp_thM N (by omega) hw (s := 0) hR.1 (hp_fk_rf D1) hR.2.2.2.2.2.2.2.2 h0 (Q := (P, pp)) ⟨hR.2.2.2.2.2.1, hR.2.2.2.2.2.2.1⟩ (Or.inl rfl)
    rw [hp_huQ0] at g2
    rw [eL]
    refine ⟨D1, D2, e1, e2, f1, f2, hR, g1, g2, g4, ?_, g6, hp_toM N (by omega) hw hR.1 g6 g1 hO (by omega)⟩
    have : D1 68 3 = hp_pu y pu := hR.1.1
    rw [g5, this]
    unfold hp_pu
    rw [if_pos hh0]
  rw [← eL] at hO ht
  clear eL
  rcases hp_ov01 y L.1 L.2 with ov | ov
  · have hq : hp_pu (hp_yl y L 1) (nI 0) = nI 0 := by
      unfold hp_pu
      rw [hp_yl_h, if_neg (by omega)]
    refine ⟨nI (L.1 3 + L.1 4), (hp_yl y L 1, nI 0, yk, pk, fl, T, P, tp, pp, ls, lc), ⟨hp_WF_yl hw hO ht, hw1⟩, fun D hX => ?_, fun D hR0 => ?_⟩
    · obtain ⟨D1, e1, f1, f2, f3⟩ := kx D hX
      rw [ov] at f3
      obtain ⟨D2, e2, g1, g2, g3⟩ := hp_lb N (by omega) L.1 D1 f1.1 (fun l hl => by have := hp_tot_le (L := L) hl; omega)
      have z1 : hy_w (hy_w D2 1 2 (nI 1)) 1 3 (nI 0) 18 3 = nI (L.1 3) := by rw [hp_wn (Or.inl (by omega)), hp_wn (Or.inl (by omega))]; exact g1 3 (by omega)
      have z2 : hy_w (hy_w D2 1 2 (nI 1)) 1 3 (nI 0) 18 4 = nI (L.1 4) := by rw [hp_wn (Or.inl (by omega)), hp_wn (Or.inl (by omega))]; exact g1 4 (by omega)
      have k1 := hp_coX N z1 z2
      have zf : ∀ q, q ≠ 1 → ¬ (13 ≤ q ∧ q < 19) → ¬ (60 ≤ q ∧ q < 66) → hy_w (hy_w D2 1 2 (nI 1)) 1 3 (nI 0) q = D q := fun q a b c => by rw [hy_w_ne a, hy_w_ne a, g3 q (by omega) (by omega), f2 q c]
      refine ⟨hy_w (hy_w D2 1 2 (nI 1)) 1 3 (nI 0), ?_, ⟨hp_CY_yl hX.1 (fun i j hi hj => ?_) (by rw [hp_wn (Or.inr (by omega)), hp_ws]) (by rw [hp_ws, hq]) (fun l hl => by rw [hp_wn (Or.inl (by omega)), hp_wn (Or.inl (by omega))]; exact g1 l hl) (fun l hl j hj => by rw [hp_wn (Or.inl (by omega)), hp_wn (Or.inl (by omega)), g2 l hl j hj]; exact f1.2 l hl j hj), hp_C1_fr hX.2 (fun q hq => zf q (by omega) (by omega) (by omega))⟩, fun q a b => zf q (by omega) (by omega) (by omega)⟩
      · obtain ⟨x00, x01, x02, x03, x1, x2, x3, x4, x6, x8, x9, x12, x17⟩ := hp_Xf hw hX.1
        rw [hh0] at x02
        rw [F_X8_hump_eq]
        clear f1 f2 g1 g2 g3 zf z1 z2
        simp (disch := omega) only [hp_kN, nI_add, pk_mul, hp_isInN, hp_m1L, hp_l0, hp_l1, hp_l2, hp_l3, hp_l4, hp_l5, hp_l7, hp_l8, hp_l10, hp_l17, hp_l20, hp_l24, hp_l48, hp_l50, hp_l55, hp_l127, hp_lm1, hp_eqN, hp_ltN, hp_inN, hp_cl, if_pos, if_neg, if_true, if_false, Option.bind_some, x02, e1, f3, e2, k1]
      · by_cases q : i = 0
        · subst q
          rw [hp_wn (Or.inr (by omega)), hp_wn (Or.inr (by omega)), g3 1 (by omega) (by omega), f2 1 (by omega)]
        · rw [zf _ (by omega) (by omega) (by omega)]
    · obtain ⟨D1, D2, e1, e2, f1, f2, hR, g1, g2, g3, g4, g5, g6⟩ := km D hR0
      rw [ov] at g6
      have k1 := hp_ouM N g1
      refine ⟨D2, ?_, hp_R_yl hR g5 g1 g2 g3 (g4.trans hq.symm), fun c a => by rw [g5.1 c (by omega) (by omega) (by omega), f2 c (by omega)]⟩
      have m02 : D 68 2 = nI (y 0 2) := hp_mb hR0.1 (i := 0) (j := 2) (by decide) (by omega) (by omega)
      rw [hh0] at m02
      rw [F_X9_hump_eq]
      clear f1 f2 g1 g2 g3 g4 g5 kx km
      simp (disch := omega) only [hp_kN, nI_add, pk_mul, hp_isInN, hp_m1L, hp_l0, hp_l1, hp_l2, hp_l3, hp_l4, hp_l5, hp_l7, hp_l8, hp_l10, hp_l17, hp_l20, hp_l24, hp_l48, hp_l50, hp_l55, hp_l127, hp_lm1, hp_eqN, hp_ltN, hp_inN, hp_cl, if_pos, if_neg, if_true, if_false, Option.bind_some, m02, e1, e2, g6, k1]
  · refine ⟨-4, _, ⟨hw, hw1⟩, hp_qx fun D hX => ?_, fun D hR0 => ?_⟩
    · obtain ⟨D1, e1, f1, f2, f3⟩ := kx D hX
      rw [ov] at f3
      refine ⟨D1, ?_, fun q hq => f2 q (by omega)⟩
      obtain ⟨x00, x01, x02, x03, x1, x2, x3, x4, x6, x8, x9, x12, x17⟩ := hp_Xf hw hX.1
      rw [hh0] at x02
      rw [F_X8_hump_eq]
      clear f1 f2
      simp (disch := omega) only [hp_kN, nI_add, pk_mul, hp_isInN, hp_m1L, hp_l0, hp_l1, hp_l2, hp_l3, hp_l4, hp_l5, hp_l7, hp_l8, hp_l10, hp_l17, hp_l20, hp_l24, hp_l48, hp_l50, hp_l55, hp_l127, hp_lm1, hp_eqN, hp_ltN, hp_inN, hp_cl, if_pos, if_neg, if_true, if_false, Option.bind_some, x02, e1, f3]
    · obtain ⟨D1, D2, e1, e2, f1, f2, hR, g1, g2, g3, g4, g5, g6⟩ := km D hR0
      rw [ov] at g6
      obtain ⟨D3, e3, k1, k2⟩ := hp_mc_67_70_68 N hN D2
      refine ⟨D3, ?_, hp_R_bk hR0 (fun j hj => by rw [k1 j hj, g5.1 70 (by omega) (by omega) (by omega), f1 j hj]) (fun c a b d e => by rw [k2 c b, g5.1 c a b e, f2 c d]) (by rw [k2 67 (by omega), g5.2.1 3 (by omega) (by omega), f2 67 (by omega)]) (by rw [k2 67 (by omega), g5.2.1 14 (by omega) (by omega), f2 67 (by omega)]) (Nat.le_refl T) (by rw [k2 67 (by omega), g5.2.1 5 (by omega) (by omega), f2 67 (by omega)]; exact hR0.2.2.2.1) ⟨by rw [k2 67 (by omega)]; exact g2.1, fun j hj => by rw [k2 77 (by omega)]; exact g2.2 j hj⟩, fun c a => by rw [k2 c (by omega), g5.1 c (by omega) (by omega) (by omega), f2 c (by omega)]⟩
      have m02 : D 68 2 = nI (y 0 2) := hp_mb hR0.1 (i := 0) (j := 2) (by decide) (by omega) (by omega)
      rw [hh0] at m02
      rw [F_X9_hump_eq]
      clear f1 f2 g1 g2 g3 g4 g5 kx km k1 k2
      simp (disch := omega) only [hp_kN, nI_add, pk_mul, hp_isInN, hp_m1L, hp_l0, hp_l1, hp_l2, hp_l3, hp_l4, hp_l5, hp_l7, hp_l8, hp_l10, hp_l17, hp_l20, hp_l24, hp_l48, hp_l50, hp_l55, hp_l127, hp_lm1, hp_eqN, hp_ltN, hp_inN, hp_cl, if_pos, if_neg, if_true, if_false, Option.bind_some, m02, e1, e2, g6, e3]
theorem st_pull (N : Nat) (hN : 100 ≤ N) (a : Int32) : hp_step (F_X8_pull N a) (F_X9_pull N a) := by
  rintro ⟨y, pu, yk, pk, fl, T, P, tp, pp, ls, lc⟩ ⟨hw, hw1⟩
  obtain ⟨b0, b1, b2, b8, b17, b9⟩ := hp_Wb hw
  rcases hp_arg a with ⟨a0, a1, a2⟩ | ⟨t, ht0, rfl⟩
  · refine ⟨-1, _, ⟨hw, hw1⟩, hp_qx0 fun D hX => ?_, hp_qm0 fun D hR => ?_⟩
    · rw [F_X8_pull_eq, hp_X_isTrackg N a0]
      rfl
    · rw [F_X9_pull_eq, hp_M_isTrackg N a2]
      rfl
  by_cases ht : t < 3
  case neg =>
    refine ⟨-1, _, ⟨hw, hw1⟩, hp_qx0 fun D hX => ?_, hp_qm0 fun D hR => ?_⟩
    · rw [F_X8_pull_eq, hp_X_isTrack N ht0, if_neg ht]
      rfl
    · rw [F_X9_pull_eq, hp_M_isTrack N ht0, if_neg ht]
      rfl
  by_cases hh : y 0 2 = 0
  · refine ⟨-3, _, ⟨hw, hw1⟩, hp_qx0 fun D hX => ?_, hp_qm0 fun D hR => ?_⟩
    · obtain ⟨x00, x01, x02, x03, x1, x2, x3, x4, x6, x8, x9, x12, x17⟩ := hp_Xf hw hX.1
      rw [hh] at x02
      rw [F_X8_pull_eq]
      simp (disch := omega) only [hp_kN, nI_add, pk_mul, hp_isInN, hp_m1L, hp_l0, hp_l1, hp_l2, hp_l3, hp_l4, hp_l5, hp_l7, hp_l8, hp_l10, hp_l17, hp_l20, hp_l24, hp_l48, hp_l50, hp_l55, hp_l127, hp_lm1, hp_eqN, hp_ltN, hp_inN, hp_cl, if_pos, if_neg, if_true, if_false, Option.bind_some, hp_X_isTrack, x02]
    · obtain ⟨m00, m01, m02, m03, m4, m12, m20, m30, m28, m46, m70, m51, m67, m49⟩ := hp_Mf hw hR.1
      rw [hh] at m02
      rw [F_X9_pull_eq]
      simp (disch := omega) only [hp_kN, nI_add, pk_mul, hp_isInN, hp_m1L, hp_l0, hp_l1, hp_l2, hp_l3, hp_l4, hp_l5, hp_l7, hp_l8, hp_l10, hp_l17, hp_l20, hp_l24, hp_l48, hp_l50, hp_l55, hp_l127, hp_lm1, hp_eqN, hp_ltN, hp_inN, hp_cl, if_pos, if_neg, if_true, if_false, Option.bind_some, hp_M_isTrack, m02]
  have hh1 : y 0 2 = 1 := by omega
  obtain ⟨hO0, ht0'⟩ := hp_ly_w hw
  rw [if_neg hh] at ht0'
  obtain ⟨hO, htt⟩ := hp_pul_w hw (y 2) ht hO0
  rw [ht0'] at htt
  obtain ⟨L, eL⟩ : ∃ L, L = hp_pul y (y 2) t (hp_ly y) := ⟨_, rfl⟩
  have hk8 := b17 t (by omega)
  have kx : ∀ D, hp_X (y, pu, yk, pk, fl, T, P, tp, pp, ls, lc) D → ∃ D1 D2, F_X2_become_58_11 N D = some D1 ∧ F_X7_pullIn N (nI t) D1 = some (nI (y 17 t), D2) ∧ hp_LX L.1 L.2 D2 ∧ (∀ q, ¬ (60 ≤ q ∧ q < 66) → D2 q = D q) ∧ F_X7_isOverfull N D2 = some (nI (hp_ov y L.1 L.2), D2) := fun D hX => by
    obtain ⟨x00, x01, x02, x03, x1, x2, x3, x4, x6, x8, x9, x12, x17⟩ := hp_Xf hw hX.1
    obtain ⟨D1, e1, f1, f2, f3⟩ := hp_lb_58_11 N (by omega) (y 17) D x17 b17
    have hLX : hp_LX (hp_ly y).1 (hp_ly y).2 D1 := ⟨f1, fun l hl j hj => by
      rw [f2 l hl j hj]
      exact x12 l hl j hj⟩
    obtain ⟨D2, e2, g1, g2⟩ := hp_tpX N (by omega) hw hX (D1 := D1) (fun q hq => f3 q (by omega) (by omega)) hLX hO0 (by omega) ht
    rw [eL]
    exact ⟨D1, D2, e1, e2, g1, fun q hq => by rw [g2 q hq, f3 q (by omega) (by omega)], hp_toX N (by omega) hw hX (fun q hq => by rw [g2 q (by omega), f3 q (by omega) (by omega)]) g1 hO (by omega)⟩
  have km : ∀ D, hp_R (y, pu, yk, pk, fl, T, P, tp, pp, ls, lc) D → ∃ D1 D2, F_X9_copies N D = some D1 ∧ F_X9_pulls N (nI t) (hy_w D1 67 13 (nI 0)) = some D2 ∧ (∀ j, j < 94 → D1 70 j = D 68 j) ∧ (∀ c, c ≠ 70 → D1 c = D c) ∧ hp_R (y, pu, yk, pk, fl, T, P, tp, pp, ls, lc) D1 ∧ hp_LN L D2 ∧ hp_PM (P, pp) D2 ∧ D2 68 2 = nI 1 ∧ D2 68 3 = pu + nI 1 ∧ hp_fk D1 D2 ∧ D2 67 13 = nI (y 17 t) ∧ F_X9_isOver N D2 = some (nI (hp_ov y L.1 L.2), D2) := fun D hR0 => by
    obtain ⟨D1, e1, f1, f2⟩ := hp_mc N hN D
    have hR := hp_R_sm hR0 (hp_sm70 f2)
    have hf : hp_fk D1 (hy_w D1 67 13 (nI 0)) := ⟨fun q a _ _ => hy_w_ne a, fun j a _ => hp_wn (Or.inr a), fun p _ _ _ => hp_wn (Or.inl (by omega))⟩
    obtain ⟨D2, e2, g1, g2, g3, g4, g5, g6⟩ := hp_tpM N (by omega) hw (s := 0) hR.1 hf (by rw [hp_wn (Or.inr (by omega))]; exact hR.2.2.2.2.2.2.2.2) (hp_LN_fr (hp_ly_N hw hR.1) (hy_w_ne (by omega))) hO0 (by omega) (Q := (P, pp)) ⟨by rw [hp_wn (Or.inr (by omega))]; exact hR.2.2.2.2.2.1, fun j hj => by rw [hy_w_ne (by omega)]; exact hR.2.2.2.2.2.2.1 j hj⟩ ht (Or.inl rfl)
    have g2' : hp_PM (P, pp) D2 := by
      unfold hp_pulQ at g2
      rw [hp_plQ0] at g2
      exact g2
    have hfk := hp_fk_tr hf g6
    rw [eL]
    refine ⟨D1, D2, e1, e2, f1, f2, hR, g1, g2', ?_, ?_, hfk, ?_, hp_toM N (by omega) hw hR.1 hfk g1 hO (by omega)⟩
    · rw [g4, hp_wn (Or.inl (by omega))]
      have : D1 68 2 = nI (y 0 2) := hp_mb hR.1 (i := 0) (j := 2) (by decide) (by omega) (by omega)
      rw [this, hh1]
    · rw [g5, hp_wn (Or.inl (by omega))]
      have : D1 68 3 = hp_pu y pu := hR.1.1
      rw [this]
      unfold hp_pu
      rw [if_neg hh]
    · rw [g3, hp_ws, nI_add, Nat.zero_add]
      rfl
  rw [← eL] at hO htt
  clear eL
  have hq : hp_pu (hp_yl y L 1) (pu + nI 1) = pu + nI 1 := by
    unfold hp_pu
    rw [hp_yl_h, if_neg (by omega)]
  have hq0 : hp_pu y pu = pu := by
    unfold hp_pu
    rw [if_neg hh]
  rcases hp_ov01 y L.1 L.2 with ov | ov
  · refine ⟨nI (y 17 t), (hp_yl y L 1, pu + nI 1, yk, pk, fl, T, P, tp, pp, ls, lc), ⟨hp_WF_yl hw hO htt, hw1⟩, fun D hX => ?_, fun D hR0 => ?_⟩
    · obtain ⟨D1, D2, e1, e2, f1, f2, f3⟩ := kx D hX
      rw [ov] at f3
      obtain ⟨D3, e3, g1, g2, g3⟩ := hp_lb N (by omega) L.1 D2 f1.1 (fun l hl => by have := hp_tot_le (L := L) hl; omega)
      have zf : ∀ q, q ≠ 1 → ¬ (13 ≤ q ∧ q < 19) → ¬ (60 ≤ q ∧ q < 66) → hy_w D3 1 3 (pu + nI 1) q = D q := fun q a b c => by rw [hy_w_ne a, g3 q (by omega) (by omega), f2 q c]
      have z1 : D3 1 = D 1 := by rw [g3 1 (by omega) (by omega), f2 1 (by omega)]
      obtain ⟨x00, x01, x02, x03, x1, x2, x3, x4, x6, x8, x9, x12, x17⟩ := hp_Xf hw hX.1
      refine ⟨hy_w D3 1 3 (pu + nI 1), ?_, ⟨hp_CY_yl hX.1 (fun i j hi hj => ?_) (by rw [hp_wn (Or.inr (by omega)), z1, x02, hh1]) (by rw [hp_ws, hq]) (fun l hl => by rw [hp_wn (Or.inl (by omega))]; exact g1 l hl) (fun l hl j hj => by rw [hp_wn (Or.inl (by omega)), g2 l hl j hj]; exact f1.2 l hl j hj), hp_C1_fr hX.2 (fun q hq => zf q (by omega) (by omega) (by omega))⟩, fun q a b => zf q (by omega) (by omega) (by omega)⟩
      · rw [hh1] at x02
        rw [hq0] at x03
        have z3 : D3 1 3 = pu := by rw [z1]; exact x03
        rw [F_X8_pull_eq]
        clear f1 f2 g1 g2 g3 zf z1
        simp (disch := omega) only [hp_kN, nI_add, pk_mul, hp_isInN, hp_m1L, hp_l0, hp_l1, hp_l2, hp_l3, hp_l4, hp_l5, hp_l7, hp_l8, hp_l10, hp_l17, hp_l20, hp_l24, hp_l48, hp_l50, hp_l55, hp_l127, hp_lm1, hp_eqN, hp_ltN, hp_inN, hp_cl, if_pos, if_neg, if_true, if_false, Option.bind_some, hp_X_isTrack, x02, e1, e2, f3, e3, z3]
      · by_cases q : i = 0
        · subst q
          rw [hp_wn (Or.inr (by omega)), z1]
        · rw [zf _ (by omega) (by omega) (by omega)]
    · obtain ⟨D1, D2, e1, e2, f1, f2, hR, g1, g2, g3, g4, g5, g6, g7⟩ := km D hR0
      rw [ov] at g7
      refine ⟨D2, ?_, hp_R_yl hR g5 g1 g2 g3 (g4.trans hq.symm), fun c a => by rw [g5.1 c (by omega) (by omega) (by omega), f2 c (by omega)]⟩
      have m02 : D 68 2 = nI (y 0 2) := hp_mb hR0.1 (i := 0) (j := 2) (by decide) (by omega) (by omega)
      rw [hh1] at m02
      rw [F_X9_pull_eq]
      clear f1 f2 g1 g2 g3 g4 g5 kx km
      simp (disch := omega) only [hp_kN, nI_add, pk_mul, hp_isInN, hp_m1L, hp_l0, hp_l1, hp_l2, hp_l3, hp_l4, hp_l5, hp_l7, hp_l8, hp_l10, hp_l17, hp_l20, hp_l24, hp_l48, hp_l50, hp_l55, hp_l127, hp_lm1, hp_eqN, hp_ltN, hp_inN, hp_cl, if_pos, if_neg, if_true, if_false, Option.bind_some, hp_M_isTrack, m02, e1, e2, g7, g6]
  · refine ⟨-4, _, ⟨hw, hw1⟩, hp_qx fun D hX => ?_, fun D hR0 => ?_⟩
    · obtain ⟨D1, D2, e1, e2, f1, f2, f3⟩ := kx D hX
      rw [ov] at f3
      refine ⟨D2, ?_, fun q hq => f2 q (by omega)⟩
      obtain ⟨x00, x01, x02, x03, x1, x2, x3, x4, x6, x8, x9, x12, x17⟩ := hp_Xf hw hX.1
      rw [hh1] at x02
      rw [F_X8_pull_eq]
      clear f1 f2
      simp (disch := omega) only [hp_kN, nI_add, pk_mul, hp_isInN, hp_m1L, hp_l0, hp_l1, hp_l2, hp_l3, hp_l4, hp_l5, hp_l7, hp_l8, hp_l10, hp_l17, hp_l20, hp_l24, hp_l48, hp_l50, hp_l55, hp_l127, hp_lm1, hp_eqN, hp_ltN, hp_inN, hp_cl, if_pos, if_neg, if_true, if_false, Option.bind_some, hp_X_isTrack, x02, e1, e2, f3]
    · obtain ⟨D1, D2, e1, e2, f1, f2, hR, g1, g2, g3, g4, g5, g6, g7⟩ := km D hR0
      rw [ov] at g7
      obtain ⟨D3, e3, k1, k2⟩ := hp_mc_67_70_68 N hN D2
      refine ⟨D3, ?_, hp_R_bk hR0 (fun j hj => by rw [k1 j hj, g5.1 70 (by omega) (by omega) (by omega), f1 j hj]) (fun c a b d e => by rw [k2 c b, g5.1 c a b e, f2 c d]) (by rw [k2 67 (by omega), g5.2.1 3 (by omega) (by omega), f2 67 (by omega)]) (by rw [k2 67 (by omega), g5.2.1 14 (by omega) (by omega), f2 67 (by omega)]) (Nat.le_refl T) (by rw [k2 67 (by omega), g5.2.1 5 (by omega) (by omega), f2 67 (by omega)]; exact hR0.2.2.2.1) ⟨by rw [k2 67 (by omega)]; exact g2.1, fun j hj => by rw [k2 77 (by omega)]; exact g2.2 j hj⟩, fun c a => by rw [k2 c (by omega), g5.1 c (by omega) (by omega) (by omega), f2 c (by omega)]⟩
      have m02 : D 68 2 = nI (y 0 2) := hp_mb hR0.1 (i := 0) (j := 2) (by decide) (by omega) (by omega)
      rw [hh1] at m02
      rw [F_X9_pull_eq]
      clear f1 f2 g1 g2 g3 g4 g5 kx km k1 k2
      simp (disch := omega) only [hp_kN, nI_add, pk_mul, hp_isInN, hp_m1L, hp_l0, hp_l1, hp_l2, hp_l3, hp_l4, hp_l5, hp_l7, hp_l8, hp_l10, hp_l17, hp_l20, hp_l24, hp_l48, hp_l50, hp_l55, hp_l127, hp_lm1, hp_eqN, hp_ltN, hp_inN, hp_cl, if_pos, if_neg, if_true, if_false, Option.bind_some, hp_M_isTrack, m02, e1, e2, g7, e3]
