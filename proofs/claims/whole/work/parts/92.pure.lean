/-! ===== seen ===== -/
def hp_te1 (lc : Nat → Int32) (row : Nat → Nat) : Nat → Nat → Nat
  | 0, _ => 1
  | m + 1, i => if lc i = nI (row i) then hp_te1 lc row m (i + 1) else 0
def hp_te (s : Nat) (lc : Nat → Int32) (L : hp_L) (t : Nat) : Nat := if s = L.1 (3 + t) then hp_te1 lc (L.2 (3 + t)) (L.1 (3 + t)) 0 else 0
theorem hp_te1_01 (lc : Nat → Int32) (row : Nat → Nat) : ∀ m i, hp_te1 lc row m i = 0 ∨ hp_te1 lc row m i = 1 := by
  intro m
  induction m with
  | zero => intro i; right; rfl
  | succ m ih =>
    intro i
    unfold hp_te1
    split
    · exact ih (i + 1)
    · left; rfl
theorem hp_te_01 (s : Nat) (lc : Nat → Int32) (L : hp_L) (t : Nat) : hp_te s lc L t = 0 ∨ hp_te s lc L t = 1 := by
  unfold hp_te
  split
  · exact hp_te1_01 _ _ _ _
  · left; rfl
theorem hp_teX (N : Nat) (hN : 10 ≤ N) {k s t : Nat} (hk : k < 4) (hs : s ≤ 12) (ht : t < 2) {lc : Nat → Int32} {L : hp_L} {D : hy_M} (h47 : D 47 k = nI s) (h43 : ∀ j, j < s → D (43 + k) j = lc j) (hL : hp_LX L.1 L.2 D) (h8 : hp_tot L ≤ 8) : F_X8_tellsOut N (nI k) (nI t) D = some (nI (hp_te s lc L t), D) := by
  have hc := hL.1 (3 + t) (by omega)
  have hb := hp_tot_le (L := L) (l := 3 + t) (by omega)
  unfold hp_te
  by_cases q : s = L.1 (3 + t)
  · have l : ∀ m i n, i + m = L.1 (3 + t) → m < n → F_X8_tellsOut_35 N n (nI k) (nI (3 + t)) (nI (L.1 (3 + t))) (nI i) D = some (nI (hp_te1 lc (L.2 (3 + t)) m i), D) := by
      intro m
      induction m with
      | zero =>
        intro i n e hm
        obtain ⟨n, rfl⟩ : ∃ n', n = n' + 1 := ⟨n - 1, by omega⟩
        rw [F_X8_tellsOut_35_eq, if_neg]
        · rfl
        · rw [hp_ltN (by omega) (by omega)]
          omega
      | succ m ih =>
        intro i n e hm
        obtain ⟨n, rfl⟩ : ∃ n', n = n' + 1 := ⟨n - 1, by omega⟩
        have hi := ih (i + 1) n (by omega) (by omega)
        have a := h43 i (by omega)
        have b := hL.2 (3 + t) (by omega) i (by omega)
        rw [F_X8_tellsOut_35_eq]
        unfold hp_te1
        clear ih h43 hL
        by_cases z : lc i = nI (L.2 (3 + t) i)
        · have a' : D (43 + k) i = nI (L.2 (3 + t) i) := a.trans z
          rw [if_pos z]
          simp (disch := omega) only [hp_kN, nI_add, pk_mul, hp_isInN, hp_m1L, hp_l0, hp_l1, hp_l2, hp_l3, hp_l4, hp_l5, hp_l7, hp_l8, hp_l10, hp_l17, hp_l20, hp_l24, hp_l48, hp_l50, hp_l55, hp_l127, hp_lm1, hp_eqN, hp_ltN, hp_inN, hp_cl, if_pos, if_neg, if_true, if_false, Option.bind_some, hp_pr42, hp_al43, hp_pr59, hp_al60, a', b, eq_self, hi]
        · rw [if_neg z]
          simp (disch := omega) only [hp_kN, nI_add, pk_mul, hp_isInN, hp_m1L, hp_l0, hp_l1, hp_l2, hp_l3, hp_l4, hp_l5, hp_l7, hp_l8, hp_l10, hp_l17, hp_l20, hp_l24, hp_l48, hp_l50, hp_l55, hp_l127, hp_lm1, hp_eqN, hp_ltN, hp_inN, hp_cl, if_pos, if_neg, if_true, if_false, Option.bind_some, hp_pr42, hp_al43, hp_pr59, hp_al60, a, b, z]
    have l0 := l (L.1 (3 + t)) 0 N (by omega) (by omega)
    rw [if_pos q, F_X8_tellsOut_eq]
    rw [q] at h47
    clear l h43 hL
    simp (disch := omega) only [hp_kN, nI_add, pk_mul, hp_isInN, hp_m1L, hp_l0, hp_l1, hp_l2, hp_l3, hp_l4, hp_l5, hp_l7, hp_l8, hp_l10, hp_l17, hp_l20, hp_l24, hp_l48, hp_l50, hp_l55, hp_l127, hp_lm1, hp_eqN, hp_ltN, hp_inN, hp_cl, if_pos, if_neg, if_true, if_false, Option.bind_some, F_X2_outOf_eq, h47, hc, eq_self, l0]
  · rw [if_neg q, F_X8_tellsOut_eq]
    clear h43 hL
    simp (disch := omega) only [hp_kN, nI_add, pk_mul, hp_isInN, hp_m1L, hp_l0, hp_l1, hp_l2, hp_l3, hp_l4, hp_l5, hp_l7, hp_l8, hp_l10, hp_l17, hp_l20, hp_l24, hp_l48, hp_l50, hp_l55, hp_l127, hp_lm1, hp_eqN, hp_ltN, hp_inN, hp_cl, if_pos, if_neg, if_true, if_false, Option.bind_some, F_X2_outOf_eq, h47, hc]
theorem hp_teM (N : Nat) (hN : 100 ≤ N) {k s t : Nat} (hk : k < 4) (hs : s ≤ 12) (ht : t < 2) {lc : Nat → Int32} {L : hp_L} {D : hy_M} (h79 : s = L.1 (3 + t) → ∀ j, j < s → D 79 (12 * k + j) = lc j) (hL : hp_LN L D) (h8 : hp_tot L ≤ 8) : ∃ D1, F_X9_isSeen_43 N N (nI t) (nI k) (nI (if s = L.1 (3 + t) then 1 else 0)) (nI 0) D = some (nI (hp_te s lc L t), D1) ∧ (∀ j, j < 94 → D1 68 j = D 70 j) ∧ ∀ c, c ≠ 68 → D1 c = D c := by
  obtain ⟨D1, e1, f1, f2⟩ := hp_mc_67_70_68 N hN D
  refine ⟨D1, ?_, f1, f2⟩
  have hbb := hp_lp_b (3 + t) (by omega)
  have hc : D 68 (49 + t) = nI (L.1 (3 + t)) := by
    have := (hL (3 + t) (by omega)).1
    rw [show hp_lq (3 + t) = 49 + t by omega] at this
    exact this
  have hb := hp_tot_le (L := L) (l := 3 + t) (by omega)
  have z0 : F_X9_isSeen_103 N (nI 0) D = some (nI 0, D1) := by
    rw [F_X9_isSeen_103_eq, e1, Option.bind_some, if_pos (show nI 0 = 0 ∨ nI 0 = 1 from Or.inl rfl)]
  have z1 : F_X9_isSeen_103 N (nI 1) D = some (nI 1, D1) := by
    rw [F_X9_isSeen_103_eq, e1, Option.bind_some, if_pos (show nI 1 = 0 ∨ nI 1 = 1 from Or.inr rfl)]
  have l00 : ∀ i n, i < 1000 → 0 < n → F_X9_isSeen_43 N n (nI t) (nI k) (nI 0) (nI i) D = some (nI 0, D1) := fun i n hi hn => by
    obtain ⟨n, rfl⟩ : ∃ n', n = n' + 1 := ⟨n - 1, by omega⟩
    rw [F_X9_isSeen_43_eq]
    clear h79 hL f1 f2
    by_cases q : i < L.1 (3 + t)
    · simp (disch := omega) only [hp_kN, nI_add, pk_mul, hp_isInN, hp_m1L, hp_l0, hp_l1, hp_l2, hp_l3, hp_l4, hp_l5, hp_l7, hp_l8, hp_l10, hp_l17, hp_l20, hp_l24, hp_l48, hp_l50, hp_l55, hp_l127, hp_lm1, hp_eqN, hp_ltN, hp_inN, hp_cl, if_pos, if_neg, if_true, if_false, Option.bind_some, hc, z0]
    · simp (disch := omega) only [hp_kN, nI_add, pk_mul, hp_isInN, hp_m1L, hp_l0, hp_l1, hp_l2, hp_l3, hp_l4, hp_l5, hp_l7, hp_l8, hp_l10, hp_l17, hp_l20, hp_l24, hp_l48, hp_l50, hp_l55, hp_l127, hp_lm1, hp_eqN, hp_ltN, hp_inN, hp_cl, if_pos, if_neg, if_true, if_false, Option.bind_some, hc, z0]
  unfold hp_te
  by_cases q : s = L.1 (3 + t)
  · have h79 := h79 q
    have l : ∀ m i n, i + m = L.1 (3 + t) → m + 1 < n → F_X9_isSeen_43 N n (nI t) (nI k) (nI 1) (nI i) D = some (nI (hp_te1 lc (L.2 (3 + t)) m i), D1) := by
      intro m
      induction m with
      | zero =>
        intro i n e hm
        obtain ⟨n, rfl⟩ : ∃ n', n = n' + 1 := ⟨n - 1, by omega⟩
        rw [F_X9_isSeen_43_eq]
        clear h79 hL f1 f2 l00
        simp (disch := omega) only [hp_kN, nI_add, pk_mul, hp_isInN, hp_m1L, hp_l0, hp_l1, hp_l2, hp_l3, hp_l4, hp_l5, hp_l7, hp_l8, hp_l10, hp_l17, hp_l20, hp_l24, hp_l48, hp_l50, hp_l55, hp_l127, hp_lm1, hp_eqN, hp_ltN, hp_inN, hp_cl, if_pos, if_neg, if_true, if_false, Option.bind_some, hc, z1]
        rfl
      | succ m ih =>
        intro i n e hm
        obtain ⟨n, rfl⟩ : ∃ n', n = n' + 1 := ⟨n - 1, by omega⟩
        have hi := ih (i + 1) n (by omega) (by omega)
        have h0 := l00 (i + 1) n (by omega) (by omega)
        have a := h79 i (by omega)
        have b : D 68 (51 + 8 * t + i) = nI (L.2 (3 + t) i) := by
          have := (hL (3 + t) (by omega)).2 i (by omega)
          rw [show hp_lp (3 + t) = 51 + 8 * t by omega] at this
          exact this
        rw [F_X9_isSeen_43_eq]
        unfold hp_te1
        clear ih h79 hL f1 f2 l00
        by_cases z : lc i = nI (L.2 (3 + t) i)
        · have a' : D 79 (12 * k + i) = nI (L.2 (3 + t) i) := a.trans z
          rw [if_pos z]
          simp (disch := omega) only [hp_kN, nI_add, pk_mul, hp_isInN, hp_m1L, hp_l0, hp_l1, hp_l2, hp_l3, hp_l4, hp_l5, hp_l7, hp_l8, hp_l10, hp_l17, hp_l20, hp_l24, hp_l48, hp_l50, hp_l55, hp_l127, hp_lm1, hp_eqN, hp_ltN, hp_inN, hp_cl, if_pos, if_neg, if_true, if_false, Option.bind_some, hc, a', b, eq_self, hi]
        · rw [if_neg z]
          simp (disch := omega) only [hp_kN, nI_add, pk_mul, hp_isInN, hp_m1L, hp_l0, hp_l1, hp_l2, hp_l3, hp_l4, hp_l5, hp_l7, hp_l8, hp_l10, hp_l17, hp_l20, hp_l24, hp_l48, hp_l50, hp_l55, hp_l127, hp_lm1, hp_eqN, hp_ltN, hp_inN, hp_cl, if_pos, if_neg, if_true, if_false, Option.bind_some, hc, a, b, z, h0]
    rw [if_pos q, if_pos q]
    exact l (L.1 (3 + t)) 0 N (by omega) (by omega)
  · rw [if_neg q, if_neg q]
    exact l00 0 N (by omega) (by omega)
/-- what the run of a yard leaves out -/
def hp_run (y : Nat → Nat → Nat) : hp_L := hp_wrL y (y 2) 3 0 (hp_H y (y 2))
theorem hp_run_w {y : Nat → Nat → Nat} (hw : hp_WF y) : hp_LO y (hp_run y) ∧ hp_tot (hp_run y) = y 0 0 := by
  obtain ⟨hO, htt⟩ := hp_H_w hw (y 2)
  obtain ⟨a, b⟩ := hp_wrL_w hw (y 2) 3 0 _ rfl hO
  exact ⟨a, b.trans htt⟩
theorem hp_isM (N : Nat) (hN : 100 ≤ N) {y : Nat → Nat → Nat} {pu : Int32} (hw : hp_WF y) {k s t : Nat} (hk : k < 4) (hs : s ≤ 12) (ht : t < 2) {lc : Nat → Int32} {D : hy_M} (hM : hp_MY 68 y pu D) (h14 : D 67 14 = nI 0) {Q : hp_Q} (hQ : hp_PM Q D) (h80 : D 80 k = nI s) (h79 : ∀ j, j < s → D 79 (12 * k + j) = lc j) : ∃ D1, F_X9_isSeen N (nI t) (nI k) D = some (nI (hp_te s lc (hp_run y) t), D1) ∧ (∀ j, j < 94 → D1 68 j = D 68 j) ∧ (∀ c, c ≠ 67 → c ≠ 68 → c ≠ 70 → c ≠ 77 → D1 c = D c) ∧ (∀ j, j ≠ 13 → j ≠ 16 → D1 67 j = D 67 j) ∧ hp_PM Q D1 := by
  have b0 := hw.1
  obtain ⟨hO, htt⟩ := hp_run_w hw
  obtain ⟨D1, e1, f1, f2⟩ := hp_mc N hN D
  obtain ⟨D2, e2, g1, g2, g3⟩ := hp_wrunM N hN hw (s := 0) (D := D1) (hp_MY_fr hM (f2 68 (by omega))) (by rw [f2 67 (by omega)]; exact h14) (Q := Q) ⟨by rw [f2 67 (by omega)]; exact hQ.1, fun j hj => by rw [f2 77 (by omega)]; exact hQ.2 j hj⟩ (Or.inl rfl)
  rw [hp_wrQ0, hp_huQ0] at g2
  have g1' : hp_LN (hp_run y) D2 := g1
  have q80 : D2 80 k = nI s := by rw [g3.1 80 (by omega) (by omega) (by omega), f2 80 (by omega)]; exact h80
  obtain ⟨D3, e3, k1, k2⟩ := hp_teM N hN hk hs ht (lc := lc) (L := hp_run y) (D := D2) (fun _ j hj => by rw [g3.1 79 (by omega) (by omega) (by omega), f2 79 (by omega)]; exact h79 j hj) g1' (by omega)
  refine ⟨D3, ?_, fun j hj => by rw [k1 j hj, g3.1 70 (by omega) (by omega) (by omega), f1 j hj], fun c a b d e => by rw [k2 c b, g3.1 c a b e, f2 c d], fun j a b => by rw [k2 67 (by omega), g3.2.1 j a b, f2 67 (by omega)], ⟨by rw [k2 67 (by omega)]; exact g2.1, fun j hj => by rw [k2 77 (by omega)]; exact g2.2 j hj⟩⟩
  have hbb := hp_lp_b (3 + t) (by omega)
  have hc : D2 68 (49 + t) = nI ((hp_run y).1 (3 + t)) := by
    have := (g1' (3 + t) (by omega)).1
    rw [show hp_lq (3 + t) = 49 + t by omega] at this
    exact this
  have hb := hp_tot_le (L := hp_run y) (l := 3 + t) (by omega)
  rw [F_X9_isSeen_eq]
  clear f1 f2 g1 g1' g2 g3 k1 k2 h79 hQ hM hO
  by_cases q : s = (hp_run y).1 (3 + t)
  · rw [if_pos q] at e3
    simp (disch := omega) only [hp_kN, nI_add, pk_mul, hp_isInN, hp_m1L, hp_l0, hp_l1, hp_l2, hp_l3, hp_l4, hp_l5, hp_l7, hp_l8, hp_l10, hp_l17, hp_l20, hp_l24, hp_l48, hp_l50, hp_l55, hp_l127, hp_lm1, hp_eqN, hp_ltN, hp_inN, hp_cl, if_pos, if_neg, if_true, if_false, Option.bind_some, e1, e2, q80, hc, e3]
  · rw [if_neg q] at e3
    simp (disch := omega) only [hp_kN, nI_add, pk_mul, hp_isInN, hp_m1L, hp_l0, hp_l1, hp_l2, hp_l3, hp_l4, hp_l5, hp_l7, hp_l8, hp_l10, hp_l17, hp_l20, hp_l24, hp_l48, hp_l50, hp_l55, hp_l127, hp_lm1, hp_eqN, hp_ltN, hp_inN, hp_cl, if_pos, if_neg, if_true, if_false, Option.bind_some, e1, e2, q80, hc, e3]
theorem hp_rwX (N : Nat) (hN : 10 ≤ N) {y : Nat → Nat → Nat} (hw : hp_WF y) {D : hy_M} (x00 : D 1 0 = nI (y 0 0)) (xc : ∀ j, j < y 0 0 → D 66 j = nI (y 2 j)) (x3 : ∀ j, j < 8 → D 4 j = nI (y 3 j)) : ∃ D1, F_X7_runWhole N D = some D1 ∧ hp_LX (hp_run y).1 (hp_run y).2 D1 ∧ ∀ q, ¬ (60 ≤ q ∧ q < 66) → D1 q = D q := by
  have b0 := hw.1
  have hc : ∀ j, j < y 0 0 → y 2 j < 8 := fun j hj => (hw.2.2.2.1 j (by omega)).2.1
  obtain ⟨hO, htt⟩ := hp_H_w hw (y 2)
  have l : ∀ m t n D1 L, t + m = 3 → m < n → hp_LX L.1 L.2 D1 → hp_LO y L → hp_tot L ≤ 8 → (∀ q, ¬ (60 ≤ q ∧ q < 66) → D1 q = D q) → ∃ D2, F_X7_runWhole_8 N n (nI t) D1 = some D2 ∧ hp_LX (hp_wrL y (y 2) m t L).1 (hp_wrL y (y 2) m t L).2 D2 ∧ ∀ q, ¬ (60 ≤ q ∧ q < 66) → D2 q = D q := by
    intro m
    induction m with
    | zero =>
      intro t n D1 L e hm hL hO h8 hf
      obtain ⟨n, rfl⟩ : ∃ n', n = n' + 1 := ⟨n - 1, by omega⟩
      refine ⟨D1, ?_, hL, hf⟩
      rw [F_X7_runWhole_8_eq, if_neg]
      rw [show (3 : Int32) = nI 3 from rfl, hp_ltN (by omega) (by omega)]
      omega
    | succ m ih =>
      intro t n D1 L e hm hL hO h8 hf
      obtain ⟨n, rfl⟩ : ∃ n', n = n' + 1 := ⟨n - 1, by omega⟩
      obtain ⟨D2, e2, g1, g2⟩ := hp_piX_6 N hN hw (D := D1) (c := y 2) (fun j hj => by rw [hf 66 (by omega)]; exact xc j hj) hc (fun j hj => by rw [hf 4 (by omega)]; exact x3 j hj) (t := t) (by omega) hL hO h8
      obtain ⟨hO', ht'⟩ := hp_pul_w hw (y 2) (t := t) (by omega) hO
      obtain ⟨D3, e3, k1, k2⟩ := ih (t + 1) n D2 _ (by omega) (by omega) g1 hO' (by omega) (fun q hq => by rw [g2 q hq, hf q hq])
      refine ⟨D3, ?_, k1, k2⟩
      rw [F_X7_runWhole_8_eq, if_pos (by rw [show (3 : Int32) = nI 3 from rfl, hp_ltN (by omega) (by omega)]; omega), e2, Option.bind_some, hp_inc]
      exact e3
  obtain ⟨D1, e1, f1, f2⟩ := hp_hiX_6 N hN hw (D := D) (c := y 2) x00 xc hc x3
  obtain ⟨D2, e2, g1, g2⟩ := l 3 0 N D1 _ rfl (by omega) f1 hO (by omega) f2
  refine ⟨D2, ?_, g1, g2⟩
  rw [F_X7_runWhole_eq, e1, Option.bind_some]
  exact e2
def hp_sb (f : Nat → Nat) : Nat → Nat → Int32 → Int32
  | 0, _, v => v
  | m + 1, c, v => hp_sb f m (c + 1) (if f c = 0 then v else v ||| (nI 1 <<< (nI c &&& nI 31)))
theorem hp_or0 (v : Int32) : v ||| nI 0 = v := by
  show v ||| 0 = v
  simp
theorem st_seen (N : Nat) (hN : 100 ≤ N) (a b v : Int32) : hp_step (F_X8_seen N a b v) (F_X9_seen N a b v) := by
  rintro ⟨y, pu, yk, pk, fl, T, P, tp, pp, ls, lc⟩ ⟨hw, hw1⟩
  obtain ⟨b0, b1, b2, b8, b17, b9⟩ := hp_Wb hw
  rcases hp_arg a with ⟨a0, a1, a2⟩ | ⟨w, hw0, rfl⟩
  · refine ⟨-1, _, ⟨hw, hw1⟩, hp_qx0 fun D hX => ?_, hp_qm0 fun D hR => ?_⟩
    · rw [F_X8_seen_eq, hp_X_hasWagong N a0]
      rfl
    · rw [F_X9_seen_eq, hp_M_isWagong N a2]
      rfl
  by_cases hwn : w < y 0 0
  case neg =>
    refine ⟨-1, _, ⟨hw, hw1⟩, hp_qx0 fun D hX => ?_, hp_qm0 fun D hR => ?_⟩
    · obtain ⟨x00, x01, x02, x03, x1, x2, x3, x4, x6, x8, x9, x12, x17⟩ := hp_Xf hw hX.1
      rw [F_X8_seen_eq, hp_X_hasWagon N hw0 b0 D x00, if_neg hwn]
      rfl
    · obtain ⟨m00, m01, m02, m03, m4, m12, m20, m30, m28, m46, m70, m51, m67, m49⟩ := hp_Mf hw hR.1
      rw [F_X9_seen_eq, hp_M_isWagon N hw0 b0 D m00, if_neg hwn]
      rfl
  have kx1 : ∀ D, hp_X (y, pu, yk, pk, fl, T, P, tp, pp, ls, lc) D → F_X7_hasWagon N (nI w) D = some (nI 1, D) := fun D hX => by
    obtain ⟨x00, x01, x02, x03, x1, x2, x3, x4, x6, x8, x9, x12, x17⟩ := hp_Xf hw hX.1
    rw [hp_X_hasWagon N hw0 b0 D x00, if_pos hwn]
  have km1 : ∀ D, hp_R (y, pu, yk, pk, fl, T, P, tp, pp, ls, lc) D → F_X9_isWagon N (nI w) D = some (nI 1, D) := fun D hR => by
    obtain ⟨m00, m01, m02, m03, m4, m12, m20, m30, m28, m46, m70, m51, m67, m49⟩ := hp_Mf hw hR.1
    rw [hp_M_isWagon N hw0 b0 D m00, if_pos hwn]
  rcases hp_arg b with ⟨a0, a1, a2⟩ | ⟨t, ht0, rfl⟩
  · refine ⟨-1, _, ⟨hw, hw1⟩, hp_qx0 fun D hX => ?_, hp_qm0 fun D hR => ?_⟩
    · rw [F_X8_seen_eq, kx1 D hX, Option.bind_some, if_neg (show ¬ (nI 1 = 0) by decide), hp_X_isTraing N a0]
      rfl
    · rw [F_X9_seen_eq, km1 D hR, Option.bind_some, if_neg (show ¬ (nI 1 = 0) by decide), hp_M_isTraing N a2]
      rfl
  by_cases ht : t < 2
  case neg =>
    refine ⟨-1, _, ⟨hw, hw1⟩, hp_qx0 fun D hX => ?_, hp_qm0 fun D hR => ?_⟩
    · rw [F_X8_seen_eq, kx1 D hX, Option.bind_some, if_neg (show ¬ (nI 1 = 0) by decide), hp_X_isTrain N ht0, if_neg ht]
      rfl
    · rw [F_X9_seen_eq, km1 D hR, Option.bind_some, if_neg (show ¬ (nI 1 = 0) by decide), hp_M_isTrain N ht0, if_neg ht]
      rfl
  rcases hp_arg v with ⟨a0, a1, a2⟩ | ⟨k, hk0, rfl⟩
  · refine ⟨-1, _, ⟨hw, hw1⟩, hp_qx0 fun D hX => ?_, hp_qm0 fun D hR => ?_⟩
    · rw [F_X8_seen_eq, kx1 D hX, Option.bind_some, if_neg (show ¬ (nI 1 = 0) by decide), hp_X_isTrain N ht0, if_pos ht, Option.bind_some, if_neg (show ¬ (nI 1 = 0) by decide), hp_X_isListg N a0]
      rfl
    · rw [F_X9_seen_eq, km1 D hR, Option.bind_some, if_neg (show ¬ (nI 1 = 0) by decide), hp_M_isTrain N ht0, if_pos ht, Option.bind_some, if_neg (show ¬ (nI 1 = 0) by decide), hp_M_isListg N a2]
      rfl
  by_cases hk : k < 4
  case neg =>
    refine ⟨-1, _, ⟨hw, hw1⟩, hp_qx0 fun D hX => ?_, hp_qm0 fun D hR => ?_⟩
    · rw [F_X8_seen_eq, kx1 D hX, Option.bind_some, if_neg (show ¬ (nI 1 = 0) by decide), hp_X_isTrain N ht0, if_pos ht, Option.bind_some, if_neg (show ¬ (nI 1 = 0) by decide), hp_X_isList N hk0, if_neg hk]
      rfl
    · rw [F_X9_seen_eq, km1 D hR, Option.bind_some, if_neg (show ¬ (nI 1 = 0) by decide), hp_M_isTrain N ht0, if_pos ht, Option.bind_some, if_neg (show ¬ (nI 1 = 0) by decide), hp_M_isList N hk0, if_neg hk]
      rfl
  rcases hp_lsc (hw1.2.2.2.2.2.2 k hk) with hs | ⟨s, hs12, hs⟩
  · refine ⟨-11, _, ⟨hw, hw1⟩, hp_qx0 fun D hX => ?_, hp_qm0 fun D hR => ?_⟩
    · have x47 : D 47 k = -nI 1 := ((hX.2.2.2.2.2.2.2.1 k hk).1).trans hs
      have h1 : F_X3_holds N (nI k) D = some (nI 0, D) := by
        rw [F_X3_holds_eq]
        simp (disch := omega) only [hp_kN, nI_add, pk_mul, hp_isInN, hp_m1L, hp_l0, hp_l1, hp_l2, hp_l3, hp_l4, hp_l5, hp_l7, hp_l8, hp_l10, hp_l17, hp_l20, hp_l24, hp_l48, hp_l50, hp_l55, hp_l127, hp_lm1, hp_eqN, hp_ltN, hp_inN, hp_cl, if_pos, if_neg, if_true, if_false, Option.bind_some, x47, hp_n1]
      have k1 := kx1 D hX
      clear kx1 km1
      rw [F_X8_seen_eq]
      simp (disch := omega) only [hp_kN, nI_add, pk_mul, hp_isInN, hp_m1L, hp_l0, hp_l1, hp_l2, hp_l3, hp_l4, hp_l5, hp_l7, hp_l8, hp_l10, hp_l17, hp_l20, hp_l24, hp_l48, hp_l50, hp_l55, hp_l127, hp_lm1, hp_eqN, hp_ltN, hp_inN, hp_cl, if_pos, if_neg, if_true, if_false, Option.bind_some, k1, hp_X_isTrain, hp_X_isList, h1]
    · have x80 : D 80 k = -nI 1 := ((hR.2.2.2.2.2.2.2.1 k hk).1).trans hs
      have k1 := km1 D hR
      clear kx1 km1
      rw [F_X9_seen_eq]
      simp (disch := omega) only [hp_kN, nI_add, pk_mul, hp_isInN, hp_m1L, hp_l0, hp_l1, hp_l2, hp_l3, hp_l4, hp_l5, hp_l7, hp_l8, hp_l10, hp_l17, hp_l20, hp_l24, hp_l48, hp_l50, hp_l55, hp_l127, hp_lm1, hp_eqN, hp_ltN, hp_inN, hp_cl, if_pos, if_neg, if_true, if_false, Option.bind_some, k1, hp_M_isTrain, hp_M_isList, x80, hp_n1]
  have hwc : ∀ c, c < 8 → hp_WF (hp_yw y 2 w c) := fun c hc => hp_WF_w hw (Or.inr (Or.inr (Or.inl ⟨rfl, hc⟩)))
  obtain ⟨f, ef⟩ : ∃ f : Nat → Nat, f = fun c => hp_te s (lc k) (hp_run (hp_yw y 2 w c)) t := ⟨_, rfl⟩
  have ef' : ∀ c, hp_te s (lc k) (hp_run (hp_yw y 2 w c)) t = f c := fun c => by rw [ef]
  have f01 : ∀ c, f c = 0 ∨ f c = 1 := fun c => by rw [← ef']; exact hp_te_01 _ _ _ _
  clear ef
  refine ⟨hp_sb f 8 0 (nI 0), _, ⟨hw, hw1⟩, hp_qx fun D hX => ?_, fun D hR => ?_⟩
  · have x47 : D 47 k = nI s := ((hX.2.2.2.2.2.2.2.1 k hk).1).trans hs
    have x43 : ∀ j, j < s → D (43 + k) j = lc k j := fun j hj => (hX.2.2.2.2.2.2.2.1 k hk).2 j (by rw [hs, hp_ti (by omega)]; omega)
    have k1 := kx1 D hX
    obtain ⟨x00, x01, x02, x03, x1, x2, x3, x4, x6, x8, x9, x12, x17⟩ := hp_Xf hw hX.1
    have l : ∀ m c n D1 u, c + m = 8 → m < n → (∀ j, j < 8 → j ≠ w → D1 66 j = nI (y 2 j)) → (∀ q, ¬ (60 ≤ q ∧ q < 67) → D1 q = D q) → ∃ D2, F_X8_seen_65 N n (nI w) (nI t) (nI k) u (nI c) D1 = some (hp_sb f m c u, D2) ∧ ∀ q, ¬ (60 ≤ q ∧ q < 67) → D2 q = D q := by
      intro m
      induction m with
      | zero =>
        intro c n D1 u e hm h66 hf
        obtain ⟨n, rfl⟩ : ∃ n', n = n' + 1 := ⟨n - 1, by omega⟩
        refine ⟨D1, ?_, hf⟩
        rw [F_X8_seen_65_eq, if_neg]
        · rfl
        · rw [show (8 : Int32) = nI 8 from rfl, hp_ltN (by omega) (by omega)]
          omega
      | succ m ih =>
        intro c n D1 u e hm h66 hf
        obtain ⟨n, rfl⟩ : ∃ n', n = n' + 1 := ⟨n - 1, by omega⟩
        have hy : ∀ i j, i ≠ 2 → hp_yw y 2 w c i j = y i j := fun i j h => hp_yw_n (Or.inl h)
        have h00 : hp_yw y 2 w c 0 0 = y 0 0 := hy 0 0 (by omega)
        obtain ⟨D2, e2, g1, g2⟩ := hp_rwX N (by omega) (hwc c (by omega)) (D := hy_w D1 66 w (nI c)) (by rw [hy_w_ne (by omega), hf 1 (by omega), h00]; exact x00) (fun j hj => by
          rw [h00] at hj
          by_cases q : j = w
          · rw [q, hp_ws, hp_yw_s]
          · rw [hp_wn (Or.inr q), hp_yw_n (Or.inr q)]
            exact h66 j (by omega) q) (fun j hj => by rw [hy_w_ne (by omega), hf 4 (by omega), hy 3 j (by omega)]; exact x3 j hj)
        have hO := (hp_run_w (hwc c (by omega))).2
        have hf2 : ∀ q, ¬ (60 ≤ q ∧ q < 67) → D2 q = D q := fun q hq => by rw [g2 q (by omega), hy_w_ne (by omega), hf q hq]
        have e3 := hp_teX N (by omega) hk hs12 ht (lc := lc k) (L := hp_run (hp_yw y 2 w c)) (D := D2) (by rw [hf2 47 (by omega)]; exact x47) (fun j hj => by rw [hf2 (43 + k) (by omega)]; exact x43 j hj) g1 (by omega)
        rw [ef'] at e3
        obtain ⟨D3, e4, k4⟩ := ih (c + 1) n D2 (if f c = 0 then u else u ||| (nI 1 <<< (nI c &&& nI 31))) (by omega) (by omega) (fun j hj hj2 => by rw [g2 66 (by omega), hp_wn (Or.inr hj2)]; exact h66 j hj hj2) hf2
        refine ⟨D3, ?_, k4⟩
        show _ = some (hp_sb f m (c + 1) (if f c = 0 then u else u ||| (nI 1 <<< (nI c &&& nI 31))), D3)
        rw [F_X8_seen_65_eq]
        clear ih h66 hf hy g1 g2 hf2 k4 x43 hwc ef' x1 x2 x3 x4 x6 x8 x9 x12 x17 kx1 km1
        rcases f01 c with z | z
        · rw [if_pos z] at e4 ⊢
          rw [z] at e3
          clear f01
          simp (disch := omega) only [hp_kN, nI_add, pk_mul, hp_isInN, hp_m1L, hp_l0, hp_l1, hp_l2, hp_l3, hp_l4, hp_l5, hp_l7, hp_l8, hp_l10, hp_l17, hp_l20, hp_l24, hp_l48, hp_l50, hp_l55, hp_l127, hp_lm1, hp_eqN, hp_ltN, hp_inN, hp_cl, if_pos, if_neg, if_true, if_false, Option.bind_some, e2, e3, e4]
        · have z9 : ¬ f c = 0 := by omega
          rw [if_neg z9] at e4 ⊢
          rw [z] at e3
          clear f01
          simp (disch := omega) only [hp_kN, nI_add, pk_mul, hp_isInN, hp_m1L, hp_l0, hp_l1, hp_l2, hp_l3, hp_l4, hp_l5, hp_l7, hp_l8, hp_l10, hp_l17, hp_l20, hp_l24, hp_l48, hp_l50, hp_l55, hp_l127, hp_lm1, hp_eqN, hp_ltN, hp_inN, hp_cl, if_pos, if_neg, if_true, if_false, Option.bind_some, e2, e3, e4]
    obtain ⟨D1, e1, f1⟩ := l 8 0 N (hy_cp D 3 66 0 0 8) (nI 0) rfl (by omega) (fun j hj _ => by rw [hp_cp0, if_pos hj]; exact x2 j hj) (fun q hq => hp_cpn (by omega))
    refine ⟨D1, ?_, fun c hc => f1 c (by omega)⟩
    rw [F_X8_seen_eq]
    have h1 : F_X3_holds N (nI k) D = some (nI 1, D) := by
      rw [F_X3_holds_eq]
      simp (disch := omega) only [hp_kN, nI_add, pk_mul, hp_isInN, hp_m1L, hp_l0, hp_l1, hp_l2, hp_l3, hp_l4, hp_l5, hp_l7, hp_l8, hp_l10, hp_l17, hp_l20, hp_l24, hp_l48, hp_l50, hp_l55, hp_l127, hp_lm1, hp_eqN, hp_ltN, hp_inN, hp_cl, if_pos, if_neg, if_true, if_false, Option.bind_some, x47]
    clear kx1 km1 l f1 x43 hwc ef' f01
    simp (disch := omega) only [hp_kN, nI_add, pk_mul, hp_isInN, hp_m1L, hp_l0, hp_l1, hp_l2, hp_l3, hp_l4, hp_l5, hp_l7, hp_l8, hp_l10, hp_l17, hp_l20, hp_l24, hp_l48, hp_l50, hp_l55, hp_l127, hp_lm1, hp_eqN, hp_ltN, hp_inN, hp_cl, if_pos, if_neg, if_true, if_false, Option.bind_some, k1, hp_X_isTrain, hp_X_isList, h1]
    exact e1
  · have x80 : D 80 k = nI s := ((hR.2.2.2.2.2.2.2.1 k hk).1).trans hs
    have x79 : ∀ j, j < s → D 79 (12 * k + j) = lc k j := fun j hj => (hR.2.2.2.2.2.2.2.1 k hk).2 j (by rw [hs, hp_ti (by omega)]; omega)
    have k1 := km1 D hR
    have h14 : D 67 14 = nI 0 := hR.2.2.2.2.2.2.2.2
    have hQ0 : hp_PM (P, pp) D := ⟨hR.2.2.2.2.2.1, hR.2.2.2.2.2.2.1⟩
    obtain ⟨m00, m01, m02, m03, m4, m12, m20, m30, m28, m46, m70, m51, m67, m49⟩ := hp_Mf hw hR.1
    have ep : hp_pos 2 w = 12 + w := by simp [hp_pos]
    have l : ∀ m c n D1 u, c + m = 8 → m < n → (∀ p, p < 94 → p ≠ 12 + w → D1 68 p = D 68 p) → (∀ q, q ≠ 67 → q ≠ 68 → q ≠ 70 → q ≠ 77 → D1 q = D q) → (∀ j, j ≠ 13 → j ≠ 16 → D1 67 j = D 67 j) → hp_PM (P, pp) D1 → ∃ D2, F_X9_seen_53 N n (nI w) (nI t) (nI k) (nI (y 2 w)) u (nI c) D1 = some (hp_sb f m c u, D2) ∧ (∀ p, p < 94 → D2 68 p = D 68 p) ∧ (∀ q, q ≠ 67 → q ≠ 68 → q ≠ 70 → q ≠ 77 → D2 q = D q) ∧ (∀ j, j ≠ 13 → j ≠ 16 → D2 67 j = D 67 j) ∧ hp_PM (P, pp) D2 := by
      intro m
      induction m with
      | zero =>
        intro c n D1 u e hm h68 hf h67 hQ
        obtain ⟨n, rfl⟩ : ∃ n', n = n' + 1 := ⟨n - 1, by omega⟩
        refine ⟨hy_w D1 68 (12 + w) (nI (y 2 w)), ?_, fun p hp => ?_, fun q z1 z2 z3 z4 => by rw [hy_w_ne z2]; exact hf q z1 z2 z3 z4, fun j z1 z2 => by rw [hy_w_ne (by omega)]; exact h67 j z1 z2, ⟨by rw [hy_w_ne (by omega)]; exact hQ.1, fun j hj => by rw [hy_w_ne (by omega)]; exact hQ.2 j hj⟩⟩
        · rw [F_X9_seen_53_eq]
          clear h68 hf h67 hQ x79 hwc ef' f01 m4 m12 m20 m30 m28 m46 m70 m51 m67 m49 kx1 km1
          simp (disch := omega) only [hp_kN, nI_add, pk_mul, hp_isInN, hp_m1L, hp_l0, hp_l1, hp_l2, hp_l3, hp_l4, hp_l5, hp_l7, hp_l8, hp_l10, hp_l17, hp_l20, hp_l24, hp_l48, hp_l50, hp_l55, hp_l127, hp_lm1, hp_eqN, hp_ltN, hp_inN, hp_cl, if_pos, if_neg, if_true, if_false, Option.bind_some]
          rfl
        · by_cases q : p = 12 + w
          · rw [q, hp_ws]
            exact (m12 w (by omega)).symm
          · rw [hp_wn (Or.inr q)]
            exact h68 p hp q
      | succ m ih =>
        intro c n D1 u e hm h68 hf h67 hQ
        obtain ⟨n, rfl⟩ : ∃ n', n = n' + 1 := ⟨n - 1, by omega⟩
        have hM : hp_MY 68 (hp_yw y 2 w c) pu (hy_w D1 68 (12 + w) (nI c)) := by
          have z := hp_MY_w 2 w c hR.1 (by omega) (by omega) (show w < 8 by omega)
          rw [ep] at z
          refine hp_MY_cp z (fun j hj => ?_)
          by_cases q : j = 12 + w
          · rw [q, hp_ws, hp_ws]
          · rw [hp_wn (Or.inr q), hp_wn (Or.inr q)]
            exact h68 j hj q
        have z2 : ∀ q, q ≠ 68 → hy_w D1 68 (12 + w) (nI c) q = D1 q := fun q hq => hy_w_ne hq
        obtain ⟨D2, e2, g1, g2, g3, g4⟩ := hp_isM N hN (hwc c (by omega)) hk hs12 ht (lc := lc k) hM (by rw [z2 67 (by omega), h67 14 (by omega) (by omega)]; exact h14) (Q := (P, pp)) ⟨by rw [z2 67 (by omega)]; exact hQ.1, fun j hj => by rw [z2 77 (by omega)]; exact hQ.2 j hj⟩ (by rw [z2 80 (by omega), hf 80 (by omega) (by omega) (by omega) (by omega)]; exact x80) (fun j hj => by rw [z2 79 (by omega), hf 79 (by omega) (by omega) (by omega) (by omega)]; exact x79 j hj)
        rw [ef'] at e2
        obtain ⟨D3, e4, r1, r2, r3, r4⟩ := ih (c + 1) n D2 (if f c = 0 then u else u ||| (nI 1 <<< (nI c &&& nI 31))) (by omega) (by omega) (fun p hp hp2 => by rw [g1 p hp, hp_wn (Or.inr hp2)]; exact h68 p hp hp2) (fun q z3 z4 z5 z6 => by rw [g2 q z3 z4 z5 z6, z2 q z4]; exact hf q z3 z4 z5 z6) (fun j z3 z4 => by rw [g3 j z3 z4, z2 67 (by omega)]; exact h67 j z3 z4) g4
        refine ⟨D3, ?_, r1, r2, r3, r4⟩
        show _ = some (hp_sb f m (c + 1) (if f c = 0 then u else u ||| (nI 1 <<< (nI c &&& nI 31))), D3)
        rw [F_X9_seen_53_eq]
        clear ih h68 hf h67 hQ hM z2 g1 g2 g3 g4 r1 r2 r3 r4 x79 hwc ef' m4 m12 m20 m30 m28 m46 m70 m51 m67 m49 kx1 km1
        rcases f01 c with z | z
        · rw [if_pos z] at e4 ⊢
          rw [z] at e2
          clear f01
          simp (disch := omega) only [hp_kN, nI_add, pk_mul, hp_isInN, hp_m1L, hp_l0, hp_l1, hp_l2, hp_l3, hp_l4, hp_l5, hp_l7, hp_l8, hp_l10, hp_l17, hp_l20, hp_l24, hp_l48, hp_l50, hp_l55, hp_l127, hp_lm1, hp_eqN, hp_ltN, hp_inN, hp_cl, if_pos, if_neg, if_true, if_false, Option.bind_some, e2, hp_or0, e4]
        · have z9 : ¬ f c = 0 := by omega
          rw [if_neg z9] at e4 ⊢
          rw [z] at e2
          clear f01
          simp (disch := omega) only [hp_kN, nI_add, pk_mul, hp_isInN, hp_m1L, hp_l0, hp_l1, hp_l2, hp_l3, hp_l4, hp_l5, hp_l7, hp_l8, hp_l10, hp_l17, hp_l20, hp_l24, hp_l48, hp_l50, hp_l55, hp_l127, hp_lm1, hp_eqN, hp_ltN, hp_inN, hp_cl, if_pos, if_neg, if_true, if_false, Option.bind_some, e2, e4]
    obtain ⟨D1, e1, f1, f2, f3, f4⟩ := l 8 0 N D (nI 0) rfl (by omega) (fun _ _ _ => rfl) (fun _ _ _ _ _ => rfl) (fun _ _ _ => rfl) hQ0
    refine ⟨D1, ?_, hp_R_bk hR f1 f2 (f3 3 (by omega) (by omega)) (f3 14 (by omega) (by omega)) (Nat.le_refl T) (by rw [f3 5 (by omega) (by omega)]; exact hR.2.2.2.1) f4, fun c hc => f2 c (by omega) (by omega) (by omega) (by omega)⟩
    have m12w := m12 w (by omega)
    rw [F_X9_seen_eq]
    clear kx1 km1 l f1 f2 f3 f4 x79 hwc ef' f01 m4 m12 m20 m30 m28 m46 m70 m51 m67 m49
    simp (disch := omega) only [hp_kN, nI_add, pk_mul, hp_isInN, hp_m1L, hp_l0, hp_l1, hp_l2, hp_l3, hp_l4, hp_l5, hp_l7, hp_l8, hp_l10, hp_l17, hp_l20, hp_l24, hp_l48, hp_l50, hp_l55, hp_l127, hp_lm1, hp_eqN, hp_ltN, hp_inN, hp_cl, if_pos, if_neg, if_true, if_false, Option.bind_some, k1, hp_M_isTrain, hp_M_isList, x80, m12w]
    exact e1
