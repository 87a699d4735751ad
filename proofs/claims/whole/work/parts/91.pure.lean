/-! ===== a whole run; spell ===== -/
def hp_wrL (y : Nat → Nat → Nat) (c : Nat → Nat) : Nat → Nat → hp_L → hp_L
  | 0, _, L => L
  | m + 1, t, L => hp_wrL y c m (t + 1) (hp_pul y c t L)
def hp_wq (s : Nat) (y : Nat → Nat → Nat) (c : Nat → Nat) (t : Nat) (L : hp_L) (Q : hp_Q) : hp_Q := if s = 0 then Q else if L.1 t = 0 then Q else hp_pulQ 1 y c t L (hp_pa (hp_pa Q 59) (48 + t))
def hp_wrQ (s : Nat) (y : Nat → Nat → Nat) (c : Nat → Nat) : Nat → Nat → hp_L → hp_Q → hp_Q
  | 0, _, _, Q => Q
  | m + 1, t, L, Q => hp_wrQ s y c m (t + 1) (hp_pul y c t L) (hp_wq s y c t L Q)
theorem hp_wrQ0 (y : Nat → Nat → Nat) (c : Nat → Nat) : ∀ m t L Q, hp_wrQ 0 y c m t L Q = Q := by
  intro m
  induction m with
  | zero => intro t L Q; rfl
  | succ m ih => intro t L Q; exact ih (t + 1) _ _
theorem hp_wrL_w {y : Nat → Nat → Nat} (hw : hp_WF y) (c : Nat → Nat) : ∀ m t L, t + m = 3 → hp_LO y L → hp_LO y (hp_wrL y c m t L) ∧ hp_tot (hp_wrL y c m t L) = hp_tot L := by
  intro m
  induction m with
  | zero => intro t L _ h; exact ⟨h, rfl⟩
  | succ m ih =>
    intro t L e h
    obtain ⟨a, b⟩ := hp_pul_w hw c (t := t) (by omega) h
    obtain ⟨a2, b2⟩ := ih (t + 1) (hp_pul y c t L) (by omega) a
    exact ⟨a2, b2.trans b⟩
theorem hp_huQ_l (y : Nat → Nat → Nat) (c : Nat → Nat) : ∀ m w Q, (hp_huQ 1 y c m w Q).1 = Q.1 + 2 * m := by
  intro m
  induction m with
  | zero => intro w Q; rfl
  | succ m ih =>
    intro w Q
    show (hp_huQ 1 y c m (w + 1) (hp_sr Q w (hp_lnT (c w) (y 3 w) 3 0))).1 = _
    rw [ih]
    show Q.1 + 1 + 1 + 2 * m = _
    omega
theorem hp_plQ_l (y : Nat → Nat → Nat) (c : Nat → Nat) (t : Nat) (src : Nat → Nat) : ∀ m i Q, (hp_plQ 1 y c t src m i Q).1 = Q.1 + 2 * m := by
  intro m
  induction m with
  | zero => intro w Q; rfl
  | succ m ih =>
    intro i Q
    show (hp_plQ 1 y c t src m (i + 1) (hp_sr Q (src i) (hp_lnT (c (src i)) (y 3 (src i)) (2 - t) (t + 1)))).1 = _
    rw [ih]
    show Q.1 + 1 + 1 + 2 * m = _
    omega
theorem hp_wq_l {s : Nat} {y : Nat → Nat → Nat} {c : Nat → Nat} {t : Nat} {L : hp_L} {Q : hp_Q} (ht : t < 5) (h8 : hp_tot L ≤ 8) : (hp_wq s y c t L Q).1 ≤ Q.1 + 18 := by
  have b := hp_tot_le (L := L) ht
  unfold hp_wq
  split
  · omega
  · split
    · omega
    · unfold hp_pulQ
      rw [hp_plQ_l]
      show Q.1 + 1 + 1 + 2 * L.1 t ≤ _
      omega
/-! letters -/
def hp_PW (Q : hp_Q) : Prop := ∀ j, j < Q.1 → Q.2 j < 128
theorem hp_PW_pa {Q : hp_Q} {v : Nat} (h : hp_PW Q) (hv : v < 128) : hp_PW (hp_pa Q v) := fun j hj => by
  have hj' : j < Q.1 + 1 := hj
  show (if j = Q.1 then v else Q.2 j) < 128
  split
  · exact hv
  · exact h j (by omega)
theorem hp_PW_sr {Q : hp_Q} {w l : Nat} (h : hp_PW Q) (hw : w < 8) : hp_PW (hp_sr Q w l) := by
  refine hp_PW_pa (hp_PW_pa h (by omega)) ?_
  unfold hp_sgn
  split
  · omega
  · split <;> omega
theorem hp_PW_hu {y : Nat → Nat → Nat} (hw : y 0 0 ≤ 8) (c : Nat → Nat) : ∀ m w Q, w + m ≤ y 0 0 → hp_PW Q → hp_PW (hp_huQ 1 y c m w Q) := by
  intro m
  induction m with
  | zero => intro w Q _ h; exact h
  | succ m ih => intro w Q e h; exact ih (w + 1) _ (by omega) (hp_PW_sr h (by omega))
theorem hp_PW_pl {y : Nat → Nat → Nat} (hw : y 0 0 ≤ 8) (c : Nat → Nat) (t : Nat) (src : Nat → Nat) : ∀ m i Q, (∀ j, i ≤ j → j < i + m → src j < y 0 0) → hp_PW Q → hp_PW (hp_plQ 1 y c t src m i Q) := by
  intro m
  induction m with
  | zero => intro w Q _ h; exact h
  | succ m ih => intro i Q e h; exact ih (i + 1) _ (fun j a b => e j (by omega) (by omega)) (hp_PW_sr h (by have := e i (by omega) (by omega); omega))
theorem hp_PW_wr {y : Nat → Nat → Nat} (hw : hp_WF y) (c : Nat → Nat) : ∀ m t L Q, t + m = 3 → hp_LO y L → hp_PW Q → hp_PW (hp_wrQ 1 y c m t L Q) := by
  intro m
  induction m with
  | zero => intro t L Q _ _ h; exact h
  | succ m ih =>
    intro t L Q e hO h
    refine ih (t + 1) _ _ (by omega) (hp_pul_w hw c (t := t) (by omega) hO).1 ?_
    unfold hp_wq
    rw [if_neg (by omega)]
    split
    · exact h
    · exact hp_PW_pl hw.1 c t _ _ _ _ (fun j _ b => (hO t (by omega) j (by omega)).1) (hp_PW_pa (hp_PW_pa h (by omega)) (by omega))
/-! the reference -/
theorem hp_wrM (N : Nat) (hN : 100 ≤ N) {y : Nat → Nat → Nat} {pu : Int32} (hw : hp_WF y) {s : Nat} {D0 : hy_M} (hM : hp_MY 68 y pu D0) (h14 : D0 67 14 = nI s) (hs1 : s ≤ 1) : ∀ m t n D L Q, t + m = 3 → m < n → hp_LN L D → hp_PM Q D → hp_LO y L → hp_tot L ≤ 8 → hp_fk D0 D → (s = 0 ∨ Q.1 + 18 * m ≤ 80) → ∃ D1, F_X9_wholeRun_10 N n (nI t) D = some D1 ∧ hp_LN (hp_wrL y (y 2) m t L) D1 ∧ hp_PM (hp_wrQ s y (y 2) m t L Q) D1 ∧ hp_fk D0 D1 := by
  have b0 := hw.1
  intro m
  induction m with
  | zero =>
    intro t n D L Q e hm h1 hQ hO h8 hf hs
    obtain ⟨n, rfl⟩ : ∃ n', n = n' + 1 := ⟨n - 1, by omega⟩
    refine ⟨D, ?_, h1, hQ, hf⟩
    rw [F_X9_wholeRun_10_eq, if_neg]
    rw [show (3 : Int32) = nI 3 from rfl, hp_ltN (by omega) (by omega)]
    omega
  | succ m ih =>
    intro t n D L Q e hm h1 hQ hO h8 hf hs
    obtain ⟨n, rfl⟩ : ∃ n', n = n' + 1 := ⟨n - 1, by omega⟩
    have ht : t < 3 := by omega
    have h14' : D 67 14 = nI s := by rw [hf.2.1 14 (by omega) (by omega)]; exact h14
    obtain ⟨hO', ht'⟩ := hp_pul_w hw (y 2) ht hO
    have hl := hp_wq_l (s := s) (y := y) (c := y 2) (t := t) (L := L) (Q := Q) (by omega) h8
    have hb := hp_lp_b t (by omega)
    have hk := hp_tot_le (L := L) (l := t) (by omega)
    have a1 : D 68 (67 + t) = nI (L.1 t) := by
      have := (h1 t (by omega)).1
      rw [show hp_lq t = 67 + t by omega] at this
      exact this
    have key : ∃ D1 D2, F_X9_wholeRun_10 N (n + 1) (nI t) D = F_X9_wholeRun_48 N n (nI t) D1 ∧ F_X9_pulls N (nI t) D1 = some D2 ∧ hp_LN (hp_pul y (y 2) t L) D2 ∧ hp_PM (hp_wq s y (y 2) t L Q) D2 ∧ hp_fk D0 D2 := by
      by_cases s0 : s = 0
      · subst s0
        obtain ⟨D2, e2, g1, g2, g3, g4, g5, g6⟩ := hp_tpM N (by omega) hw (s := 0) hM hf h14' h1 hO h8 hQ ht (Or.inl rfl)
        refine ⟨D, D2, ?_, e2, g1, ?_, hp_fk_tr hf g6⟩
        · rw [F_X9_wholeRun_10_eq]
          clear ih h1 hQ hO hf hs g1 g2 g3 g4 g5 g6
          simp (disch := omega) only [hp_kN, nI_add, pk_mul, hp_isInN, hp_m1L, hp_l0, hp_l1, hp_l2, hp_l3, hp_l4, hp_l5, hp_l7, hp_l8, hp_l10, hp_l17, hp_l20, hp_l24, hp_l48, hp_l50, hp_l55, hp_l127, hp_lm1, hp_eqN, hp_ltN, hp_inN, hp_cl, if_pos, if_neg, if_true, if_false, Option.bind_some, h14']
        · unfold hp_pulQ at g2
          rw [hp_plQ0] at g2
          exact g2
      · have s1 : s = 1 := by omega
        subst s1
        have hs2 : Q.1 + 18 * (m + 1) ≤ 80 := by omega
        by_cases c0 : L.1 t = 0
        · obtain ⟨D2, e2, g1, g2, g3, g4, g5, g6⟩ := hp_tpM N (by omega) hw (s := 1) hM hf h14' h1 hO h8 hQ ht (Or.inr ⟨rfl, by omega⟩)
          refine ⟨D, D2, ?_, e2, g1, ?_, hp_fk_tr hf g6⟩
          · rw [F_X9_wholeRun_10_eq]
            rw [c0] at a1
            clear ih h1 hQ hO hf hs g1 g2 g3 g4 g5 g6
            simp (disch := omega) only [hp_kN, nI_add, pk_mul, hp_isInN, hp_m1L, hp_l0, hp_l1, hp_l2, hp_l3, hp_l4, hp_l5, hp_l7, hp_l8, hp_l10, hp_l17, hp_l20, hp_l24, hp_l48, hp_l50, hp_l55, hp_l127, hp_lm1, hp_eqN, hp_ltN, hp_inN, hp_cl, if_pos, if_neg, if_true, if_false, Option.bind_some, h14', a1]
          · unfold hp_pulQ at g2
            rw [c0] at g2
            unfold hp_wq
            rw [if_neg (by omega), if_pos c0]
            exact g2
        · obtain ⟨D1, e1, f1, f2, f3⟩ := hp_sayM N hQ (by omega) 59
          obtain ⟨D2, e2, g1, g2, g3⟩ := hp_sayM N f1 (by show Q.1 + 1 < 80; omega) (48 + t)
          have h68 : D2 68 = D 68 := by rw [g2 68 (by omega) (by omega), f2 68 (by omega) (by omega)]
          have hf2 : hp_fk D0 D2 := hp_fk_tr hf ⟨fun q a b d => by rw [g2 q a d, f2 q a d], fun j a b => by rw [g3 j b, f3 j b], fun p _ _ _ => by rw [h68]⟩
          obtain ⟨D3, e3, k1, k2, k3, k4, k5, k6⟩ := hp_tpM N (by omega) hw (s := 1) hM hf2 (by rw [hf2.2.1 14 (by omega) (by omega)]; exact h14) (hp_LN_fr h1 h68) hO h8 g1 ht (Or.inr ⟨rfl, by show Q.1 + 1 + 1 + 2 * L.1 t ≤ 80; omega⟩)
          refine ⟨D2, D3, ?_, e3, k1, ?_, hp_fk_tr hf2 k6⟩
          · rw [F_X9_wholeRun_10_eq]
            clear ih h1 hQ hO hf hs f1 f2 f3 g1 g2 g3 h68 hf2 k1 k2 k3 k4 k5 k6
            simp (disch := omega) only [hp_kN, nI_add, pk_mul, hp_isInN, hp_m1L, hp_l0, hp_l1, hp_l2, hp_l3, hp_l4, hp_l5, hp_l7, hp_l8, hp_l10, hp_l17, hp_l20, hp_l24, hp_l48, hp_l50, hp_l55, hp_l127, hp_lm1, hp_eqN, hp_ltN, hp_inN, hp_cl, if_pos, if_neg, if_true, if_false, Option.bind_some, h14', a1, e1, e2]
          · unfold hp_wq
            rw [if_neg (by omega), if_neg c0]
            exact k2
    obtain ⟨D1, D2, e1, e2, g1, g2, g3⟩ := key
    obtain ⟨D3, e3, r1, r2, r3⟩ := ih (t + 1) n D2 _ _ (by omega) (by omega) g1 g2 hO' (by omega) g3 (by omega)
    refine ⟨D3, ?_, r1, r2, r3⟩
    rw [e1, F_X9_wholeRun_48_eq, e2, Option.bind_some, hp_inc]
    exact e3
theorem hp_wrunM (N : Nat) (hN : 100 ≤ N) {y : Nat → Nat → Nat} {pu : Int32} (hw : hp_WF y) {s : Nat} {D : hy_M} (hM : hp_MY 68 y pu D) (h14 : D 67 14 = nI s) {Q : hp_Q} (hQ : hp_PM Q D) (hs : s = 0 ∨ (s = 1 ∧ Q.1 ≤ 1)) : ∃ D1, F_X9_wholeRun N D = some D1 ∧ hp_LN (hp_wrL y (y 2) 3 0 (hp_H y (y 2))) D1 ∧ hp_PM (hp_wrQ s y (y 2) 3 0 (hp_H y (y 2)) (hp_huQ s y (y 2) (y 0 0) 0 Q)) D1 ∧ hp_fk D D1 := by
  have b0 := hw.1
  obtain ⟨hO, htt⟩ := hp_H_w hw (y 2)
  obtain ⟨D1, e1, f1, f2, f3⟩ := hp_clM2 N (by omega) D
  have hf : hp_fk D D1 := ⟨fun q a b _ => f2 q b, fun j _ _ => by rw [f2 67 (by omega)], f3⟩
  obtain ⟨D2, e2, g1, g2, g3, g4, g5, g6⟩ := hp_thM N (by omega) hw (s := s) hM hf (by rw [f2 67 (by omega)]; exact h14) f1 (Q := Q) ⟨by rw [f2 67 (by omega)]; exact hQ.1, fun j hj => by rw [f2 77 (by omega)]; exact hQ.2 j hj⟩ (by omega)
  obtain ⟨D3, e3, r1, r2, r3⟩ := hp_wrM N hN hw hM h14 (by omega) 3 0 N D2 _ _ rfl (by omega) g1 g2 hO (by omega) (hp_fk_tr hf g6) (by
    rcases hs with q | ⟨q, r⟩
    · exact Or.inl q
    · right
      subst q
      rw [hp_huQ_l]
      omega)
  refine ⟨D3, ?_, r1, r2, r3⟩
  rw [F_X9_wholeRun_eq, e1, Option.bind_some, e2, Option.bind_some]
  exact e3
/-! the class -/
theorem hp_sayX (N : Nat) {Q : hp_Q} {D : hy_M} (h : hp_PX Q D) (h71 : Q.1 < 71) (v : Nat) : ∃ D1, F_X4_append N (nI v) D = some D1 ∧ hp_PX (hp_pa Q v) D1 ∧ ∀ c, c ≠ 39 → c ≠ 40 → D1 c = D c := by
  obtain ⟨h1, h2⟩ := h
  refine ⟨hy_w (hy_w D 40 Q.1 (nI v)) 39 1 (nI (Q.1 + 1)), ?_, ⟨hp_ws _ _ _ _, fun j hj => ?_⟩, fun c a b => by rw [hy_w_ne a, hy_w_ne b]⟩
  · rw [F_X4_append_eq]
    simp (disch := omega) only [hp_kN, nI_add, pk_mul, hp_isInN, hp_m1L, hp_l0, hp_l1, hp_l2, hp_l3, hp_l4, hp_l5, hp_l7, hp_l8, hp_l10, hp_l17, hp_l20, hp_l24, hp_l48, hp_l50, hp_l55, hp_l127, hp_lm1, hp_eqN, hp_ltN, hp_inN, hp_cl, if_pos, if_neg, if_true, if_false, Option.bind_some, h1, hp_wn]
  · have hj' : j < Q.1 + 1 := hj
    show _ = nI (if j = Q.1 then v else Q.2 j)
    rw [hp_wn (Or.inl (by omega)), hp_w]
    by_cases q : j = Q.1
    · rw [if_pos ⟨rfl, q⟩, if_pos q]
    · rw [if_neg (fun z => q z.2), if_neg q]
      exact h2 j (by omega)
theorem hp_arX (N : Nat) {Q : hp_Q} {D : hy_M} (h : hp_PX Q D) (h71 : Q.1 + 2 ≤ 71) {w l : Nat} (hw : w < 8) (hl : l < 5) : ∃ D1, F_X4_appendRoll N (nI w) (nI l) D = some D1 ∧ hp_PX (hp_sr Q w l) D1 ∧ ∀ c, c ≠ 39 → c ≠ 40 → D1 c = D c := by
  obtain ⟨D1, e1, f1, f2⟩ := hp_sayX N h (by omega) (97 + w)
  obtain ⟨D2, e2, g1, g2⟩ := hp_sayX N f1 (by show Q.1 + 1 < 71; omega) (hp_sgn l)
  refine ⟨D2, ?_, g1, fun c a b => by rw [g2 c a b, f2 c a b]⟩
  clear f1 f2 g1 g2 h
  rw [F_X4_appendRoll_eq]
  by_cases q : l < 3
  · have e0 : hp_sgn l = 48 + l := by unfold hp_sgn; rw [if_pos q]
    rw [e0] at e2
    simp (disch := omega) only [hp_kN, nI_add, pk_mul, hp_isInN, hp_m1L, hp_l0, hp_l1, hp_l2, hp_l3, hp_l4, hp_l5, hp_l7, hp_l8, hp_l10, hp_l17, hp_l20, hp_l24, hp_l48, hp_l50, hp_l55, hp_l127, hp_lm1, hp_eqN, hp_ltN, hp_inN, hp_cl, if_pos, if_neg, if_true, if_false, Option.bind_some, e1, e2]
  · by_cases q2 : l = 3
    · subst q2
      have e2' : F_X4_append N (nI 43) D1 = some D2 := e2
      simp (disch := omega) only [hp_kN, nI_add, pk_mul, hp_isInN, hp_m1L, hp_l0, hp_l1, hp_l2, hp_l3, hp_l4, hp_l5, hp_l7, hp_l8, hp_l10, hp_l17, hp_l20, hp_l24, hp_l48, hp_l50, hp_l55, hp_l127, hp_lm1, hp_eqN, hp_ltN, hp_inN, hp_cl, if_pos, if_neg, if_true, if_false, Option.bind_some, e1, F_X2_outOf_eq, e2', Nat.reduceAdd]
    · have q3 : l = 4 := by omega
      subst q3
      have e2' : F_X4_append N (nI 45) D1 = some D2 := e2
      simp (disch := omega) only [hp_kN, nI_add, pk_mul, hp_isInN, hp_m1L, hp_l0, hp_l1, hp_l2, hp_l3, hp_l4, hp_l5, hp_l7, hp_l8, hp_l10, hp_l17, hp_l20, hp_l24, hp_l48, hp_l50, hp_l55, hp_l127, hp_lm1, hp_eqN, hp_ltN, hp_inN, hp_cl, if_pos, if_neg, if_true, if_false, Option.bind_some, e1, F_X2_outOf_eq, e2', Nat.reduceAdd]
section
variable {y : Nat → Nat → Nat} {pu : Int32} {yk : Nat → Nat → Nat} {pk : Int32} {fl T P : Nat} {tp pp : Nat → Nat} {ls : Nat → Int32} {lc : Nat → Nat → Int32}
theorem hp_sp37 (N : Nat) (hN : 10 ≤ N) (hw : hp_WF y) {D0 : hy_M} (hX : hp_X (y, pu, yk, pk, fl, T, P, tp, pp, ls, lc) D0) : ∀ m w n D Q, w + m = y 0 0 → m < n → hp_PX Q D → Q.1 + 2 * m ≤ 71 → (∀ q, q < 19 → D q = D0 q) → ∃ D1, F_X8_spell_37 N n (nI w) D = F_X8_spell_80 N N (nI 0) D1 ∧ hp_PX (hp_huQ 1 y (y 2) m w Q) D1 ∧ ∀ q, q ≠ 39 → q ≠ 40 → D1 q = D q := by
  have b0 := hw.1
  obtain ⟨x00, x01, x02, x03, x1, x2, x3, x4, x6, x8, x9, x12, x17⟩ := hp_Xf hw hX.1
  intro m
  induction m with
  | zero =>
    intro w n D Q e hm hQ hs hf
    obtain ⟨n, rfl⟩ : ∃ n', n = n' + 1 := ⟨n - 1, by omega⟩
    have y00 : D 1 0 = nI (y 0 0) := by rw [hf 1 (by omega)]; exact x00
    refine ⟨D, ?_, hQ, fun _ _ _ => rfl⟩
    rw [F_X8_spell_37_eq, y00, if_neg]
    · rfl
    · rw [hp_ltN (by omega) (by omega)]
      omega
  | succ m ih =>
    intro w n D Q e hm hQ hs hf
    obtain ⟨n, rfl⟩ : ∃ n', n = n' + 1 := ⟨n - 1, by omega⟩
    have y00 : D 1 0 = nI (y 0 0) := by rw [hf 1 (by omega)]; exact x00
    have tw := hp_tr2 hw (w := w) (by omega)
    have hl := hp_lnT_lt (c := y 2 w) (tr := y 3 w) (m := 3) (t := 0) rfl tw
    have k1 := hp_lbH N hN (D := D) (w := w) (c := y 2 w) (by omega) (by rw [hf 3 (by omega)]; exact x2 w (by omega)) (hw.2.2.2.1 w (by omega)).2.1 (by rw [hf 4 (by omega)]; exact x3 w (by omega)) tw
    obtain ⟨D1, e1, f1, f2⟩ := hp_arX N hQ (by omega) (w := w) (by omega) hl
    obtain ⟨D2, e2, g1, g2⟩ := ih (w + 1) n D1 _ (by omega) (by omega) f1 (by show Q.1 + 1 + 1 + 2 * m ≤ 71; omega) (fun q hq => by rw [f2 q (by omega) (by omega), hf q hq])
    refine ⟨D2, ?_, g1, fun q a b => by rw [g2 q a b, f2 q a b]⟩
    rw [F_X8_spell_37_eq, y00, if_pos (by rw [hp_ltN (by omega) (by omega)]; omega), k1, Option.bind_some, e1, Option.bind_some, hp_inc]
    exact e2
theorem hp_spp (N : Nat) (hN : 10 ≤ N) (hw : hp_WF y) {D0 : hy_M} (hX : hp_X (y, pu, yk, pk, fl, T, P, tp, pp, ls, lc) D0) {L : hp_L} (hO : hp_LO y L) {t : Nat} (ht : t < 3) (hk : L.1 t ≤ 8) : ∀ m i n D Q, i + m = L.1 t → m < n → hp_LX L.1 L.2 D → hp_PX Q D → Q.1 + 2 * m ≤ 71 → (∀ q, q < 19 → D q = D0 q) → ∃ D1, F_X8_spellPull_37 N n (nI t) (nI (L.1 t)) (nI i) D = (F_X7_pullIn N (nI t) D1).bind (fun q1 => some q1.2) ∧ hp_PX (hp_plQ 1 y (y 2) t (L.2 t) m i Q) D1 ∧ ∀ q, q ≠ 39 → q ≠ 40 → D1 q = D q := by
  have b0 := hw.1
  obtain ⟨x00, x01, x02, x03, x1, x2, x3, x4, x6, x8, x9, x12, x17⟩ := hp_Xf hw hX.1
  intro m
  induction m with
  | zero =>
    intro i n D Q e hm hL hQ hs hf
    obtain ⟨n, rfl⟩ : ∃ n', n = n' + 1 := ⟨n - 1, by omega⟩
    refine ⟨D, ?_, hQ, fun _ _ _ => rfl⟩
    rw [F_X8_spellPull_37_eq, if_neg]
    rw [hp_ltN (by omega) (by omega)]
    omega
  | succ m ih =>
    intro i n D Q e hm hL hQ hs hf
    obtain ⟨n, rfl⟩ : ∃ n', n = n' + 1 := ⟨n - 1, by omega⟩
    have hsi := (hO t (by omega) i (by omega)).1
    have es := hL.2 t (by omega) i (by omega)
    have ec := hL.1 t (by omega)
    have tw := hp_tr2 hw hsi
    have hl := hp_lnT_lt (c := y 2 (L.2 t i)) (tr := y 3 (L.2 t i)) (m := 2 - t) (t := t + 1) (by omega) tw
    have k0 : F_X2_wagonAt_58 N (nI t) (nI i) D = some (nI (L.2 t i), D) := by
      clear ih hL hQ hf hO x2 x3
      rw [F_X2_wagonAt_58_eq]
      simp (disch := omega) only [hp_kN, nI_add, pk_mul, hp_isInN, hp_m1L, hp_l0, hp_l1, hp_l2, hp_l3, hp_l4, hp_l5, hp_l7, hp_l8, hp_l10, hp_l17, hp_l20, hp_l24, hp_l48, hp_l50, hp_l55, hp_l127, hp_lm1, hp_eqN, hp_ltN, hp_inN, hp_cl, if_pos, if_neg, if_true, if_false, Option.bind_some, ec, hp_pr59, hp_al60, es]
    have k1 := hp_lbP N hN (D := D) ht (w := L.2 t i) (c := y 2 (L.2 t i)) (by omega) (by rw [hf 3 (by omega)]; exact x2 _ (by omega)) (hw.2.2.2.1 _ (by omega)).2.1 (by rw [hf 4 (by omega)]; exact x3 _ (by omega)) tw
    obtain ⟨D1, e1, f1, f2⟩ := hp_arX N hQ (by omega) (w := L.2 t i) (by omega) hl
    obtain ⟨D2, e2, g1, g2⟩ := ih (i + 1) n D1 _ (by omega) (by omega) ⟨fun l hl => by rw [f2 65 (by omega) (by omega)]; exact hL.1 l hl, fun l hl j hj => by rw [f2 (60 + l) (by omega) (by omega)]; exact hL.2 l hl j hj⟩ f1 (by show Q.1 + 1 + 1 + 2 * m ≤ 71; omega) (fun q hq => by rw [f2 q (by omega) (by omega), hf q hq])
    refine ⟨D2, ?_, g1, fun q a b => by rw [g2 q a b, f2 q a b]⟩
    rw [F_X8_spellPull_37_eq, if_pos (by rw [hp_ltN (by omega) (by omega)]; omega), k0, Option.bind_some, k1, Option.bind_some, e1, Option.bind_some, hp_inc]
    exact e2
theorem hp_spP (N : Nat) (hN : 10 ≤ N) (hw : hp_WF y) {D0 : hy_M} (hX : hp_X (y, pu, yk, pk, fl, T, P, tp, pp, ls, lc) D0) {L : hp_L} (hO : hp_LO y L) (h8 : hp_tot L ≤ 8) {t : Nat} (ht : t < 3) {D : hy_M} {Q : hp_Q} (hL : hp_LX L.1 L.2 D) (hQ : hp_PX Q D) (hs : Q.1 + 18 ≤ 71) (hf : ∀ q, q < 19 → D q = D0 q) : ∃ D1, F_X8_spellPull N (nI t) D = some D1 ∧ hp_LX (hp_pul y (y 2) t L).1 (hp_pul y (y 2) t L).2 D1 ∧ hp_PX (hp_wq 1 y (y 2) t L Q) D1 ∧ ∀ q, q ≠ 39 → q ≠ 40 → ¬ (60 ≤ q ∧ q < 66) → D1 q = D q := by
  have b0 := hw.1
  have hk := hp_tot_le (L := L) (l := t) (by omega)
  have ec := hL.1 t (by omega)
  by_cases c0 : L.1 t = 0
  · refine ⟨D, ?_, ?_, ?_, fun _ _ _ _ => rfl⟩
    · rw [F_X8_spellPull_eq]
      rw [c0] at ec
      clear hL hQ hf hO
      simp (disch := omega) only [hp_kN, nI_add, pk_mul, hp_isInN, hp_m1L, hp_l0, hp_l1, hp_l2, hp_l3, hp_l4, hp_l5, hp_l7, hp_l8, hp_l10, hp_l17, hp_l20, hp_l24, hp_l48, hp_l50, hp_l55, hp_l127, hp_lm1, hp_eqN, hp_ltN, hp_inN, hp_cl, if_pos, if_neg, if_true, if_false, Option.bind_some, ec]
    · have e : hp_pul y (y 2) t L = hp_em L t := by
        unfold hp_pul
        rw [c0]
        rfl
      rw [e]
      refine ⟨fun k hk => ?_, fun k hk j hj => ?_⟩
      · show _ = nI (if k = t then 0 else L.1 k)
        by_cases q : k = t
        · subst q
          rw [if_pos rfl, ec, c0]
        · rw [if_neg q]
          exact hL.1 k hk
      · have hj' : j < if k = t then 0 else L.1 k := hj
        refine hL.2 k hk j ?_
        split at hj' <;> omega
    · unfold hp_wq
      rw [if_neg (by omega), if_pos c0]
      exact hQ
  · obtain ⟨D1, e1, f1, f2⟩ := hp_sayX N hQ (by omega) 59
    obtain ⟨D2, e2, g1, g2⟩ := hp_sayX N f1 (by show Q.1 + 1 < 71; omega) (48 + t)
    have hL2 : hp_LX L.1 L.2 D2 := ⟨fun l hl => by rw [g2 65 (by omega) (by omega), f2 65 (by omega) (by omega)]; exact hL.1 l hl, fun l hl j hj => by rw [g2 (60 + l) (by omega) (by omega), f2 (60 + l) (by omega) (by omega)]; exact hL.2 l hl j hj⟩
    have hf2 : ∀ q, q < 19 → D2 q = D0 q := fun q hq => by rw [g2 q (by omega) (by omega), f2 q (by omega) (by omega), hf q hq]
    obtain ⟨D3, e3, k1, k2⟩ := hp_spp N hN hw hX hO ht (by omega) (L.1 t) 0 N D2 _ (by omega) (by omega) hL2 g1 (by show Q.1 + 1 + 1 + 2 * L.1 t ≤ 71; omega) hf2
    have hL3 : hp_LX L.1 L.2 D3 := ⟨fun l hl => by rw [k2 65 (by omega) (by omega)]; exact hL2.1 l hl, fun l hl j hj => by rw [k2 (60 + l) (by omega) (by omega)]; exact hL2.2 l hl j hj⟩
    obtain ⟨D4, e4, r1, r2⟩ := hp_tpX N hN hw hX (fun q hq => by rw [k2 q (by omega) (by omega)]; exact hf2 q hq) hL3 hO h8 ht
    refine ⟨D4, ?_, r1, ?_, fun q a b d => by rw [r2 q d, k2 q a b, g2 q a b, f2 q a b]⟩
    · rw [e4, Option.bind_some] at e3
      rw [F_X8_spellPull_eq]
      clear hL hQ hf hO f1 f2 g1 g2 hL2 hf2 k1 k2 hL3 r1 r2
      simp (disch := omega) only [hp_kN, nI_add, pk_mul, hp_isInN, hp_m1L, hp_l0, hp_l1, hp_l2, hp_l3, hp_l4, hp_l5, hp_l7, hp_l8, hp_l10, hp_l17, hp_l20, hp_l24, hp_l48, hp_l50, hp_l55, hp_l127, hp_lm1, hp_eqN, hp_ltN, hp_inN, hp_cl, if_pos, if_neg, if_true, if_false, Option.bind_some, ec, e1, e2]
      exact e3
    · unfold hp_wq
      rw [if_neg (by omega), if_neg c0]
      exact ⟨by rw [r2 39 (by omega)]; exact k1.1, fun j hj => by rw [r2 40 (by omega)]; exact k1.2 j hj⟩
theorem hp_sp80 (N : Nat) (hN : 10 ≤ N) (hw : hp_WF y) {D0 : hy_M} (hX : hp_X (y, pu, yk, pk, fl, T, P, tp, pp, ls, lc) D0) : ∀ m t n D L Q, t + m = 3 → m < n → hp_LX L.1 L.2 D → hp_LO y L → hp_tot L ≤ 8 → hp_PX Q D → Q.1 + 18 * m ≤ 71 → (∀ q, q < 19 → D q = D0 q) → ∃ D1, F_X8_spell_80 N n (nI t) D = some (nI (hp_wrQ 1 y (y 2) m t L Q).1, D1) ∧ hp_PX (hp_wrQ 1 y (y 2) m t L Q) D1 ∧ ∀ q, q ≠ 39 → q ≠ 40 → ¬ (60 ≤ q ∧ q < 66) → D1 q = D q := by
  intro m
  induction m with
  | zero =>
    intro t n D L Q e hm hL hO h8 hQ hs hf
    obtain ⟨n, rfl⟩ : ∃ n', n = n' + 1 := ⟨n - 1, by omega⟩
    refine ⟨D, ?_, hQ, fun _ _ _ _ => rfl⟩
    rw [F_X8_spell_80_eq, if_neg, hQ.1]
    · rfl
    · rw [show (3 : Int32) = nI 3 from rfl, hp_ltN (by omega) (by omega)]
      omega
  | succ m ih =>
    intro t n D L Q e hm hL hO h8 hQ hs hf
    obtain ⟨n, rfl⟩ : ∃ n', n = n' + 1 := ⟨n - 1, by omega⟩
    obtain ⟨D1, e1, f1, f2, f3⟩ := hp_spP N hN hw hX hO h8 (t := t) (by omega) hL hQ (by omega) hf
    obtain ⟨hO', ht'⟩ := hp_pul_w hw (y 2) (t := t) (by omega) hO
    have hl := hp_wq_l (s := 1) (y := y) (c := y 2) (t := t) (L := L) (Q := Q) (by omega) h8
    obtain ⟨D2, e2, g1, g2⟩ := ih (t + 1) n D1 _ _ (by omega) (by omega) f1 hO' (by omega) f2 (by omega) (fun q hq => by rw [f3 q (by omega) (by omega) (by omega), hf q hq])
    refine ⟨D2, ?_, g1, fun q a b d => by rw [g2 q a b d, f3 q a b d]⟩
    rw [F_X8_spell_80_eq, if_pos (by rw [show (3 : Int32) = nI 3 from rfl, hp_ltN (by omega) (by omega)]; omega), e1, Option.bind_some, hp_inc]
    exact e2
end
theorem st_spell (N : Nat) (hN : 100 ≤ N) : hp_step (F_X8_spell N) (F_X9_spell N) := by
  rintro ⟨y, pu, yk, pk, fl, T, P, tp, pp, ls, lc⟩ ⟨hw, hw1⟩
  obtain ⟨b0, b1, b2, b8, b17, b9⟩ := hp_Wb hw
  obtain ⟨w1, w2, w3, w4, w5, w6, w7⟩ := hw1
  obtain ⟨hO, htt⟩ := hp_H_w hw (y 2)
  obtain ⟨Q1, eQ1⟩ : ∃ Q1, Q1 = hp_huQ 1 y (y 2) (y 0 0) 0 (hp_pa (0, fun _ => 0) 72) := ⟨_, rfl⟩
  obtain ⟨Q, eQ⟩ : ∃ Q, Q = hp_wrQ 1 y (y 2) 3 0 (hp_H y (y 2)) Q1 := ⟨_, rfl⟩
  have hl1 : Q1.1 = 1 + 2 * y 0 0 := by rw [eQ1, hp_huQ_l]; rfl
  have hwQ : hp_PW Q := by
    rw [eQ]
    refine hp_PW_wr hw _ 3 0 _ _ rfl hO ?_
    rw [eQ1]
    exact hp_PW_hu b0 _ _ _ _ (by omega) (hp_PW_pa (fun j hj => absurd hj (by show ¬ j < 0; omega)) (by omega))
  have hlQ : Q.1 ≤ 71 := by
    have a0 := hp_wq_l (s := 1) (y := y) (c := y 2) (t := 0) (L := hp_H y (y 2)) (Q := Q1) (by omega) (by omega)
    have p1 := hp_pul_w hw (y 2) (t := 0) (by omega) hO
    have p2 := hp_pul_w hw (y 2) (t := 1) (by omega) p1.1
    have a1 := hp_wq_l (s := 1) (y := y) (c := y 2) (t := 1) (L := hp_pul y (y 2) 0 (hp_H y (y 2))) (Q := hp_wq 1 y (y 2) 0 (hp_H y (y 2)) Q1) (by omega) (by omega)
    have a2 := hp_wq_l (s := 1) (y := y) (c := y 2) (t := 2) (L := hp_pul y (y 2) 1 (hp_pul y (y 2) 0 (hp_H y (y 2)))) (Q := hp_wq 1 y (y 2) 1 (hp_pul y (y 2) 0 (hp_H y (y 2))) (hp_wq 1 y (y 2) 0 (hp_H y (y 2)) Q1)) (by omega) (by omega)
    have e : Q = hp_wq 1 y (y 2) 2 (hp_pul y (y 2) 1 (hp_pul y (y 2) 0 (hp_H y (y 2)))) (hp_wq 1 y (y 2) 1 (hp_pul y (y 2) 0 (hp_H y (y 2))) (hp_wq 1 y (y 2) 0 (hp_H y (y 2)) Q1)) := by
      rw [eQ]
      rfl
    rw [e]
    omega
  refine ⟨nI Q.1, (y, pu, yk, pk, fl, T, Q.1, tp, Q.2, ls, lc), ⟨hw, ⟨w1, w2, w3, w4, hlQ, hwQ, w7⟩⟩, fun D hX => ?_, fun D hR0 => ?_⟩
  · have hQ0 : hp_PX (0, fun _ => 0) (hy_w D 39 1 (nI 0)) := ⟨hp_ws _ _ _ _, fun j hj => absurd hj (by show ¬ j < 0; omega)⟩
    obtain ⟨D1, e1, f1, f2⟩ := hp_sayX N hQ0 (by show 0 < 71; omega) 72
    have hf1 : ∀ q, q ≠ 39 → q ≠ 40 → D1 q = D q := fun q a b => by rw [f2 q a b, hy_w_ne a]
    obtain ⟨D2, e2, g1, g2⟩ := hp_thX N (by omega) hw hX (D1 := D1) (fun q hq => hf1 q (by omega) (by omega))
    obtain ⟨D3, e3, k1, k2⟩ := hp_sp37 N (by omega) hw hX (y 0 0) 0 N D2 (hp_pa (0, fun _ => 0) 72) (by omega) (by omega) ⟨by rw [g2 39 (by omega)]; exact f1.1, fun j hj => by rw [g2 40 (by omega)]; exact f1.2 j hj⟩ (by show 0 + 1 + 2 * y 0 0 ≤ 71; omega) (fun q hq => by rw [g2 q (by omega), hf1 q (by omega) (by omega)])
    rw [← eQ1] at k1
    obtain ⟨D4, e4, r1, r2⟩ := hp_sp80 N (by omega) hw hX 3 0 N D3 (hp_H y (y 2)) Q1 rfl (by omega) ⟨fun l hl => by rw [k2 65 (by omega) (by omega)]; exact g1.1 l hl, fun l hl j hj => by rw [k2 (60 + l) (by omega) (by omega)]; exact g1.2 l hl j hj⟩ hO (by omega) k1 (by omega) (fun q hq => by rw [k2 q (by omega) (by omega), g2 q (by omega), hf1 q (by omega) (by omega)])
    rw [← eQ] at e4 r1
    have hf : ∀ q, q ≠ 39 → q ≠ 40 → ¬ (60 ≤ q ∧ q < 66) → D4 q = D q := fun q a b d => by rw [r2 q a b d, k2 q a b, g2 q d, hf1 q a b]
    refine ⟨D4, ?_, ⟨hp_CY_fr hX.1 (fun c a b => hf c (by omega) (by omega) (by omega)), ?_⟩, fun c a b => hf c (by omega) (by omega) (by omega)⟩
    · have e0 : F_X4_append N (72 : Int32) (hy_w D 39 1 (0 : Int32)) = some D1 := e1
      rw [F_X8_spell_eq, e0, Option.bind_some, e2, Option.bind_some]
      exact e3.trans e4
    · obtain ⟨k1, k2, k3, k4, k5, k6, k7, k8, k9⟩ := hX.2
      have hg : ∀ c, (c = 0 ∨ (19 ≤ c ∧ c < 39) ∨ (41 ≤ c ∧ c < 48) ∨ c = 52 ∨ c = 1000) → D4 c = D c := fun c hc => hf c (by omega) (by omega) (by omega)
      exact ⟨by rw [hg 0 (by omega)]; exact k1, fun e => hp_CY_fr (k2 e) (fun c a b => hg c (by omega)), by rw [hg 37 (by omega)]; exact k3, fun j hj => by rw [hg 38 (by omega)]; exact k4 j hj, r1.1, r1.2, fun l hl => ⟨by rw [hg 47 (by omega)]; exact (k7 l hl).1, fun j hj => by rw [hg (43 + l) (by omega)]; exact (k7 l hl).2 j hj⟩, fun t ht => by rw [hg 52 (by omega)]; exact k8 t ht, fun j hj => by rw [hg 1000 (by omega)]; exact k9 j hj⟩
  · obtain ⟨D1, e1, f1, f2⟩ := hp_mc N hN D
    have hQ0 : hp_PM (0, fun _ => 0) (hy_w D1 67 16 (nI 0)) := ⟨hp_ws _ _ _ _, fun j hj => absurd hj (by show ¬ j < 0; omega)⟩
    obtain ⟨D2, e2, g1, g2, g3⟩ := hp_sayM N hQ0 (by show 0 < 80; omega) 72
    have h68 : D2 68 = D 68 := by rw [g2 68 (by omega) (by omega), hy_w_ne (by omega), f2 68 (by omega)]
    obtain ⟨D3, e3, r1, r2, r3⟩ := hp_wrunM N hN (y := y) (pu := pu) hw (s := 1) (D := hy_w D2 67 14 (nI 1)) (hp_MY_fr hR0.1 (by rw [hy_w_ne (by omega), h68])) (hp_ws _ _ _ _) (Q := hp_pa (0, fun _ => 0) 72) ⟨by rw [hp_wn (Or.inr (by omega))]; exact g1.1, fun j hj => by rw [hy_w_ne (by omega)]; exact g1.2 j hj⟩ (Or.inr ⟨rfl, Nat.le_refl 1⟩)
    rw [← eQ1, ← eQ] at r2
    obtain ⟨D4, e4, k1, k2⟩ := hp_mc_67_70_68 N hN (hy_w D3 67 14 (nI 0))
    have h67 : ∀ j, j ≠ 13 → j ≠ 14 → j ≠ 16 → D4 67 j = D 67 j := fun j a b d => by rw [k2 67 (by omega), hp_wn (Or.inr b), r3.2.1 j a d, hp_wn (Or.inr b), g3 j d, hp_wn (Or.inr d), f2 67 (by omega)]
    have hf : ∀ c, c ≠ 67 → c ≠ 68 → c ≠ 70 → c ≠ 77 → D4 c = D c := fun c a b d e => by rw [k2 c b, hy_w_ne a, r3.1 c a b e, hy_w_ne a, g2 c a e, hy_w_ne a, f2 c d]
    have hQ4 : hp_PM Q D4 := ⟨by rw [k2 67 (by omega), hp_wn (Or.inr (by omega))]; exact r2.1, fun j hj => by rw [k2 77 (by omega), hy_w_ne (by omega)]; exact r2.2 j hj⟩
    have h14 : D 67 14 = nI 0 := hR0.2.2.2.2.2.2.2.2
    refine ⟨D4, ?_, hp_R_bk hR0 (fun j hj => by rw [k1 j hj, hy_w_ne (by omega), r3.1 70 (by omega) (by omega) (by omega), hy_w_ne (by omega), g2 70 (by omega) (by omega), hy_w_ne (by omega), f1 j hj]) hf (h67 3 (by omega) (by omega) (by omega)) (by rw [k2 67 (by omega), hp_ws, h14]) (Nat.le_refl T) (by rw [h67 5 (by omega) (by omega) (by omega)]; exact hR0.2.2.2.1) hQ4, fun c a => hf c (by omega) (by omega) (by omega) (by omega)⟩
    have e2' : F_X9_says N (72 : Int32) (hy_w D1 67 16 (0 : Int32)) = some D2 := e2
    have e3' : F_X9_wholeRun N (hy_w D2 67 14 (1 : Int32)) = some D3 := e3
    have e4' : F_X9_copies_67_70_68 N (hy_w D3 67 14 (0 : Int32)) = some D4 := e4
    rw [F_X9_spell_eq, e1, Option.bind_some, e2', Option.bind_some, e3', Option.bind_some, e4', Option.bind_some, hQ4.1]
