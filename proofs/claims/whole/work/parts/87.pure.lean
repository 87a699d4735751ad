/-! ===== rolling: the reference ===== -/
def hp_lp (l : Nat) : Nat := if l < 3 then 70 + 8 * l else 51 + 8 * (l - 3)
def hp_lq (l : Nat) : Nat := if l < 3 then 67 + l else 46 + l
def hp_LN (L : hp_L) (D : hy_M) : Prop := ∀ l, l < 5 → D 68 (hp_lq l) = nI (L.1 l) ∧ ∀ j, j < L.1 l → D 68 (hp_lp l + j) = nI (L.2 l j)
theorem hp_lp_b (l : Nat) (h : l < 5) : (l < 3 ∧ hp_lp l = 70 + 8 * l ∧ hp_lq l = 67 + l) ∨ (l = 3 ∧ hp_lp l = 51 ∧ hp_lq l = 49) ∨ (l = 4 ∧ hp_lp l = 59 ∧ hp_lq l = 50) := by
  unfold hp_lp hp_lq
  by_cases q : l < 3
  · rw [if_pos q, if_pos q]
    exact Or.inl ⟨q, rfl, rfl⟩
  · rw [if_neg q, if_neg q]
    right
    omega
/-- the paper -/
abbrev hp_Q : Type := Nat × (Nat → Nat)
def hp_PM (Q : hp_Q) (D : hy_M) : Prop := D 67 16 = nI Q.1 ∧ ∀ j, j < Q.1 → D 77 j = nI (Q.2 j)
def hp_PX (Q : hp_Q) (D : hy_M) : Prop := D 39 1 = nI Q.1 ∧ ∀ j, j < Q.1 → D 40 j = nI (Q.2 j)
def hp_pa (Q : hp_Q) (v : Nat) : hp_Q := (Q.1 + 1, fun j => if j = Q.1 then v else Q.2 j)
def hp_sgn (l : Nat) : Nat := if l < 3 then 48 + l else if l = 3 then 43 else 45
def hp_sr (Q : hp_Q) (w l : Nat) : hp_Q := hp_pa (hp_pa Q (97 + w)) (hp_sgn l)
def hp_rQ (s : Nat) (Q : hp_Q) (w l : Nat) : hp_Q := if s = 0 then Q else hp_sr Q w l
theorem hp_sayM (N : Nat) {Q : hp_Q} {D : hy_M} (h : hp_PM Q D) (h80 : Q.1 < 80) (v : Nat) : ∃ D1, F_X9_says N (nI v) D = some D1 ∧ hp_PM (hp_pa Q v) D1 ∧ (∀ c, c ≠ 67 → c ≠ 77 → D1 c = D c) ∧ ∀ j, j ≠ 16 → D1 67 j = D 67 j := by
  obtain ⟨h1, h2⟩ := h
  refine ⟨hy_w (hy_w D 77 Q.1 (nI v)) 67 16 (nI (Q.1 + 1)), ?_, ⟨hp_ws _ _ _ _, fun j hj => ?_⟩, fun c a b => by rw [hy_w_ne a, hy_w_ne b], fun j a => by rw [hp_wn (Or.inr a), hp_wn (Or.inl (by omega))]⟩
  · rw [F_X9_says_eq]
    simp (disch := omega) only [hp_kN, nI_add, pk_mul, hp_isInN, hp_m1L, hp_l0, hp_l1, hp_l2, hp_l3, hp_l4, hp_l5, hp_l7, hp_l8, hp_l10, hp_l17, hp_l20, hp_l24, hp_l48, hp_l50, hp_l55, hp_l127, hp_lm1, hp_eqN, hp_ltN, hp_inN, hp_cl, if_pos, if_neg, if_true, if_false, Option.bind_some, h1, hp_wn]
  · have hj' : j < Q.1 + 1 := hj
    show _ = nI (if j = Q.1 then v else Q.2 j)
    rw [hp_wn (Or.inl (by omega)), hp_w]
    by_cases q : j = Q.1
    · rw [if_pos ⟨rfl, q⟩, if_pos q]
    · rw [if_neg (fun z => q z.2), if_neg q]
      exact h2 j (by omega)
/-- what no roll changes -/
def hp_f0 (D D1 : hy_M) : Prop := (∀ c, c ≠ 67 → c ≠ 68 → c ≠ 77 → D1 c = D c) ∧ (∀ j, j ≠ 13 → j ≠ 16 → D1 67 j = D 67 j) ∧ ∀ p, p < 49 → D1 68 p = D 68 p
theorem hp_f0_rf (D : hy_M) : hp_f0 D D := ⟨fun _ _ _ _ => rfl, fun _ _ _ => rfl, fun _ _ => rfl⟩
theorem hp_f0_tr {A B C : hy_M} (h : hp_f0 A B) (k : hp_f0 B C) : hp_f0 A C := ⟨fun c a b d => (k.1 c a b d).trans (h.1 c a b d), fun j a b => (k.2.1 j a b).trans (h.2.1 j a b), fun p a => (k.2.2 p a).trans (h.2.2 p a)⟩
def hp_fk (D D1 : hy_M) : Prop := (∀ c, c ≠ 67 → c ≠ 68 → c ≠ 77 → D1 c = D c) ∧ (∀ j, j ≠ 13 → j ≠ 16 → D1 67 j = D 67 j) ∧ ∀ p, p < 49 → p ≠ 2 → p ≠ 3 → D1 68 p = D 68 p
theorem hp_fk_rf (D : hy_M) : hp_fk D D := ⟨fun _ _ _ _ => rfl, fun _ _ _ => rfl, fun _ _ _ _ => rfl⟩
theorem hp_fk_tr {A B C : hy_M} (h : hp_fk A B) (k : hp_fk B C) : hp_fk A C := ⟨fun c a b d => (k.1 c a b d).trans (h.1 c a b d), fun j a b => (k.2.1 j a b).trans (h.2.1 j a b), fun p a b d => (k.2.2 p a b d).trans (h.2.2 p a b d)⟩
theorem hp_f0_k {A B : hy_M} (h : hp_f0 A B) : hp_fk A B := ⟨h.1, h.2.1, fun p a _ _ => h.2.2 p a⟩
theorem hp_93 (N : Nat) {L : hp_L} {D : hy_M} (h : hp_LN L D) (h8 : hp_tot L < 8) {x w tr : Nat} (hx : x ≤ 3) (htr : tr < 2) : ∃ D1, F_X9_rolls_93 N (nI w) (nI x) (nI tr) D = some D1 ∧ hp_LN (hp_ap L (if x = 3 then 3 + tr else x) w) D1 ∧ (∀ c, c ≠ 68 → D1 c = D c) ∧ (∀ p, p < 49 → D1 68 p = D 68 p) ∧ ∀ k j, k < 3 → j < 8 → k ≠ (if x = 3 then 3 + tr else x) → D1 68 (70 + 8 * k + j) = D 68 (70 + 8 * k + j) := by
  obtain ⟨l, el⟩ : ∃ l, l = if x = 3 then 3 + tr else x := ⟨_, rfl⟩
  rw [← el]
  have hl : l < 5 := by rw [el]; split <;> omega
  have hc := hp_tot_le (L := L) hl
  have hb := hp_lp_b l hl
  have e : F_X9_rolls_93 N (nI w) (nI x) (nI tr) D = some (hy_w (hy_w D 68 (hp_lp l + L.1 l) (nI w)) 68 (hp_lq l) (nI (L.1 l + 1))) := by
    have a := (h l hl).1
    clear h
    rw [F_X9_rolls_93_eq]
    by_cases q : x = 3
    · subst q
      rw [if_pos rfl] at el
      have e1 : hp_lq l = 49 + tr := by omega
      have e2 : hp_lp l = 51 + 8 * tr := by omega
      rw [e1] at a
      rw [e1, e2]
      simp (disch := omega) only [hp_kN, nI_add, pk_mul, hp_isInN, hp_m1L, hp_l0, hp_l1, hp_l2, hp_l3, hp_l4, hp_l5, hp_l7, hp_l8, hp_l10, hp_l17, hp_l20, hp_l24, hp_l48, hp_l50, hp_l55, hp_l127, hp_lm1, hp_eqN, hp_ltN, hp_inN, hp_cl, if_pos, if_neg, if_true, if_false, Option.bind_some, a, hp_wn]
    · rw [if_neg q] at el
      subst el
      have e1 : hp_lq l = 67 + l := by omega
      have e2 : hp_lp l = 70 + 8 * l := by omega
      rw [e1] at a
      rw [e1, e2]
      simp (disch := omega) only [hp_kN, nI_add, pk_mul, hp_isInN, hp_m1L, hp_l0, hp_l1, hp_l2, hp_l3, hp_l4, hp_l5, hp_l7, hp_l8, hp_l10, hp_l17, hp_l20, hp_l24, hp_l48, hp_l50, hp_l55, hp_l127, hp_lm1, hp_eqN, hp_ltN, hp_inN, hp_cl, if_pos, if_neg, if_true, if_false, Option.bind_some, a, hp_wn]
  refine ⟨_, e, fun k hk => ⟨?_, fun j hj => ?_⟩, fun c a => by rw [hy_w_ne a, hy_w_ne a], fun p hp => ?_, fun k j hk hj hne => ?_⟩
  · have hb2 := hp_lp_b k hk
    show _ = nI (hp_apc L.1 l k)
    by_cases q : k = l
    · subst q
      rw [hp_ws, hp_apc_s]
    · rw [hp_wn (Or.inr (by omega)), hp_wn (Or.inr (by omega)), hp_apc_n q]
      exact (h k hk).1
  · have hb2 := hp_lp_b k hk
    have hck := hp_tot_le (L := L) hk
    have hj' : j < hp_apc L.1 l k := hj
    show _ = nI (hp_apr L.1 L.2 l w k j)
    unfold hp_apr
    by_cases q2 : k = l
    · subst q2
      rw [hp_apc_s] at hj'
      by_cases q : j = L.1 k
      · rw [if_pos ⟨rfl, q⟩, hp_wn (Or.inr (by omega)), q, hp_ws]
      · rw [if_neg (fun z => q z.2), hp_wn (Or.inr (by omega)), hp_wn (Or.inr (by omega))]
        exact (h k hk).2 j (by omega)
    · rw [hp_apc_n q2] at hj'
      rw [if_neg (fun z => q2 z.1), hp_wn (Or.inr (by omega)), hp_wn (Or.inr (by omega))]
      exact (h k hk).2 j hj'
  · rw [hp_wn (Or.inr (by omega)), hp_wn (Or.inr (by omega))]
  · rw [hp_wn (Or.inr (by omega)), hp_wn (Or.inr (by omega))]
theorem hp_r12 (N : Nat) {w c : Nat} {D : hy_M} (hw : w < 8) (hc : D 68 (12 + w) = nI c) (hc8 : c < 8) : ∀ m t n, t + m = 3 → m < n → F_X9_rolls_12 N n (nI w) (nI t) D = F_X9_rolls_39 N (nI w) (nI (hp_nxT c m t)) D := by
  intro m
  induction m with
  | zero =>
    intro t n e hm
    obtain ⟨n, rfl⟩ : ∃ n', n = n' + 1 := ⟨n - 1, by omega⟩
    have e : t = 3 := by omega
    subst e
    rw [F_X9_rolls_12_eq]
    simp (disch := omega) only [hp_kN, nI_add, pk_mul, hp_isInN, hp_m1L, hp_l0, hp_l1, hp_l2, hp_l3, hp_l4, hp_l5, hp_l7, hp_l8, hp_l10, hp_l17, hp_l20, hp_l24, hp_l48, hp_l50, hp_l55, hp_l127, hp_lm1, hp_eqN, hp_ltN, hp_inN, hp_cl, if_pos, if_neg, if_true, if_false, Option.bind_some]
    rfl
  | succ m ih =>
    intro t n e hm
    obtain ⟨n, rfl⟩ : ∃ n', n = n' + 1 := ⟨n - 1, by omega⟩
    have hi := ih (t + 1) n (by omega) (by omega)
    clear ih
    have e0 : hp_nxT c (m + 1) t = if hp_bit c t = 1 then t else hp_nxT c m (t + 1) := rfl
    have h1 := hp_has N (c := c) (t := t) (by omega) (by omega) D
    rw [F_X9_rolls_12_eq, e0]
    by_cases q : hp_bit c t = 1
    · rw [if_pos q] at h1
      simp (disch := omega) only [hp_kN, nI_add, pk_mul, hp_isInN, hp_m1L, hp_l0, hp_l1, hp_l2, hp_l3, hp_l4, hp_l5, hp_l7, hp_l8, hp_l10, hp_l17, hp_l20, hp_l24, hp_l48, hp_l50, hp_l55, hp_l127, hp_lm1, hp_eqN, hp_ltN, hp_inN, hp_cl, if_pos, if_neg, if_true, if_false, Option.bind_some, hc, h1, q]
    · rw [if_neg q] at h1
      simp (disch := omega) only [hp_kN, nI_add, pk_mul, hp_isInN, hp_m1L, hp_l0, hp_l1, hp_l2, hp_l3, hp_l4, hp_l5, hp_l7, hp_l8, hp_l10, hp_l17, hp_l20, hp_l24, hp_l48, hp_l50, hp_l55, hp_l127, hp_lm1, hp_eqN, hp_ltN, hp_inN, hp_cl, if_pos, if_neg, if_true, if_false, Option.bind_some, hc, h1, q, hi]
theorem hp_LN_fr {L : hp_L} {D D1 : hy_M} (h : hp_LN L D) (e : D1 68 = D 68) : hp_LN L D1 := fun l hl => by rw [e]; exact h l hl
theorem hp_r39 (N : Nat) {L : hp_L} {Q : hp_Q} {D : hy_M} (h : hp_LN L D) (hq : hp_PM Q D) (h8 : hp_tot L < 8) {x w tr s : Nat} (hw : w < 8) (hx : x ≤ 3) (htr : tr < 2) (h20 : D 68 (20 + w) = nI tr) (h14 : D 67 14 = nI s) (hs : s = 0 ∨ (s = 1 ∧ Q.1 + 2 ≤ 80)) : ∃ D1, F_X9_rolls_39 N (nI w) (nI x) D = some D1 ∧ hp_LN (hp_ap L (if x = 3 then 3 + tr else x) w) D1 ∧ hp_PM (hp_rQ s Q w (if x = 3 then 3 + tr else x)) D1 ∧ (∀ c, c ≠ 67 → c ≠ 68 → c ≠ 77 → D1 c = D c) ∧ (∀ j, j ≠ 16 → D1 67 j = D 67 j) ∧ (∀ p, p < 49 → D1 68 p = D 68 p) ∧ ∀ k j, k < 3 → j < 8 → k ≠ (if x = 3 then 3 + tr else x) → D1 68 (70 + 8 * k + j) = D 68 (70 + 8 * k + j) := by
  rcases hs with rfl | ⟨rfl, hs⟩
  · obtain ⟨D1, e1, f1, f2, f3, f4⟩ := hp_93 N h h8 (w := w) hx htr
    refine ⟨D1, ?_, f1, ?_, fun c _ b _ => f2 c b, fun j _ => by rw [f2 67 (by omega)], f3, f4⟩
    · rw [F_X9_rolls_39_eq]
      clear f1 f2 f3 f4 h hq
      simp (disch := omega) only [hp_kN, nI_add, pk_mul, hp_isInN, hp_m1L, hp_l0, hp_l1, hp_l2, hp_l3, hp_l4, hp_l5, hp_l7, hp_l8, hp_l10, hp_l17, hp_l20, hp_l24, hp_l48, hp_l50, hp_l55, hp_l127, hp_lm1, hp_eqN, hp_ltN, hp_inN, hp_cl, if_pos, if_neg, if_true, if_false, Option.bind_some, h20, h14, e1]
    · exact ⟨by rw [f2 67 (by omega)]; exact hq.1, fun j hj => by rw [f2 77 (by omega)]; exact hq.2 j hj⟩
  · obtain ⟨D1, e1, f1, f2, f3⟩ := hp_sayM N hq (by omega) (97 + w)
    obtain ⟨D2, e2, g1, g2, g3⟩ := hp_sayM N f1 (by show Q.1 + 1 < 80; omega) (hp_sgn (if x = 3 then 3 + tr else x))
    have h68 : D2 68 = D 68 := by rw [g2 68 (by omega) (by omega), f2 68 (by omega) (by omega)]
    obtain ⟨D3, e3, k1, k2, k3, k4⟩ := hp_93 N (hp_LN_fr h h68) h8 (w := w) hx htr
    refine ⟨D3, ?_, k1, ?_, fun c a b d => by rw [k2 c b, g2 c a d, f2 c a d], fun j a => by rw [k2 67 (by omega), g3 j a, f3 j a], fun p hp => by rw [k3 p hp, h68], fun k j a b d => by rw [k4 k j a b d, h68]⟩
    · rw [F_X9_rolls_39_eq]
      clear f1 f2 f3 g1 g2 g3 k1 k2 k3 k4 h hq h68
      by_cases q : x = 3
      · subst q
        rw [if_pos rfl] at e2
        by_cases q2 : tr = 0
        · subst q2
          have e2' : F_X9_says N (nI 43) D1 = some D2 := e2
          simp (disch := omega) only [hp_kN, nI_add, pk_mul, hp_isInN, hp_m1L, hp_l0, hp_l1, hp_l2, hp_l3, hp_l4, hp_l5, hp_l7, hp_l8, hp_l10, hp_l17, hp_l20, hp_l24, hp_l48, hp_l50, hp_l55, hp_l127, hp_lm1, hp_eqN, hp_ltN, hp_inN, hp_cl, if_pos, if_neg, if_true, if_false, Option.bind_some, h20, h14, e1, e2', e3]
        · have q3 : tr = 1 := by omega
          subst q3
          have e2' : F_X9_says N (nI 45) D1 = some D2 := e2
          simp (disch := omega) only [hp_kN, nI_add, pk_mul, hp_isInN, hp_m1L, hp_l0, hp_l1, hp_l2, hp_l3, hp_l4, hp_l5, hp_l7, hp_l8, hp_l10, hp_l17, hp_l20, hp_l24, hp_l48, hp_l50, hp_l55, hp_l127, hp_lm1, hp_eqN, hp_ltN, hp_inN, hp_cl, if_pos, if_neg, if_true, if_false, Option.bind_some, h20, h14, e1, e2', e3]
      · rw [if_neg q] at e2
        have e0 : hp_sgn x = 48 + x := by unfold hp_sgn; rw [if_pos (by omega)]
        rw [e0] at e2
        simp (disch := omega) only [hp_kN, nI_add, pk_mul, hp_isInN, hp_m1L, hp_l0, hp_l1, hp_l2, hp_l3, hp_l4, hp_l5, hp_l7, hp_l8, hp_l10, hp_l17, hp_l20, hp_l24, hp_l48, hp_l50, hp_l55, hp_l127, hp_lm1, hp_eqN, hp_ltN, hp_inN, hp_cl, if_pos, if_neg, if_true, if_false, Option.bind_some, h20, h14, e1, e2, e3]
    · exact ⟨by rw [k2 67 (by omega)]; exact g1.1, fun j hj => by rw [k2 77 (by omega)]; exact g1.2 j hj⟩
theorem hp_rlM (N : Nat) (hN : 10 ≤ N) {L : hp_L} {Q : hp_Q} {D : hy_M} (h : hp_LN L D) (hq : hp_PM Q D) (h8 : hp_tot L < 8) {w c tr m t s : Nat} (hw : w < 8) (hc : D 68 (12 + w) = nI c) (hc8 : c < 8) (h20 : D 68 (20 + w) = nI tr) (htr : tr < 2) (h14 : D 67 14 = nI s) (hs : s = 0 ∨ (s = 1 ∧ Q.1 + 2 ≤ 80)) (htm : t + m = 3) : ∃ D1, F_X9_rolls N (nI w) (nI t) D = some D1 ∧ hp_LN (hp_ap L (hp_lnT c tr m t) w) D1 ∧ hp_PM (hp_rQ s Q w (hp_lnT c tr m t)) D1 ∧ D1 67 13 = D 67 13 + nI 1 ∧ hp_f0 D D1 ∧ ∀ k j, k < 3 → j < 8 → k ≠ hp_lnT c tr m t → D1 68 (70 + 8 * k + j) = D 68 (70 + 8 * k + j) := by
  have hn := hp_nxT_b c m t htm
  have z : ∀ q, q ≠ 67 → hy_w D 67 13 (D 67 13 + nI 1) q = D q := fun q hq => hy_w_ne hq
  obtain ⟨D1, e1, f1, f2, f3, f4, f5, f6⟩ := hp_r39 N (L := L) (Q := Q) (D := hy_w D 67 13 (D 67 13 + nI 1)) (hp_LN_fr h (z 68 (by omega))) ⟨by rw [hp_wn (Or.inr (by omega))]; exact hq.1, fun j hj => by rw [z 77 (by omega)]; exact hq.2 j hj⟩ h8 (x := hp_nxT c m t) hw hn.2 htr (by rw [z 68 (by omega)]; exact h20) (by rw [hp_wn (Or.inr (by omega))]; exact h14) hs
  refine ⟨D1, ?_, f1, f2, ?_, ⟨fun q a b d => by rw [f3 q a b d, z q a], fun j a b => by rw [f4 j b, hp_wn (Or.inr a)], fun p hp => by rw [f5 p hp, z 68 (by omega)]⟩, fun k j a b d => by rw [f6 k j a b d, z 68 (by omega)]⟩
  · rw [F_X9_rolls_eq]
    have e2 := hp_r12 N (c := c) (D := hy_w D 67 13 (D 67 13 + nI 1)) hw (by rw [z 68 (by omega)]; exact hc) hc8 m t N htm (by omega)
    exact e2.trans e1
  · rw [f4 13 (by omega), hp_ws]
def hp_huQ (s : Nat) (y : Nat → Nat → Nat) (c : Nat → Nat) : Nat → Nat → hp_Q → hp_Q
  | 0, _, Q => Q
  | m + 1, w, Q => hp_huQ s y c m (w + 1) (hp_rQ s Q w (hp_lnT (c w) (y 3 w) 3 0))
def hp_plQ (s : Nat) (y : Nat → Nat → Nat) (c : Nat → Nat) (t : Nat) (src : Nat → Nat) : Nat → Nat → hp_Q → hp_Q
  | 0, _, Q => Q
  | m + 1, i, Q => hp_plQ s y c t src m (i + 1) (hp_rQ s Q (src i) (hp_lnT (c (src i)) (y 3 (src i)) (2 - t) (t + 1)))
theorem hp_huQ0 (y : Nat → Nat → Nat) (c : Nat → Nat) : ∀ m w Q, hp_huQ 0 y c m w Q = Q := by
  intro m
  induction m with
  | zero => intro w Q; rfl
  | succ m ih => intro w Q; exact ih (w + 1) _
theorem hp_plQ0 (y : Nat → Nat → Nat) (c : Nat → Nat) (t : Nat) (src : Nat → Nat) : ∀ m i Q, hp_plQ 0 y c t src m i Q = Q := by
  intro m
  induction m with
  | zero => intro w Q; rfl
  | succ m ih => intro w Q; exact ih (w + 1) _
theorem hp_addA (a : Int32) (i j : Nat) : a + nI i + nI j = a + nI (i + j) := by rw [Int32.add_assoc, nI_add]
theorem hp_huM (N : Nat) (hN : 10 ≤ N) {y : Nat → Nat → Nat} (hw : hp_WF y) {c : Nat → Nat} {s : Nat} (hc : ∀ j, j < y 0 0 → c j < 8) : ∀ m w n D L Q, w + m = y 0 0 → m < n → D 68 0 = nI (y 0 0) → (∀ j, j < y 0 0 → D 68 (12 + j) = nI (c j)) → (∀ j, j < 8 → D 68 (20 + j) = nI (y 3 j)) → D 67 14 = nI s → hp_LN L D → hp_PM Q D → hp_tot L = w → (s = 0 ∨ (s = 1 ∧ Q.1 + 2 * m ≤ 80)) → ∃ D1, F_X9_humps_9 N n (nI w) D = some D1 ∧ hp_LN (hp_hu y c m w L) D1 ∧ hp_PM (hp_huQ s y c m w Q) D1 ∧ D1 67 13 = D 67 13 + nI m ∧ hp_f0 D D1 := by
  have b0 := hw.1
  intro m
  induction m with
  | zero =>
    intro w n D L Q e hm x00 xc x3 h14 h1 h2 h3 hs
    obtain ⟨n, rfl⟩ : ∃ n', n = n' + 1 := ⟨n - 1, by omega⟩
    refine ⟨D, ?_, h1, h2, (Int32.add_zero _).symm, hp_f0_rf D⟩
    rw [F_X9_humps_9_eq, x00, if_neg]
    rw [hp_ltN (by omega) (by omega)]
    omega
  | succ m ih =>
    intro w n D L Q e hm x00 xc x3 h14 h1 h2 h3 hs
    obtain ⟨n, rfl⟩ : ∃ n', n = n' + 1 := ⟨n - 1, by omega⟩
    have tw := hp_tr2 hw (w := w) (by omega)
    have hl := hp_lnT_lt (c := c w) (tr := y 3 w) (m := 3) (t := 0) rfl tw
    obtain ⟨D1, e1, f1, f2, f3, f4, -⟩ := hp_rlM N hN h1 h2 (by omega) (w := w) (m := 3) (t := 0) (by omega) (xc w (by omega)) (hc w (by omega)) (x3 w (by omega)) tw h14 (by omega) rfl
    obtain ⟨D2, e2, g1, g2, g3, g4⟩ := ih (w + 1) n D1 (hp_ap L (hp_lnT (c w) (y 3 w) 3 0) w) (hp_rQ s Q w (hp_lnT (c w) (y 3 w) 3 0)) (by omega) (by omega) (by rw [f4.2.2 0 (by omega)]; exact x00) (fun j hj => by rw [f4.2.2 _ (by omega)]; exact xc j hj) (fun j hj => by rw [f4.2.2 _ (by omega)]; exact x3 j hj) (by rw [f4.2.1 14 (by omega) (by omega)]; exact h14) f1 f2 (by rw [hp_tot_ap hl]; omega) (by
      rcases hs with q | ⟨q, r⟩
      · exact Or.inl q
      · right
        refine ⟨q, ?_⟩
        subst q
        show Q.1 + 1 + 1 + 2 * m ≤ 80
        omega)
    refine ⟨D2, ?_, g1, g2, by rw [g3, f3, hp_addA, Nat.add_comm 1 m], hp_f0_tr f4 g4⟩
    rw [F_X9_humps_9_eq, x00, if_pos (by rw [hp_ltN (by omega) (by omega)]; omega), show (0 : Int32) = nI 0 from rfl, e1, Option.bind_some, hp_inc]
    exact e2
theorem hp_hmM2 (N : Nat) (hN : 10 ≤ N) {y : Nat → Nat → Nat} (hw : hp_WF y) {c : Nat → Nat} {s : Nat} (hc : ∀ j, j < y 0 0 → c j < 8) {D : hy_M} {Q : hp_Q} (x00 : D 68 0 = nI (y 0 0)) (xc : ∀ j, j < y 0 0 → D 68 (12 + j) = nI (c j)) (x3 : ∀ j, j < 8 → D 68 (20 + j) = nI (y 3 j)) (h14 : D 67 14 = nI s) (h1 : hp_LN hp_L0 D) (h2 : hp_PM Q D) (hs : s = 0 ∨ (s = 1 ∧ Q.1 + 2 * y 0 0 ≤ 80)) : ∃ D1, F_X9_humps N D = some D1 ∧ hp_LN (hp_H y c) D1 ∧ hp_PM (hp_huQ s y c (y 0 0) 0 Q) D1 ∧ D1 67 13 = D 67 13 + nI (y 0 0) ∧ D1 68 2 = nI 1 ∧ D1 68 3 = D 68 3 ∧ hp_fk D D1 := by
  have b0 := hw.1
  have z : ∀ p, p ≠ 2 → hy_w D 68 2 (nI 1) 68 p = D 68 p := fun p hp => hp_wn (Or.inr hp)
  have z2 : ∀ q, q ≠ 68 → hy_w D 68 2 (nI 1) q = D q := fun q hq => hy_w_ne hq
  obtain ⟨D1, e1, f1, f2, f3, f4⟩ := hp_huM N hN hw hc (s := s) (y 0 0) 0 N (hy_w D 68 2 (nI 1)) hp_L0 Q (by omega) (by omega) (by rw [z 0 (by omega)]; exact x00) (fun j hj => by rw [z _ (by omega)]; exact xc j hj) (fun j hj => by rw [z _ (by omega)]; exact x3 j hj) (by rw [z2 67 (by omega)]; exact h14) (fun l hl => by
      have hb := hp_lp_b l hl
      exact ⟨by rw [z _ (by omega)]; exact (h1 l hl).1, fun j hj => absurd hj (by show ¬ j < 0; omega)⟩) ⟨by rw [z2 67 (by omega)]; exact h2.1, fun j hj => by rw [z2 77 (by omega)]; exact h2.2 j hj⟩ rfl hs
  refine ⟨D1, ?_, f1, f2, ?_, ?_, ?_, ⟨fun q a b d => by rw [f4.1 q a b d, z2 q b], fun j a b => by rw [f4.2.1 j a b, z2 67 (by omega)], fun p a b d => by rw [f4.2.2 p a, z p b]⟩⟩
  · rw [F_X9_humps_eq]
    exact e1
  · rw [f3, z2 67 (by omega)]
  · rw [f4.2.2 2 (by omega), hp_ws]
  · rw [f4.2.2 3 (by omega), z 3 (by omega)]
theorem hp_plM2 (N : Nat) (hN : 10 ≤ N) {y : Nat → Nat → Nat} (hw : hp_WF y) {c : Nat → Nat} {s : Nat} (hc : ∀ j, j < y 0 0 → c j < 8) {t k : Nat} (ht : t < 3) (hk : k ≤ 8) {src : Nat → Nat} (hsr : ∀ j, j < k → src j < y 0 0) : ∀ m i n D L Q, i + m = k → m < n → (∀ j, j < y 0 0 → D 68 (12 + j) = nI (c j)) → (∀ j, j < 8 → D 68 (20 + j) = nI (y 3 j)) → D 67 14 = nI s → hp_LN L D → hp_PM Q D → hp_tot L + m ≤ 8 → (∀ j, j < k → D 68 (70 + 8 * t + j) = nI (src j)) → (s = 0 ∨ (s = 1 ∧ Q.1 + 2 * m ≤ 80)) → ∃ D1, F_X9_pulls_32 N n (nI t) (nI k) (nI i) D = some D1 ∧ hp_LN (hp_pl y c t src m i L) D1 ∧ hp_PM (hp_plQ s y c t src m i Q) D1 ∧ D1 67 13 = D 67 13 + nI m ∧ hp_f0 D D1 := by
  have b0 := hw.1
  intro m
  induction m with
  | zero =>
    intro i n D L Q e hm xc x3 h14 h1 h2 h3 h4 hs
    obtain ⟨n, rfl⟩ : ∃ n', n = n' + 1 := ⟨n - 1, by omega⟩
    refine ⟨D, ?_, h1, h2, (Int32.add_zero _).symm, hp_f0_rf D⟩
    rw [F_X9_pulls_32_eq, if_neg]
    rw [hp_ltN (by omega) (by omega)]
    omega
  | succ m ih =>
    intro i n D L Q e hm xc x3 h14 h1 h2 h3 h4 hs
    obtain ⟨n, rfl⟩ : ∃ n', n = n' + 1 := ⟨n - 1, by omega⟩
    have hsi := hsr i (by omega)
    have es := h4 i (by omega)
    have tw := hp_tr2 hw hsi
    have hl := hp_lnT_lt (c := c (src i)) (tr := y 3 (src i)) (m := 2 - t) (t := t + 1) (by omega) tw
    have hg := hp_lnT_ge (c := c (src i)) (tr := y 3 (src i)) (m := 2 - t) (t := t + 1) (by omega)
    obtain ⟨D1, e1, f1, f2, f3, f4, f5⟩ := hp_rlM N hN h1 h2 (by omega) (w := src i) (m := 2 - t) (t := t + 1) (by omega) (xc _ hsi) (hc _ hsi) (x3 _ (by omega)) tw h14 (by omega) (by omega)
    obtain ⟨D2, e2, g1, g2, g3, g4⟩ := ih (i + 1) n D1 (hp_ap L (hp_lnT (c (src i)) (y 3 (src i)) (2 - t) (t + 1)) (src i)) (hp_rQ s Q (src i) (hp_lnT (c (src i)) (y 3 (src i)) (2 - t) (t + 1))) (by omega) (by omega) (fun j hj => by rw [f4.2.2 _ (by omega)]; exact xc j hj) (fun j hj => by rw [f4.2.2 _ (by omega)]; exact x3 j hj) (by rw [f4.2.1 14 (by omega) (by omega)]; exact h14) f1 f2 (by rw [hp_tot_ap hl]; omega) (fun j hj => by rw [f5 t j ht (by omega) (by omega)]; exact h4 j hj) (by
      rcases hs with q | ⟨q, r⟩
      · exact Or.inl q
      · right
        refine ⟨q, ?_⟩
        subst q
        show Q.1 + 1 + 1 + 2 * m ≤ 80
        omega)
    refine ⟨D2, ?_, g1, g2, by rw [g3, f3, hp_addA, Nat.add_comm 1 m], hp_f0_tr f4 g4⟩
    clear ih h1 h2 h4 f1 f2 f3 f4 f5 g1 g2 g3 g4 hg hl hs xc x3
    rw [F_X9_pulls_32_eq]
    simp (disch := omega) only [hp_kN, nI_add, pk_mul, hp_isInN, hp_m1L, hp_l0, hp_l1, hp_l2, hp_l3, hp_l4, hp_l5, hp_l7, hp_l8, hp_l10, hp_l17, hp_l20, hp_l24, hp_l48, hp_l50, hp_l55, hp_l127, hp_lm1, hp_eqN, hp_ltN, hp_inN, hp_cl, if_pos, if_neg, if_true, if_false, Option.bind_some, es, e1, e2]
def hp_pulQ (s : Nat) (y : Nat → Nat → Nat) (c : Nat → Nat) (t : Nat) (L : hp_L) (Q : hp_Q) : hp_Q := hp_plQ s y c t (L.2 t) (L.1 t) 0 Q
theorem hp_puM (N : Nat) (hN : 10 ≤ N) {y : Nat → Nat → Nat} (hw : hp_WF y) {c : Nat → Nat} {s : Nat} (hc : ∀ j, j < y 0 0 → c j < 8) {D : hy_M} {Q : hp_Q} {L : hp_L} {t : Nat} (ht : t < 3) (xc : ∀ j, j < y 0 0 → D 68 (12 + j) = nI (c j)) (x3 : ∀ j, j < 8 → D 68 (20 + j) = nI (y 3 j)) (h14 : D 67 14 = nI s) (h1 : hp_LN L D) (h2 : hp_PM Q D) (hO : hp_LO y L) (h8 : hp_tot L ≤ 8) (hs : s = 0 ∨ (s = 1 ∧ Q.1 + 2 * L.1 t ≤ 80)) : ∃ D1, F_X9_pulls N (nI t) D = some D1 ∧ hp_LN (hp_pul y c t L) D1 ∧ hp_PM (hp_pulQ s y c t L Q) D1 ∧ D1 67 13 = D 67 13 + nI (L.1 t) ∧ D1 68 2 = D 68 2 ∧ D1 68 3 = D 68 3 + nI 1 ∧ hp_fk D D1 := by
  have b0 := hw.1
  have hk := hp_tot_le (L := L) (l := t) (by omega)
  have hte := hp_tot_em (L := L) (t := t) (by omega)
  obtain ⟨D', eD⟩ : ∃ D', D' = hy_w (hy_w D 68 (67 + t) (nI 0)) 68 3 (D 68 3 + nI 1) := ⟨_, rfl⟩
  have z : ∀ p, p ≠ 3 → p ≠ 67 + t → D' 68 p = D 68 p := fun p a b => by rw [eD, hp_wn (Or.inr a), hp_wn (Or.inr b)]
  have z2 : ∀ q, q ≠ 68 → D' q = D q := fun q hq => by rw [eD, hy_w_ne hq, hy_w_ne hq]
  have z3 : D' 68 3 = D 68 3 + nI 1 := by rw [eD, hp_ws]
  have z4 : D' 68 (67 + t) = nI 0 := by rw [eD, hp_wn (Or.inr (by omega)), hp_ws]
  have hE : hp_LN (hp_em L t) D' := by
    intro k hk
    have hb := hp_lp_b k hk
    refine ⟨?_, fun j hj => ?_⟩
    · show _ = nI (if k = t then 0 else L.1 k)
      by_cases q : k = t
      · rw [if_pos q, show hp_lq k = 67 + t by omega, z4]
      · rw [if_neg q, z _ (by omega) (by omega)]
        exact (h1 k hk).1
    · have hj' : j < if k = t then 0 else L.1 k := hj
      have hj2 : j < L.1 k := by split at hj' <;> omega
      have hck := hp_tot_le (L := L) hk
      rw [z _ (by omega) (by omega)]
      exact (h1 k hk).2 j hj2
  have hb := hp_lp_b t (by omega)
  have a1 : D 68 (67 + t) = nI (L.1 t) := by
    have := (h1 t (by omega)).1
    rw [show hp_lq t = 67 + t by omega] at this
    exact this
  obtain ⟨D1, e1, f1, f2, f3, f4⟩ := hp_plM2 N hN hw hc (s := s) ht (k := L.1 t) (by omega) (src := L.2 t) (fun j hj => (hO t (by omega) j hj).1) (L.1 t) 0 N D' (hp_em L t) Q (by omega) (by omega) (fun j hj => by rw [z _ (by omega) (by omega)]; exact xc j hj) (fun j hj => by rw [z _ (by omega) (by omega)]; exact x3 j hj) (by rw [z2 67 (by omega)]; exact h14) hE ⟨by rw [z2 67 (by omega)]; exact h2.1, fun j hj => by rw [z2 77 (by omega)]; exact h2.2 j hj⟩ (by omega) (fun j hj => by
      rw [z _ (by omega) (by omega)]
      have := (h1 t (by omega)).2 j hj
      rw [show hp_lp t = 70 + 8 * t by omega] at this
      exact this) hs
  refine ⟨D1, ?_, f1, f2, ?_, ?_, ?_, ⟨fun q a b d => by rw [f4.1 q a b d, z2 q b], fun j a b => by rw [f4.2.1 j a b, z2 67 (by omega)], fun p a b d => by rw [f4.2.2 p a, z p d (by omega)]⟩⟩
  · have w3 : hy_w D 68 (67 + t) (nI 0) 68 3 = D 68 3 := hp_wn (Or.inr (by omega))
    rw [F_X9_pulls_eq]
    clear z z2 z3 z4 hE f1 f2 f3 f4 h1 h2 hO xc x3 hs
    rw [eD] at e1
    simp (disch := omega) only [hp_kN, nI_add, pk_mul, hp_isInN, hp_m1L, hp_l0, hp_l1, hp_l2, hp_l3, hp_l4, hp_l5, hp_l7, hp_l8, hp_l10, hp_l17, hp_l20, hp_l24, hp_l48, hp_l50, hp_l55, hp_l127, hp_lm1, hp_eqN, hp_ltN, hp_inN, hp_cl, if_pos, if_neg, if_true, if_false, Option.bind_some, a1, w3]
    exact e1
  · rw [f3, z2 67 (by omega)]
  · rw [f4.2.2 2 (by omega), z 2 (by omega) (by omega)]
  · rw [f4.2.2 3 (by omega), z3]
