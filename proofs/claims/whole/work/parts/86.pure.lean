/-! ===== rolling: lanes in thought ===== -/
abbrev hp_L : Type := (Nat → Nat) × (Nat → Nat → Nat)
def hp_ap (L : hp_L) (l w : Nat) : hp_L := (hp_apc L.1 l, hp_apr L.1 L.2 l w)
def hp_tot (L : hp_L) : Nat := L.1 0 + L.1 1 + L.1 2 + L.1 3 + L.1 4
def hp_em (L : hp_L) (t : Nat) : hp_L := (fun k => if k = t then 0 else L.1 k, L.2)
def hp_LO (y : Nat → Nat → Nat) (L : hp_L) : Prop := ∀ l, l < 5 → ∀ j, j < L.1 l → L.2 l j < y 0 0 ∧ (3 ≤ l → y 3 (L.2 l j) = l - 3)
def hp_hu (y : Nat → Nat → Nat) (c : Nat → Nat) : Nat → Nat → hp_L → hp_L
  | 0, _, L => L
  | m + 1, w, L => hp_hu y c m (w + 1) (hp_ap L (hp_lnT (c w) (y 3 w) 3 0) w)
def hp_pl (y : Nat → Nat → Nat) (c : Nat → Nat) (t : Nat) (src : Nat → Nat) : Nat → Nat → hp_L → hp_L
  | 0, _, L => L
  | m + 1, i, L => hp_pl y c t src m (i + 1) (hp_ap L (hp_lnT (c (src i)) (y 3 (src i)) (2 - t) (t + 1)) (src i))
def hp_pul (y : Nat → Nat → Nat) (c : Nat → Nat) (t : Nat) (L : hp_L) : hp_L := hp_pl y c t (L.2 t) (L.1 t) 0 (hp_em L t)
def hp_L0 : hp_L := (fun _ => 0, fun _ _ => 0)
def hp_H (y : Nat → Nat → Nat) (c : Nat → Nat) : hp_L := hp_hu y c (y 0 0) 0 hp_L0
theorem hp_inc (w : Nat) : nI w + (1 : Int32) = nI (w + 1) := nI_add w 1
theorem hp_apc_s (cnt : Nat → Nat) (l : Nat) : hp_apc cnt l l = cnt l + 1 := by simp [hp_apc]
theorem hp_apc_n {cnt : Nat → Nat} {l k : Nat} (h : k ≠ l) : hp_apc cnt l k = cnt k := by simp [hp_apc, h]
theorem hp_tot_ap {L : hp_L} {l w : Nat} (h : l < 5) : hp_tot (hp_ap L l w) = hp_tot L + 1 := by
  show hp_apc L.1 l 0 + hp_apc L.1 l 1 + hp_apc L.1 l 2 + hp_apc L.1 l 3 + hp_apc L.1 l 4 = L.1 0 + L.1 1 + L.1 2 + L.1 3 + L.1 4 + 1
  have : l = 0 ∨ l = 1 ∨ l = 2 ∨ l = 3 ∨ l = 4 := by omega
  rcases this with rfl | rfl | rfl | rfl | rfl <;> simp [hp_apc] <;> omega
theorem hp_tot_le {L : hp_L} {l : Nat} (h : l < 5) : L.1 l ≤ hp_tot L := by
  have : l = 0 ∨ l = 1 ∨ l = 2 ∨ l = 3 ∨ l = 4 := by omega
  unfold hp_tot
  rcases this with rfl | rfl | rfl | rfl | rfl <;> omega
theorem hp_tot_em {L : hp_L} {t : Nat} (h : t < 5) : hp_tot (hp_em L t) + L.1 t = hp_tot L := by
  have : t = 0 ∨ t = 1 ∨ t = 2 ∨ t = 3 ∨ t = 4 := by omega
  unfold hp_tot hp_em
  rcases this with rfl | rfl | rfl | rfl | rfl <;> simp <;> omega
theorem hp_lnT_ge {c tr m t : Nat} (h : t + m = 3) : t ≤ hp_lnT c tr m t := by
  have := hp_nxT_b c m t h
  unfold hp_lnT
  split <;> omega
theorem hp_lnT_out {c tr m t : Nat} (h : t + m = 3) (q : 3 ≤ hp_lnT c tr m t) : tr = hp_lnT c tr m t - 3 := by
  have := hp_nxT_b c m t h
  unfold hp_lnT at q ⊢
  split at q
  · rw [if_pos (by assumption)]
    omega
  · omega
theorem hp_LO_ap {y : Nat → Nat → Nat} {L : hp_L} {l w : Nat} (h : hp_LO y L) (hw : w < y 0 0) (ho : 3 ≤ l → y 3 w = l - 3) : hp_LO y (hp_ap L l w) := by
  intro k hk j hj
  have hj' : j < hp_apc L.1 l k := hj
  show hp_apr L.1 L.2 l w k j < y 0 0 ∧ (3 ≤ k → y 3 (hp_apr L.1 L.2 l w k j) = k - 3)
  unfold hp_apr
  by_cases q : k = l ∧ j = L.1 l
  · rw [if_pos q]
    obtain ⟨rfl, -⟩ := q
    exact ⟨hw, ho⟩
  · rw [if_neg q]
    refine h k hk j ?_
    by_cases e : k = l
    · subst e
      rw [hp_apc_s] at hj'
      omega
    · rw [hp_apc_n e] at hj'
      exact hj'
theorem hp_LO_em {y : Nat → Nat → Nat} {L : hp_L} {t : Nat} (h : hp_LO y L) : hp_LO y (hp_em L t) := by
  intro k hk j hj
  have hj' : j < if k = t then 0 else L.1 k := hj
  refine h k hk j ?_
  split at hj' <;> omega
theorem hp_tr2 {y : Nat → Nat → Nat} (hw : hp_WF y) {w : Nat} (h : w < y 0 0) : y 3 w < 2 := (hw.2.2.2.1 w (by have := hw.1; omega)).2.2
theorem hp_hu_w {y : Nat → Nat → Nat} (hw : hp_WF y) (c : Nat → Nat) : ∀ m w L, w + m ≤ y 0 0 → hp_LO y L → hp_LO y (hp_hu y c m w L) ∧ hp_tot (hp_hu y c m w L) = hp_tot L + m := by
  intro m
  induction m with
  | zero => intro w L _ h; exact ⟨h, rfl⟩
  | succ m ih =>
    intro w L e h
    have tw := hp_tr2 hw (w := w) (by omega)
    have hl := hp_lnT_lt (c := c w) (tr := y 3 w) (m := 3) (t := 0) rfl tw
    obtain ⟨a, b⟩ := ih (w + 1) (hp_ap L (hp_lnT (c w) (y 3 w) 3 0) w) (by omega) (hp_LO_ap h (by omega) (fun q => hp_lnT_out rfl q))
    refine ⟨a, ?_⟩
    show hp_tot (hp_hu y c m (w + 1) (hp_ap L (hp_lnT (c w) (y 3 w) 3 0) w)) = _
    rw [b, hp_tot_ap hl]
    omega
theorem hp_pl_w {y : Nat → Nat → Nat} (hw : hp_WF y) (c : Nat → Nat) {t : Nat} (ht : t < 3) {src : Nat → Nat} : ∀ m i L, (∀ j, i ≤ j → j < i + m → src j < y 0 0) → hp_LO y L → hp_LO y (hp_pl y c t src m i L) ∧ hp_tot (hp_pl y c t src m i L) = hp_tot L + m := by
  intro m
  induction m with
  | zero => intro i L _ h; exact ⟨h, rfl⟩
  | succ m ih =>
    intro i L e h
    have hs := e i (by omega) (by omega)
    have tw := hp_tr2 hw hs
    have hl := hp_lnT_lt (c := c (src i)) (tr := y 3 (src i)) (m := 2 - t) (t := t + 1) (by omega) tw
    obtain ⟨a, b⟩ := ih (i + 1) (hp_ap L (hp_lnT (c (src i)) (y 3 (src i)) (2 - t) (t + 1)) (src i)) (fun j h1 h2 => e j (by omega) (by omega)) (hp_LO_ap h hs (fun q => hp_lnT_out (by omega) q))
    refine ⟨a, ?_⟩
    show hp_tot (hp_pl y c t src m (i + 1) (hp_ap L (hp_lnT (c (src i)) (y 3 (src i)) (2 - t) (t + 1)) (src i))) = _
    rw [b, hp_tot_ap hl]
    omega
theorem hp_pul_w {y : Nat → Nat → Nat} (hw : hp_WF y) (c : Nat → Nat) {t : Nat} (ht : t < 3) {L : hp_L} (h : hp_LO y L) : hp_LO y (hp_pul y c t L) ∧ hp_tot (hp_pul y c t L) = hp_tot L := by
  obtain ⟨a, b⟩ := hp_pl_w hw c ht (src := L.2 t) (L.1 t) 0 (hp_em L t) (fun j _ h2 => (h t (by omega) j (by omega)).1) (hp_LO_em h)
  exact ⟨a, b.trans (hp_tot_em (by omega))⟩
theorem hp_LO0 (y : Nat → Nat → Nat) : hp_LO y hp_L0 := fun l _ j hj => absurd hj (by show ¬ j < 0; omega)
theorem hp_H_w {y : Nat → Nat → Nat} (hw : hp_WF y) (c : Nat → Nat) : hp_LO y (hp_H y c) ∧ hp_tot (hp_H y c) = y 0 0 := by
  obtain ⟨a, b⟩ := hp_hu_w hw c (y 0 0) 0 hp_L0 (by omega) (hp_LO0 y)
  refine ⟨a, b.trans ?_⟩
  show 0 + 0 + 0 + 0 + 0 + y 0 0 = y 0 0
  omega
/-! the class's thought -/
theorem hp_apX2 (N : Nat) {L : hp_L} {D : hy_M} (h : hp_LX L.1 L.2 D) {l w : Nat} (hl : l < 5) (hc : L.1 l < 8) : ∃ D1, F_X2_append N (nI l) (nI w) D = some D1 ∧ hp_LX (hp_ap L l w).1 (hp_ap L l w).2 D1 ∧ ∀ c, c ≠ 60 + l → c ≠ 65 → D1 c = D c := by
  obtain ⟨h1, h2⟩ := h
  refine ⟨hy_w (hy_w D (60 + l) (L.1 l) (nI w)) 65 l (nI (L.1 l + 1)), ?_, ⟨fun k hk => ?_, fun k hk j hj => ?_⟩, fun c a b => ?_⟩
  · rw [F_X2_append_eq]
    simp (disch := omega) only [hp_kN, nI_add, pk_mul, hp_isInN, hp_m1L, hp_l0, hp_l1, hp_l2, hp_l3, hp_l4, hp_l5, hp_l7, hp_l8, hp_l10, hp_l17, hp_l20, hp_l24, hp_l48, hp_l50, hp_l55, hp_l127, hp_lm1, hp_eqN, hp_ltN, hp_inN, hp_cl, if_pos, if_neg, if_true, if_false, Option.bind_some, h1, hp_pr59, hp_wl60, hp_wn]
  · show _ = nI (hp_apc L.1 l k)
    unfold hp_apc
    by_cases q : k = l
    · subst q
      rw [hp_ws, if_pos rfl]
    · rw [hp_wn (Or.inr q), hp_wn (Or.inl (by omega)), if_neg q]
      exact h1 k hk
  · have hj' : j < hp_apc L.1 l k := hj
    show _ = nI (hp_apr L.1 L.2 l w k j)
    unfold hp_apr
    unfold hp_apc at hj'
    rw [hp_wn (Or.inl (by omega)), hp_w]
    by_cases q : k = l ∧ j = L.1 l
    · rw [if_pos q, if_pos (by omega)]
    · rw [if_neg q, if_neg (by omega)]
      refine h2 k hk j ?_
      by_cases q2 : k = l
      · subst q2
        rw [if_pos rfl] at hj'
        omega
      · rw [if_neg q2] at hj'
        exact hj'
  · rw [hy_w_ne b, hy_w_ne a]
theorem hp_e58 (N : Nat) : ∀ m i n D, i + m = 5 → m < n → (∀ l, l < i → D 65 l = nI 0) → ∃ D1, F_X2_empty_58_2 N n (nI i) D = some D1 ∧ (∀ l, l < 5 → D1 65 l = nI 0) ∧ ∀ c, c ≠ 65 → D1 c = D c := by
  intro m
  induction m with
  | zero =>
    intro i n D e hn h1
    obtain ⟨n, rfl⟩ : ∃ n', n = n' + 1 := ⟨n - 1, by omega⟩
    have e : i = 5 := by omega
    subst e
    refine ⟨D, ?_, h1, fun _ _ => rfl⟩
    rw [F_X2_empty_58_2_eq]
    simp (disch := omega) only [hp_kN, nI_add, pk_mul, hp_isInN, hp_m1L, hp_l0, hp_l1, hp_l2, hp_l3, hp_l4, hp_l5, hp_l7, hp_l8, hp_l10, hp_l17, hp_l20, hp_l24, hp_l48, hp_l50, hp_l55, hp_l127, hp_lm1, hp_eqN, hp_ltN, hp_inN, hp_cl, if_pos, if_neg, if_true, if_false, Option.bind_some]
  | succ m ih =>
    intro i n D e hn h1
    obtain ⟨n, rfl⟩ : ∃ n', n = n' + 1 := ⟨n - 1, by omega⟩
    have e2 : F_X2_empty_58_2 N (n + 1) (nI i) D = F_X2_empty_58_2 N n (nI (i + 1)) (hy_w D 65 i (nI 0)) := by
      rw [F_X2_empty_58_2_eq]
      simp (disch := omega) only [hp_kN, nI_add, pk_mul, hp_isInN, hp_m1L, hp_l0, hp_l1, hp_l2, hp_l3, hp_l4, hp_l5, hp_l7, hp_l8, hp_l10, hp_l17, hp_l20, hp_l24, hp_l48, hp_l50, hp_l55, hp_l127, hp_lm1, hp_eqN, hp_ltN, hp_inN, hp_cl, if_pos, if_neg, if_true, if_false, Option.bind_some]
    rw [e2]
    obtain ⟨D1, a, b, c⟩ := ih (i + 1) n (hy_w D 65 i (nI 0)) (by omega) (by omega) (fun l hl => by
      by_cases q : l = i
      · subst q
        rw [hp_ws]
      · rw [hp_wn (Or.inr q)]
        exact h1 l (by omega))
    exact ⟨D1, a, b, fun q hq => by rw [c q hq, hy_w_ne hq]⟩
theorem hp_lbH (N : Nat) (hN : 10 ≤ N) {w c tr : Nat} {D : hy_M} (hw : w < 8) (hc : D 3 w = nI c) (hc8 : c < 8) (h4 : D 4 w = nI tr) (htr : tr < 2) : F_X7_laneBehind N (nI w) (-1) D = some (nI (hp_lnT c tr 3 0), D) := by
  have e : (-1 : Int32) + 1 = nI 0 := by decide
  rw [F_X7_laneBehind_eq, e]
  exact hp_lbX N hw hc hc8 h4 htr 3 0 N rfl (by omega)
theorem hp_lbP (N : Nat) (hN : 10 ≤ N) {w c tr t : Nat} {D : hy_M} (ht : t < 3) (hw : w < 8) (hc : D 3 w = nI c) (hc8 : c < 8) (h4 : D 4 w = nI tr) (htr : tr < 2) : F_X7_laneBehind N (nI w) (nI t) D = some (nI (hp_lnT c tr (2 - t) (t + 1)), D) := by
  rw [F_X7_laneBehind_eq, hp_inc]
  exact hp_lbX N hw hc hc8 h4 htr (2 - t) (t + 1) N (by omega) (by omega)
theorem hp_huX (N : Nat) (hN : 10 ≤ N) {y : Nat → Nat → Nat} (hw : hp_WF y) {c : Nat → Nat} {D0 : hy_M} (x00 : D0 1 0 = nI (y 0 0)) (xc : ∀ j, j < y 0 0 → D0 3 j = nI (c j)) (hc : ∀ j, j < y 0 0 → c j < 8) (x3 : ∀ j, j < 8 → D0 4 j = nI (y 3 j)) : ∀ m w n D L, w + m = y 0 0 → m < n → hp_LX L.1 L.2 D → hp_tot L = w → (∀ q, ¬ (60 ≤ q ∧ q < 66) → D q = D0 q) → ∃ D1, F_X7_humpInto_6 N n (nI w) D = some D1 ∧ hp_LX (hp_hu y c m w L).1 (hp_hu y c m w L).2 D1 ∧ ∀ q, ¬ (60 ≤ q ∧ q < 66) → D1 q = D0 q := by
  have b0 := hw.1
  intro m
  induction m with
  | zero =>
    intro w n D L e hm h1 h2 h3
    obtain ⟨n, rfl⟩ : ∃ n', n = n' + 1 := ⟨n - 1, by omega⟩
    have x : D 1 0 = nI (y 0 0) := by rw [h3 1 (by omega)]; exact x00
    refine ⟨D, ?_, h1, h3⟩
    rw [F_X7_humpInto_6_eq, x, if_neg]
    rw [hp_ltN (by omega) (by omega)]
    omega
  | succ m ih =>
    intro w n D L e hm h1 h2 h3
    obtain ⟨n, rfl⟩ : ∃ n', n = n' + 1 := ⟨n - 1, by omega⟩
    have x : D 1 0 = nI (y 0 0) := by rw [h3 1 (by omega)]; exact x00
    have tw := hp_tr2 hw (w := w) (by omega)
    have hl := hp_lnT_lt (c := c w) (tr := y 3 w) (m := 3) (t := 0) rfl tw
    obtain ⟨D1, e1, f1, f2⟩ := hp_apX2 N h1 (w := w) hl (by have := hp_tot_le (L := L) hl; omega)
    obtain ⟨D2, e2, g1, g2⟩ := ih (w + 1) n D1 (hp_ap L (hp_lnT (c w) (y 3 w) 3 0) w) (by omega) (by omega) f1 (by rw [hp_tot_ap hl]; omega) (fun q hq => by rw [f2 q (by omega) (by omega)]; exact h3 q hq)
    refine ⟨D2, ?_, g1, g2⟩
    rw [F_X7_humpInto_6_eq, x, if_pos (by rw [hp_ltN (by omega) (by omega)]; omega), hp_lbH N hN (by omega) (by rw [h3 3 (by omega)]; exact xc w (by omega)) (hc w (by omega)) (by rw [h3 4 (by omega)]; exact x3 w (by omega)) tw, Option.bind_some, e1, Option.bind_some, hp_inc]
    exact e2
theorem hp_hiX (N : Nat) (hN : 10 ≤ N) {y : Nat → Nat → Nat} (hw : hp_WF y) {c : Nat → Nat} {D : hy_M} (x00 : D 1 0 = nI (y 0 0)) (xc : ∀ j, j < y 0 0 → D 3 j = nI (c j)) (hc : ∀ j, j < y 0 0 → c j < 8) (x3 : ∀ j, j < 8 → D 4 j = nI (y 3 j)) : ∃ D1, F_X7_humpInto N D = some D1 ∧ hp_LX (hp_H y c).1 (hp_H y c).2 D1 ∧ ∀ q, ¬ (60 ≤ q ∧ q < 66) → D1 q = D q := by
  have b0 := hw.1
  obtain ⟨D1, e1, f1, f2⟩ := hp_e58 N 5 0 N D rfl (by omega) (fun l hl => absurd hl (by omega))
  obtain ⟨D2, e2, g1, g2⟩ := hp_huX N hN hw (D0 := D) x00 xc hc x3 (y 0 0) 0 N D1 hp_L0 (by omega) (by omega) ⟨f1, fun l _ j hj => absurd hj (by show ¬ j < 0; omega)⟩ rfl (fun q hq => f2 q (by omega))
  refine ⟨D2, ?_, g1, g2⟩
  have e1' : F_X2_empty_58 N D = some D1 := by
    rw [F_X2_empty_58_eq]
    exact e1
  rw [F_X7_humpInto_eq, e1', Option.bind_some]
  exact e2
theorem hp_plX (N : Nat) (hN : 10 ≤ N) {y : Nat → Nat → Nat} (hw : hp_WF y) {c : Nat → Nat} {D0 : hy_M} (xc : ∀ j, j < y 0 0 → D0 3 j = nI (c j)) (hc : ∀ j, j < y 0 0 → c j < 8) (x3 : ∀ j, j < 8 → D0 4 j = nI (y 3 j)) {t k : Nat} (ht : t < 3) (hk : k ≤ 8) {src : Nat → Nat} (hs : ∀ j, j < k → src j < y 0 0) : ∀ m i n D L, i + m = k → m < n → hp_LX L.1 L.2 D → hp_tot L + m ≤ 8 → (∀ j, j < k → D (60 + t) j = nI (src j)) → (∀ q, ¬ (60 ≤ q ∧ q < 66) → D q = D0 q) → ∃ D1, F_X7_pullIn_18 N n (nI t) (nI k) (nI i) D = some (nI k, D1) ∧ hp_LX (hp_pl y c t src m i L).1 (hp_pl y c t src m i L).2 D1 ∧ ∀ q, ¬ (60 ≤ q ∧ q < 66) → D1 q = D0 q := by
  have b0 := hw.1
  intro m
  induction m with
  | zero =>
    intro i n D L e hm h1 h2 h4 h3
    obtain ⟨n, rfl⟩ : ∃ n', n = n' + 1 := ⟨n - 1, by omega⟩
    refine ⟨D, ?_, h1, h3⟩
    rw [F_X7_pullIn_18_eq, if_neg]
    rw [hp_ltN (by omega) (by omega)]
    omega
  | succ m ih =>
    intro i n D L e hm h1 h2 h4 h3
    obtain ⟨n, rfl⟩ : ∃ n', n = n' + 1 := ⟨n - 1, by omega⟩
    have hsi := hs i (by omega)
    have es := h4 i (by omega)
    have tw := hp_tr2 hw hsi
    have hl := hp_lnT_lt (c := c (src i)) (tr := y 3 (src i)) (m := 2 - t) (t := t + 1) (by omega) tw
    have hg := hp_lnT_ge (c := c (src i)) (tr := y 3 (src i)) (m := 2 - t) (t := t + 1) (by omega)
    obtain ⟨D1, e1, f1, f2⟩ := hp_apX2 N h1 (w := src i) hl (by have := hp_tot_le (L := L) hl; omega)
    obtain ⟨D2, e2, g1, g2⟩ := ih (i + 1) n D1 (hp_ap L (hp_lnT (c (src i)) (y 3 (src i)) (2 - t) (t + 1)) (src i)) (by omega) (by omega) f1 (by rw [hp_tot_ap hl]; omega) (fun j hj => by rw [f2 (60 + t) (by omega) (by omega)]; exact h4 j hj) (fun q hq => by rw [f2 q (by omega) (by omega)]; exact h3 q hq)
    refine ⟨D2, ?_, g1, g2⟩
    have k1 := hp_lbP N hN (D := D) ht (w := src i) (by omega) (by rw [h3 3 (by omega)]; exact xc _ hsi) (hc _ hsi) (by rw [h3 4 (by omega)]; exact x3 _ (by omega)) tw
    clear ih h1 h3 h4 f1 f2 g1 g2 hg hl
    rw [F_X7_pullIn_18_eq]
    simp (disch := omega) only [hp_kN, nI_add, pk_mul, hp_isInN, hp_m1L, hp_l0, hp_l1, hp_l2, hp_l3, hp_l4, hp_l5, hp_l7, hp_l8, hp_l10, hp_l17, hp_l20, hp_l24, hp_l48, hp_l50, hp_l55, hp_l127, hp_lm1, hp_eqN, hp_ltN, hp_inN, hp_cl, if_pos, if_neg, if_true, if_false, Option.bind_some, hp_pr59, hp_al60, es, k1, e1, e2]
theorem hp_piX (N : Nat) (hN : 10 ≤ N) {y : Nat → Nat → Nat} (hw : hp_WF y) {c : Nat → Nat} {D : hy_M} (xc : ∀ j, j < y 0 0 → D 3 j = nI (c j)) (hc : ∀ j, j < y 0 0 → c j < 8) (x3 : ∀ j, j < 8 → D 4 j = nI (y 3 j)) {t : Nat} (ht : t < 3) {L : hp_L} (hL : hp_LX L.1 L.2 D) (hO : hp_LO y L) (h8 : hp_tot L ≤ 8) : ∃ D1, F_X7_pullIn N (nI t) D = some (nI (L.1 t), D1) ∧ hp_LX (hp_pul y c t L).1 (hp_pul y c t L).2 D1 ∧ ∀ q, ¬ (60 ≤ q ∧ q < 66) → D1 q = D q := by
  have b0 := hw.1
  have hk := hp_tot_le (L := L) (l := t) (by omega)
  have hte := hp_tot_em (L := L) (t := t) (by omega)
  have hE : hp_LX (hp_em L t).1 (hp_em L t).2 (hy_w D 65 t (nI 0)) := by
    refine ⟨fun k hk => ?_, fun k hk j hj => ?_⟩
    · show _ = nI (if k = t then 0 else L.1 k)
      by_cases q : k = t
      · subst q
        rw [hp_ws, if_pos rfl]
      · rw [hp_wn (Or.inr q), if_neg q]
        exact hL.1 k hk
    · have hj' : j < if k = t then 0 else L.1 k := hj
      rw [hp_wn (Or.inl (by omega))]
      refine hL.2 k hk j ?_
      split at hj' <;> omega
  obtain ⟨D2, e2, g1, g2⟩ := hp_plX N hN hw (D0 := D) xc hc x3 ht (k := L.1 t) (by omega) (src := L.2 t) (fun j hj => (hO t (by omega) j hj).1) (L.1 t) 0 N (hy_w D 65 t (nI 0)) (hp_em L t) (by omega) (by omega) hE (by omega) (fun j hj => by rw [hp_wn (Or.inl (by omega))]; exact hL.2 t (by omega) j hj) (fun q hq => hy_w_ne (by omega))
  refine ⟨D2, ?_, g1, g2⟩
  have a := hL.1 t (by omega)
  rw [F_X7_pullIn_eq]
  clear g1 g2 hE
  simp (disch := omega) only [hp_kN, nI_add, pk_mul, hp_isInN, hp_m1L, hp_l0, hp_l1, hp_l2, hp_l3, hp_l4, hp_l5, hp_l7, hp_l8, hp_l10, hp_l17, hp_l20, hp_l24, hp_l48, hp_l50, hp_l55, hp_l127, hp_lm1, hp_eqN, hp_ltN, hp_inN, hp_cl, if_pos, if_neg, if_true, if_false, Option.bind_some, a, e2]
theorem hp_lbH_6 (N : Nat) (hN : 10 ≤ N) {w c tr : Nat} {D : hy_M} (hw : w < 8) (hc : D 66 w = nI c) (hc8 : c < 8) (h4 : D 4 w = nI tr) (htr : tr < 2) : F_X7_laneBehind_1_66 N (nI w) (-1) D = some (nI (hp_lnT c tr 3 0), D) := by
  have e : (-1 : Int32) + 1 = nI 0 := by decide
  rw [F_X7_laneBehind_1_66_eq, e]
  exact hp_lbX_1_66 N hw hc hc8 h4 htr 3 0 N rfl (by omega)
theorem hp_lbP_6 (N : Nat) (hN : 10 ≤ N) {w c tr t : Nat} {D : hy_M} (ht : t < 3) (hw : w < 8) (hc : D 66 w = nI c) (hc8 : c < 8) (h4 : D 4 w = nI tr) (htr : tr < 2) : F_X7_laneBehind_1_66 N (nI w) (nI t) D = some (nI (hp_lnT c tr (2 - t) (t + 1)), D) := by
  rw [F_X7_laneBehind_1_66_eq, hp_inc]
  exact hp_lbX_1_66 N hw hc hc8 h4 htr (2 - t) (t + 1) N (by omega) (by omega)
theorem hp_huX_6 (N : Nat) (hN : 10 ≤ N) {y : Nat → Nat → Nat} (hw : hp_WF y) {c : Nat → Nat} {D0 : hy_M} (x00 : D0 1 0 = nI (y 0 0)) (xc : ∀ j, j < y 0 0 → D0 66 j = nI (c j)) (hc : ∀ j, j < y 0 0 → c j < 8) (x3 : ∀ j, j < 8 → D0 4 j = nI (y 3 j)) : ∀ m w n D L, w + m = y 0 0 → m < n → hp_LX L.1 L.2 D → hp_tot L = w → (∀ q, ¬ (60 ≤ q ∧ q < 66) → D q = D0 q) → ∃ D1, F_X7_humpInto_1_58_66_6 N n (nI w) D = some D1 ∧ hp_LX (hp_hu y c m w L).1 (hp_hu y c m w L).2 D1 ∧ ∀ q, ¬ (60 ≤ q ∧ q < 66) → D1 q = D0 q := by
  have b0 := hw.1
  intro m
  induction m with
  | zero =>
    intro w n D L e hm h1 h2 h3
    obtain ⟨n, rfl⟩ : ∃ n', n = n' + 1 := ⟨n - 1, by omega⟩
    have x : D 1 0 = nI (y 0 0) := by rw [h3 1 (by omega)]; exact x00
    refine ⟨D, ?_, h1, h3⟩
    rw [F_X7_humpInto_1_58_66_6_eq, x, if_neg]
    rw [hp_ltN (by omega) (by omega)]
    omega
  | succ m ih =>
    intro w n D L e hm h1 h2 h3
    obtain ⟨n, rfl⟩ : ∃ n', n = n' + 1 := ⟨n - 1, by omega⟩
    have x : D 1 0 = nI (y 0 0) := by rw [h3 1 (by omega)]; exact x00
    have tw := hp_tr2 hw (w := w) (by omega)
    have hl := hp_lnT_lt (c := c w) (tr := y 3 w) (m := 3) (t := 0) rfl tw
    obtain ⟨D1, e1, f1, f2⟩ := hp_apX2 N h1 (w := w) hl (by have := hp_tot_le (L := L) hl; omega)
    obtain ⟨D2, e2, g1, g2⟩ := ih (w + 1) n D1 (hp_ap L (hp_lnT (c w) (y 3 w) 3 0) w) (by omega) (by omega) f1 (by rw [hp_tot_ap hl]; omega) (fun q hq => by rw [f2 q (by omega) (by omega)]; exact h3 q hq)
    refine ⟨D2, ?_, g1, g2⟩
    rw [F_X7_humpInto_1_58_66_6_eq, x, if_pos (by rw [hp_ltN (by omega) (by omega)]; omega), hp_lbH_6 N hN (by omega) (by rw [h3 66 (by omega)]; exact xc w (by omega)) (hc w (by omega)) (by rw [h3 4 (by omega)]; exact x3 w (by omega)) tw, Option.bind_some, e1, Option.bind_some, hp_inc]
    exact e2
theorem hp_hiX_6 (N : Nat) (hN : 10 ≤ N) {y : Nat → Nat → Nat} (hw : hp_WF y) {c : Nat → Nat} {D : hy_M} (x00 : D 1 0 = nI (y 0 0)) (xc : ∀ j, j < y 0 0 → D 66 j = nI (c j)) (hc : ∀ j, j < y 0 0 → c j < 8) (x3 : ∀ j, j < 8 → D 4 j = nI (y 3 j)) : ∃ D1, F_X7_humpInto_1_58_66 N D = some D1 ∧ hp_LX (hp_H y c).1 (hp_H y c).2 D1 ∧ ∀ q, ¬ (60 ≤ q ∧ q < 66) → D1 q = D q := by
  have b0 := hw.1
  obtain ⟨D1, e1, f1, f2⟩ := hp_e58 N 5 0 N D rfl (by omega) (fun l hl => absurd hl (by omega))
  obtain ⟨D2, e2, g1, g2⟩ := hp_huX_6 N hN hw (D0 := D) x00 xc hc x3 (y 0 0) 0 N D1 hp_L0 (by omega) (by omega) ⟨f1, fun l _ j hj => absurd hj (by show ¬ j < 0; omega)⟩ rfl (fun q hq => f2 q (by omega))
  refine ⟨D2, ?_, g1, g2⟩
  have e1' : F_X2_empty_58 N D = some D1 := by
    rw [F_X2_empty_58_eq]
    exact e1
  rw [F_X7_humpInto_1_58_66_eq, e1', Option.bind_some]
  exact e2
theorem hp_plX_6 (N : Nat) (hN : 10 ≤ N) {y : Nat → Nat → Nat} (hw : hp_WF y) {c : Nat → Nat} {D0 : hy_M} (xc : ∀ j, j < y 0 0 → D0 66 j = nI (c j)) (hc : ∀ j, j < y 0 0 → c j < 8) (x3 : ∀ j, j < 8 → D0 4 j = nI (y 3 j)) {t k : Nat} (ht : t < 3) (hk : k ≤ 8) {src : Nat → Nat} (hs : ∀ j, j < k → src j < y 0 0) : ∀ m i n D L, i + m = k → m < n → hp_LX L.1 L.2 D → hp_tot L + m ≤ 8 → (∀ j, j < k → D (60 + t) j = nI (src j)) → (∀ q, ¬ (60 ≤ q ∧ q < 66) → D q = D0 q) → ∃ D1, F_X7_pullIn_1_58_66_18 N n (nI t) (nI k) (nI i) D = some (nI k, D1) ∧ hp_LX (hp_pl y c t src m i L).1 (hp_pl y c t src m i L).2 D1 ∧ ∀ q, ¬ (60 ≤ q ∧ q < 66) → D1 q = D0 q := by
  have b0 := hw.1
  intro m
  induction m with
  | zero =>
    intro i n D L e hm h1 h2 h4 h3
    obtain ⟨n, rfl⟩ : ∃ n', n = n' + 1 := ⟨n - 1, by omega⟩
    refine ⟨D, ?_, h1, h3⟩
    rw [F_X7_pullIn_1_58_66_18_eq, if_neg]
    rw [hp_ltN (by omega) (by omega)]
    omega
  | succ m ih =>
    intro i n D L e hm h1 h2 h4 h3
    obtain ⟨n, rfl⟩ : ∃ n', n = n' + 1 := ⟨n - 1, by omega⟩
    have hsi := hs i (by omega)
    have es := h4 i (by omega)
    have tw := hp_tr2 hw hsi
    have hl := hp_lnT_lt (c := c (src i)) (tr := y 3 (src i)) (m := 2 - t) (t := t + 1) (by omega) tw
    have hg := hp_lnT_ge (c := c (src i)) (tr := y 3 (src i)) (m := 2 - t) (t := t + 1) (by omega)
    obtain ⟨D1, e1, f1, f2⟩ := hp_apX2 N h1 (w := src i) hl (by have := hp_tot_le (L := L) hl; omega)
    obtain ⟨D2, e2, g1, g2⟩ := ih (i + 1) n D1 (hp_ap L (hp_lnT (c (src i)) (y 3 (src i)) (2 - t) (t + 1)) (src i)) (by omega) (by omega) f1 (by rw [hp_tot_ap hl]; omega) (fun j hj => by rw [f2 (60 + t) (by omega) (by omega)]; exact h4 j hj) (fun q hq => by rw [f2 q (by omega) (by omega)]; exact h3 q hq)
    refine ⟨D2, ?_, g1, g2⟩
    have k1 := hp_lbP_6 N hN (D := D) ht (w := src i) (by omega) (by rw [h3 66 (by omega)]; exact xc _ hsi) (hc _ hsi) (by rw [h3 4 (by omega)]; exact x3 _ (by omega)) tw
    clear ih h1 h3 h4 f1 f2 g1 g2 hg hl
    rw [F_X7_pullIn_1_58_66_18_eq]
    simp (disch := omega) only [hp_kN, nI_add, pk_mul, hp_isInN, hp_m1L, hp_l0, hp_l1, hp_l2, hp_l3, hp_l4, hp_l5, hp_l7, hp_l8, hp_l10, hp_l17, hp_l20, hp_l24, hp_l48, hp_l50, hp_l55, hp_l127, hp_lm1, hp_eqN, hp_ltN, hp_inN, hp_cl, if_pos, if_neg, if_true, if_false, Option.bind_some, hp_pr59, hp_al60, es, k1, e1, e2]
theorem hp_piX_6 (N : Nat) (hN : 10 ≤ N) {y : Nat → Nat → Nat} (hw : hp_WF y) {c : Nat → Nat} {D : hy_M} (xc : ∀ j, j < y 0 0 → D 66 j = nI (c j)) (hc : ∀ j, j < y 0 0 → c j < 8) (x3 : ∀ j, j < 8 → D 4 j = nI (y 3 j)) {t : Nat} (ht : t < 3) {L : hp_L} (hL : hp_LX L.1 L.2 D) (hO : hp_LO y L) (h8 : hp_tot L ≤ 8) : ∃ D1, F_X7_pullIn_1_58_66 N (nI t) D = some (nI (L.1 t), D1) ∧ hp_LX (hp_pul y c t L).1 (hp_pul y c t L).2 D1 ∧ ∀ q, ¬ (60 ≤ q ∧ q < 66) → D1 q = D q := by
  have b0 := hw.1
  have hk := hp_tot_le (L := L) (l := t) (by omega)
  have hte := hp_tot_em (L := L) (t := t) (by omega)
  have hE : hp_LX (hp_em L t).1 (hp_em L t).2 (hy_w D 65 t (nI 0)) := by
    refine ⟨fun k hk => ?_, fun k hk j hj => ?_⟩
    · show _ = nI (if k = t then 0 else L.1 k)
      by_cases q : k = t
      · subst q
        rw [hp_ws, if_pos rfl]
      · rw [hp_wn (Or.inr q), if_neg q]
        exact hL.1 k hk
    · have hj' : j < if k = t then 0 else L.1 k := hj
      rw [hp_wn (Or.inl (by omega))]
      refine hL.2 k hk j ?_
      split at hj' <;> omega
  obtain ⟨D2, e2, g1, g2⟩ := hp_plX_6 N hN hw (D0 := D) xc hc x3 ht (k := L.1 t) (by omega) (src := L.2 t) (fun j hj => (hO t (by omega) j hj).1) (L.1 t) 0 N (hy_w D 65 t (nI 0)) (hp_em L t) (by omega) (by omega) hE (by omega) (fun j hj => by rw [hp_wn (Or.inl (by omega))]; exact hL.2 t (by omega) j hj) (fun q hq => hy_w_ne (by omega))
  refine ⟨D2, ?_, g1, g2⟩
  have a := hL.1 t (by omega)
  rw [F_X7_pullIn_1_58_66_eq]
  clear g1 g2 hE
  simp (disch := omega) only [hp_kN, nI_add, pk_mul, hp_isInN, hp_m1L, hp_l0, hp_l1, hp_l2, hp_l3, hp_l4, hp_l5, hp_l7, hp_l8, hp_l10, hp_l17, hp_l20, hp_l24, hp_l48, hp_l50, hp_l55, hp_l127, hp_lm1, hp_eqN, hp_ltN, hp_inN, hp_cl, if_pos, if_neg, if_true, if_false, Option.bind_some, a, e2]
