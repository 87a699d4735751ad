/-! ===== bounded codes: ranks and chains ===== -/
theorem hq_cnt_m (b : Nat) : ∀ m z, hp_cnt b z ≤ hp_cnt b (z + m) := by
  intro m
  induction m with
  | zero => intro z; exact Nat.le_refl _
  | succ m ih =>
    intro z
    have := ih z
    show hp_cnt b z ≤ hp_cnt b (z + m) + hp_may b (z + m)
    omega
theorem hq_cnt_le {b z z' : Nat} (h : z ≤ z') : hp_cnt b z ≤ hp_cnt b z' := by
  have := hq_cnt_m b (z' - z) z
  rw [show z + (z' - z) = z' by omega] at this
  exact this
theorem hq_cnt_lt {b z z' : Nat} (h : z < z') (hm : hp_may b z = 1) : hp_cnt b z + 1 ≤ hp_cnt b z' := by
  have a : hp_cnt b (z + 1) = hp_cnt b z + hp_may b z := rfl
  have := hq_cnt_le (b := b) (show z + 1 ≤ z' by omega)
  omega
theorem hq_cor_t : ((List.range 4).all fun b => (List.range 4).all fun s => decide (1 ≤ hp_cnt b (2 ^ s)) && decide (hp_cnt b (2 ^ s) ≤ 8) && (List.range 8).all fun i => !(decide (i < hp_cnt b (2 ^ s))) || (decide (hp_cor b i < 2 ^ s) && decide (hp_cor b i < 8))) = true := by decide +kernel
theorem hq_R_b {b s : Nat} (hb : b < 4) (hs : s < 4) : 1 ≤ hp_cnt b (2 ^ s) ∧ hp_cnt b (2 ^ s) ≤ 8 := by
  have h := hp_all1 (hp_all1 hq_cor_t hb) hs
  simp only [Bool.and_eq_true, decide_eq_true_eq] at h
  exact h.1
theorem hq_cor {b s i : Nat} (hb : b < 4) (hs : s < 4) (hi : i < hp_cnt b (2 ^ s)) : hp_cor b i < 2 ^ s ∧ hp_cor b i < 8 ∧ hp_may b (hp_cor b i) = 1 ∧ hp_cnt b (hp_cor b i) = i := by
  have h := hp_all1 (hp_all1 hq_cor_t hb) hs
  simp only [Bool.and_eq_true, decide_eq_true_eq] at h
  have h2 := hp_all1 h.2 (show i < 8 by have := h.1.2; omega)
  simp only [Bool.or_eq_true, Bool.not_eq_true', decide_eq_false_iff_not, Bool.and_eq_true, decide_eq_true_eq] at h2
  have h3 := hp_cor_f hb (r := i) (by have := h.1.2; omega)
  rcases h2 with z | z
  · exact absurd hi z
  · exact ⟨z.1, z.2, h3.2.1, h3.2.2.1⟩
theorem hq_rank_t : ((List.range 4).all fun b => (List.range 8).all fun z => decide (hp_may b z = 0) || decide (hp_cor b (hp_cnt b z) = z)) = true := by decide +kernel
theorem hq_rank {b z : Nat} (hb : b < 4) (hz : z < 8) (hm : hp_may b z = 1) : hp_cor b (hp_cnt b z) = z := by
  have h := hp_all1 (hp_all1 hq_rank_t hb) hz
  simp only [Bool.or_eq_true, decide_eq_true_eq] at h
  rcases h with q | q
  · omega
  · exact q
theorem hq_cor_lt {b s i j : Nat} (hb : b < 4) (hs : s < 4) (hij : i < j) (hj : j < hp_cnt b (2 ^ s)) : hp_cor b i < hp_cor b j := by
  have a := hq_cor hb hs (show i < hp_cnt b (2 ^ s) by omega)
  have c := hq_cor hb hs hj
  apply Classical.byContradiction
  intro q
  have := hq_cnt_le (b := b) (show hp_cor b j ≤ hp_cor b i by omega)
  omega
/-- the chains up to a place -/
def hq_CH (y : Nat → Nat → Nat) (t p : Nat) : Nat := hp_chn y (fun j => j) t p
theorem hq_CH_m (y : Nat → Nat → Nat) (t : Nat) : ∀ m p, hq_CH y t p ≤ hq_CH y t (p + m) := by
  intro m
  induction m with
  | zero => intro p; exact Nat.le_refl _
  | succ m ih =>
    intro p
    have := ih p
    have e : hq_CH y t (p + (m + 1)) = hq_CH y t (p + m) + hp_cut y (fun j => j) t (p + m) := rfl
    omega
theorem hq_CH_le (y : Nat → Nat → Nat) (t : Nat) {p q : Nat} (h : p ≤ q) : hq_CH y t p ≤ hq_CH y t q := by
  have := hq_CH_m y t (q - p) p
  rw [show p + (q - p) = q by omega] at this
  exact this
def hq_dl (y : Nat → Nat → Nat) (w : Nat) : Nat := hq_CH y (y 3 w) (y 8 (y 3 w) - 1) - hp_ch y w
theorem hq_ch_e (y : Nat → Nat → Nat) (w : Nat) : hp_ch y w = hq_CH y (y 3 w) (y 4 w) := rfl
theorem hq_ch_w {y : Nat → Nat → Nat} (hw : hp_WF y) {w : Nat} (h : w < y 0 0) : hp_ch y w ≤ hq_CH y (y 3 w) (y 8 (y 3 w) - 1) ∧ hq_CH y (y 3 w) (y 8 (y 3 w) - 1) ≤ 7 ∧ y 4 w < y 8 (y 3 w) ∧ y (6 + y 3 w) (y 4 w) = w ∧ y 8 (y 3 w) ≤ 8 := by
  have a := hw.2.2.2.2.2.2.2.1 w h
  have b8 := (hp_Wb hw).2.2.2.1 (y 3 w) (hp_tr2 hw h)
  have c := hp_chn_le y (fun j => j) (y 3 w) (y 8 (y 3 w) - 1)
  refine ⟨hq_CH_le y _ (by omega), ?_, a.2.1, a.2.2, b8⟩
  show hp_chn y (fun j => j) (y 3 w) (y 8 (y 3 w) - 1) ≤ 7
  omega
theorem hq_pl {y : Nat → Nat → Nat} (hw : hp_WF y) {t p : Nat} (ht : t < 2) (hp : p < y 8 t) : y (6 + t) p < y 0 0 ∧ y 3 (y (6 + t) p) = t ∧ y 4 (y (6 + t) p) = p ∧ hp_ch y (y (6 + t) p) = hq_CH y t p := by
  have a := hw.2.2.2.2.2.2.2.2.1 t ht p hp
  refine ⟨a.1, a.2.1, a.2.2, ?_⟩
  rw [hq_ch_e, a.2.1, a.2.2]
theorem hq_V1 {y : Nat → Nat → Nat} (hw : hp_WF y) {c : Nat → Nat} (hc : hq_okc y c) {t : Nat} (ht : t < 2) : ∀ m p, p + m < y 8 t → hp_cnt (y 0 1) (c (y (6 + t) p)) + hq_CH y t (p + m) ≤ hp_cnt (y 0 1) (c (y (6 + t) (p + m))) + hq_CH y t p := by
  intro m
  induction m with
  | zero => intro p _; exact Nat.le_refl _
  | succ m ih =>
    intro p h
    have a := ih p (by omega)
    have b : c (y (6 + t) (p + m)) + hp_cut y (fun j => j) t (p + m) ≤ c (y (6 + t) (p + m + 1)) := hc.2.1 t ht (p + m) (by omega)
    have e : hq_CH y t (p + (m + 1)) = hq_CH y t (p + m) + hp_cut y (fun j => j) t (p + m) := rfl
    have hm := (hc.1 _ (hq_pl hw ht (p := p + m) (by omega)).1).2
    rw [e]
    show _ ≤ hp_cnt (y 0 1) (c (y (6 + t) (p + m + 1))) + _
    rcases hp_cut01 y (fun j => j) t (p + m) with q | q
    · rw [q] at b ⊢
      have := hq_cnt_le (b := y 0 1) (show c (y (6 + t) (p + m)) ≤ c (y (6 + t) (p + m + 1)) by omega)
      omega
    · rw [q] at b ⊢
      have := hq_cnt_lt (b := y 0 1) (show c (y (6 + t) (p + m)) < c (y (6 + t) (p + m + 1)) by omega) hm
      omega
theorem hq_V1w {y : Nat → Nat → Nat} (hw : hp_WF y) {c : Nat → Nat} (hc : hq_okc y c) {i j : Nat} (hi : i < y 0 0) (hj : j < y 0 0) (ht : y 3 i = y 3 j) (hp : y 4 i ≤ y 4 j) : hp_cnt (y 0 1) (c i) + hp_ch y j ≤ hp_cnt (y 0 1) (c j) + hp_ch y i := by
  have a := hq_ch_w hw hi
  have b := hq_ch_w hw hj
  have h := hq_V1 hw hc (t := y 3 j) (hp_tr2 hw hj) (y 4 j - y 4 i) (y 4 i) (by omega)
  rw [show y 4 i + (y 4 j - y 4 i) = y 4 j by omega, b.2.2.2.1] at h
  have e1 : y (6 + y 3 j) (y 4 i) = i := by rw [← ht]; exact a.2.2.2.1
  rw [e1] at h
  rw [hq_ch_e, hq_ch_e, ht]
  exact h
theorem hq_V2 {y : Nat → Nat → Nat} (hw : hp_WF y) {c : Nat → Nat} (hc : hq_okc y c) {w : Nat} (h : w < y 0 0) : hp_ch y w ≤ hp_cnt (y 0 1) (c w) := by
  have b := hq_ch_w hw h
  have a := hq_V1 hw hc (t := y 3 w) (hp_tr2 hw h) (y 4 w) 0 (by omega)
  rw [Nat.zero_add, b.2.2.2.1] at a
  have e : hq_CH y (y 3 w) 0 = 0 := rfl
  rw [hq_ch_e]
  omega
def hq_okS (y : Nat → Nat → Nat) (s : Nat) (c : Nat → Nat) : Prop := hq_okc y c ∧ ∀ w, w < y 0 0 → c w < 2 ^ s
theorem hq_V3 {y : Nat → Nat → Nat} (hw : hp_WF y) {s : Nat} {c : Nat → Nat} (hc : hq_okS y s c) {w : Nat} (h : w < y 0 0) : hp_cnt (y 0 1) (c w) + hq_dl y w < hp_cnt (y 0 1) (2 ^ s) := by
  have b := hq_ch_w hw h
  have tw := hp_tr2 hw h
  have l := hq_pl hw tw (p := y 8 (y 3 w) - 1) (by omega)
  have a := hq_V1w hw hc.1 h l.1 l.2.1.symm (by rw [l.2.2.1]; omega)
  rw [l.2.2.2] at a
  have d := hq_cnt_lt (b := y 0 1) (hc.2 _ l.1) (hc.1.1 _ l.1).2
  unfold hq_dl
  omega
def hq_PI (y : Nat → Nat → Nat) (s w : Nat) (r : Nat → Nat) : Prop := (∀ j, j < w → hp_ch y j ≤ r j ∧ r j + hq_dl y j < hp_cnt (y 0 1) (2 ^ s)) ∧ ∀ i j, i < w → j < w → y 3 i = y 3 j → y 4 i < y 4 j → r i + hp_ch y j ≤ r j + hp_ch y i
theorem hq_PI_n {y : Nat → Nat → Nat} (hw : hp_WF y) {s : Nat} (hs : s < 4) {r : Nat → Nat} (h : hq_PI y s (y 0 0) r) : ∀ t, t < 2 → ∀ p, p + 1 < y 8 t → hp_cor (y 0 1) (r (y (6 + t) p)) + hp_cut y (fun j => j) t p ≤ hp_cor (y 0 1) (r (y (6 + t) (p + 1))) := by
  intro t ht p hp
  have a := hq_pl hw ht (p := p) (by omega)
  have b := hq_pl hw ht hp
  have c := h.2 _ _ a.1 b.1 (by rw [a.2.1, b.2.1]) (by rw [a.2.2.1, b.2.2.1]; omega)
  rw [a.2.2.2, b.2.2.2] at c
  have e : hq_CH y t (p + 1) = hq_CH y t p + hp_cut y (fun j => j) t p := rfl
  have rb := (h.1 _ b.1).2
  rcases hp_cut01 y (fun j => j) t p with q | q
  · rw [q] at e ⊢
    by_cases z : r (y (6 + t) p) = r (y (6 + t) (p + 1))
    · rw [z]
      omega
    · have := hq_cor_lt hw.2.1 hs (show r (y (6 + t) p) < r (y (6 + t) (p + 1)) by omega) (by omega)
      omega
  · rw [q] at e ⊢
    have := hq_cor_lt hw.2.1 hs (show r (y (6 + t) p) < r (y (6 + t) (p + 1)) by omega) (by omega)
    omega
/-! what the class's memory holds meanwhile -/
def hq_K (y : Nat → Nat → Nat) (s : Nat) (D : hy_M) : Prop := D 1 0 = nI (y 0 0) ∧ (∀ j, j < 8 → D 2 j = nI (y 1 j)) ∧ (∀ j, j < 8 → D 4 j = nI (y 3 j)) ∧ (∀ j, j < 8 → D 5 j = nI (y 4 j)) ∧ (∀ t, t < 2 → ∀ j, j < 8 → D (7 + t) j = nI (y (6 + t) j)) ∧ (∀ t, t < 2 → D 9 t = nI (y 8 t)) ∧ (∀ t, t < 3 → D 10 t = nI (y 9 t)) ∧ D 48 1 = nI (hp_cnt (y 0 1) (2 ^ s)) ∧ (∀ i, i < hp_cnt (y 0 1) (2 ^ s) → D 49 i = nI (hp_cor (y 0 1) i)) ∧ ∀ j, j < y 0 0 → D 50 j = nI (hp_ch y j)
def hq_G (D D1 : hy_M) : Prop := (∀ c, c ≠ 48 → c ≠ 51 → c ≠ 52 → c ≠ 54 → D1 c = D c) ∧ ∀ j, j ≠ 6 → D1 48 j = D 48 j
theorem hq_G_rf (D : hy_M) : hq_G D D := ⟨fun _ _ _ _ _ => rfl, fun _ _ => rfl⟩
theorem hq_G_tr {A B C : hy_M} (h : hq_G A B) (k : hq_G B C) : hq_G A C := ⟨fun c a b d e => (k.1 c a b d e).trans (h.1 c a b d e), fun j a => (k.2 j a).trans (h.2 j a)⟩
theorem hq_K_G {y : Nat → Nat → Nat} {s : Nat} {D D1 : hy_M} (h : hq_K y s D) (g : hq_G D D1) : hq_K y s D1 := by
  obtain ⟨h1, h2, h3, h4, h5, h6, h7, h8, h9, h10⟩ := h
  have f : ∀ c, (c < 48 ∨ c = 49 ∨ c = 50) → D1 c = D c := fun c hc => g.1 c (by omega) (by omega) (by omega) (by omega)
  exact ⟨by rw [f 1 (by omega)]; exact h1, fun j hj => by rw [f 2 (by omega)]; exact h2 j hj, fun j hj => by rw [f 4 (by omega)]; exact h3 j hj, fun j hj => by rw [f 5 (by omega)]; exact h4 j hj, fun t ht j hj => by rw [f (7 + t) (by omega)]; exact h5 t ht j hj, fun t ht => by rw [f 9 (by omega)]; exact h6 t ht, fun t ht => by rw [f 10 (by omega)]; exact h7 t ht, by rw [g.2 1 (by omega)]; exact h8, fun i hi => by rw [f 49 (by omega)]; exact h9 i hi, fun j hj => by rw [f 50 (by omega)]; exact h10 j hj⟩
/-- the last number -/
theorem hq_hgc {R d x : Nat} (hR : 1 ≤ R) (hR8 : R ≤ 8) (hd : d < 1000) (hx : x < 1000) : (nI R - nI 1 - nI d < nI x) = (R ≤ x + d) := by
  apply propext
  rw [pk_sub hR, Int32.lt_iff_toInt_lt, pk_sub_toInt (by omega) (by omega), hp_ti (by omega)]
  omega
theorem hq_hgX (N : Nat) {y : Nat → Nat → Nat} (hw : hp_WF y) {s : Nat} {D : hy_M} (hK : hq_K y s D) {w : Nat} (h : w < y 0 0) : F_X0_highest N (nI w) D = some (nI (hp_cnt (y 0 1) (2 ^ s)) - nI 1 - nI (hq_dl y w), D) := by
  have b0 := hw.1
  obtain ⟨k1, k2, k3, k4, k5, k6, k7, k8, k9, k10⟩ := hK
  have a := hq_ch_w hw h
  have tw := hp_tr2 hw h
  have l := hq_pl hw tw (p := y 8 (y 3 w) - 1) (by omega)
  have z3 := k3 w (by omega)
  have z6 := k6 (y 3 w) tw
  have z5 := k5 (y 3 w) tw (y 8 (y 3 w) - 1) (by omega)
  have z10 := k10 w h
  have z10' := k10 _ l.1
  rw [l.2.2.2] at z10'
  have e : hq_dl y w = hq_CH y (y 3 w) (y 8 (y 3 w) - 1) - hp_ch y w := rfl
  have l1 := l.1
  clear k2 k3 k4 k5 k6 k7 k9 k10 l
  rw [F_X0_highest_eq, e]
  simp (disch := omega) only [hp_kN, nI_add, pk_mul, hp_isInN, hp_m1L, hp_l0, hp_l1, hp_l2, hp_l3, hp_l4, hp_l5, hp_l7, hp_l8, hp_l10, hp_l17, hp_l20, hp_l24, hp_l48, hp_l50, hp_l55, hp_l127, hp_lm1, hp_eqN, hp_ltN, hp_inN, hp_cl, if_pos, if_neg, if_true, if_false, Option.bind_some, z3, z6, pk_sub, F_X7_wantedAt_eq, hp_pr6, hp_al7, z5, k8, z10', z10]
theorem hq_m1 (q : Nat) : nI q + -1 = nI q - 1 := by
  cases q with
  | zero => decide
  | succ q =>
    rw [show nI (q + 1) + -1 = nI q from hp_dec q, show nI (q + 1) - (1 : Int32) = nI (q + 1 - 1) from pk_sub (a := q + 1) (b := 1) (by omega)]
    rfl
theorem hq_s1 (q : Nat) : nI (q + 1) - (1 : Int32) = nI q := pk_sub (a := q + 1) (b := 1) (by omega)
theorem hq_lfX (N : Nat) (hN : 100 ≤ N) {y : Nat → Nat → Nat} (hw : hp_WF y) {s : Nat} (hs : s < 4) {r : Nat → Nat} {w : Nat} (h : w < y 0 0) (hP : hq_PI y s w r) {D : hy_M} (hK : hq_K y s D) (h51 : ∀ j, j < w → D 51 j = nI (r j)) : ∃ lo, F_X0_lowFor N (nI w) D = some (nI lo, D) ∧ lo ≤ 16 ∧ hp_ch y w ≤ lo ∧ (∀ j, j < w → y 3 j = y 3 w → y 4 j < y 4 w → r j + hp_ch y w ≤ lo + hp_ch y j) ∧ (lo = hp_ch y w ∨ ∃ j, j < w ∧ y 3 j = y 3 w ∧ y 4 j < y 4 w ∧ lo + hp_ch y j = r j + hp_ch y w) := by
  have b0 := hw.1
  have hK' := hK
  obtain ⟨k1, k2, k3, k4, k5, k6, k7, k8, k9, k10⟩ := hK
  have Rb := hq_R_b hw.2.1 hs
  have a := hq_ch_w hw h
  have tw := hp_tr2 hw h
  have z10 := k10 w h
  have l : ∀ m f, m ≤ y 4 w → m < f → (∀ j, j < w → y 3 j = y 3 w → y 4 j < y 4 w → y 4 j < m) → ∃ lo, F_X0_lowFor_17 N f (nI w) (nI (y 3 w)) (nI m - 1) D = some (nI lo, D) ∧ lo ≤ 16 ∧ hp_ch y w ≤ lo ∧ (∀ j, j < w → y 3 j = y 3 w → y 4 j < y 4 w → r j + hp_ch y w ≤ lo + hp_ch y j) ∧ (lo = hp_ch y w ∨ ∃ j, j < w ∧ y 3 j = y 3 w ∧ y 4 j < y 4 w ∧ lo + hp_ch y j = r j + hp_ch y w) := by
    intro m
    induction m with
    | zero =>
      intro f _ hf hall
      obtain ⟨f, rfl⟩ : ∃ f', f = f' + 1 := ⟨f - 1, by omega⟩
      refine ⟨hp_ch y w, ?_, by omega, Nat.le_refl _, fun j h1 h2 h3 => absurd (hall j h1 h2 h3) (by omega), Or.inl rfl⟩
      rw [F_X0_lowFor_17_eq, if_pos (by decide), if_pos (hp_in (by omega) (by omega)), hp_cl (by omega), z10]
    | succ m ih =>
      intro f hm hf hall
      obtain ⟨f, rfl⟩ : ∃ f', f = f' + 1 := ⟨f - 1, by omega⟩
      have l := hq_pl hw tw (p := m) (by omega)
      have z5 := k5 (y 3 w) tw m (by omega)
      rw [hq_s1]
      by_cases q : y (6 + y 3 w) m < w
      · have p1 := hP.1 _ q
        have c1 := hq_ch_w hw l.1
        have d1 : hp_ch y (y (6 + y 3 w) m) ≤ r (y (6 + y 3 w) m) := p1.1
        refine ⟨r (y (6 + y 3 w) m) + hp_ch y w - hp_ch y (y (6 + y 3 w) m), ?_, by omega, by omega, fun j h1 h2 h3 => ?_, Or.inr ⟨_, q, l.2.1, by rw [l.2.2.1]; omega, by omega⟩⟩
        · have z51 := h51 _ q
          have z10' := k10 _ l.1
          have l1 := l.1
          rw [F_X0_lowFor_17_eq]
          clear k2 k3 k4 k5 k6 k7 k9 k10 ih hall h51 l hP
          simp (disch := omega) only [hp_kN, nI_add, pk_mul, hp_isInN, hp_m1L, hp_l0, hp_l1, hp_l2, hp_l3, hp_l4, hp_l5, hp_l7, hp_l8, hp_l10, hp_l17, hp_l20, hp_l24, hp_l48, hp_l50, hp_l55, hp_l127, hp_lm1, hp_eqN, hp_ltN, hp_inN, hp_cl, if_pos, if_neg, if_true, if_false, Option.bind_some, F_X7_wantedAt_eq, hp_pr6, hp_al7, z5, z51, z10, z10', pk_sub]
        · have h4 := hall j h1 h2 h3
          by_cases z : y 4 j = m
          · have e : j = y (6 + y 3 w) m := by
              have := (hq_ch_w hw (w := j) (by omega)).2.2.2.1
              rw [h2, z] at this
              exact this.symm
            rw [← e]
            rw [← e] at d1
            omega
          · have := hP.2 j _ h1 q (by rw [l.2.1]; exact h2) (by rw [l.2.2.1]; omega)
            omega
      · obtain ⟨lo, e1, e2⟩ := ih f (by omega) (by omega) (fun j h1 h2 h3 => by
          have h4 := hall j h1 h2 h3
          by_cases z : y 4 j = m
          · exfalso
            have := (hq_ch_w hw (w := j) (by omega)).2.2.2.1
            rw [h2, z] at this
            omega
          · omega)
        refine ⟨lo, ?_, e2⟩
        rw [← e1, F_X0_lowFor_17_eq]
        have hm1 := hq_m1 m
        have hm1' : nI m + -nI 1 = nI m - nI 1 := hm1
        have l1 := l.1
        clear k2 k3 k4 k5 k6 k7 k9 k10 ih hall h51 l hP e1 e2
        simp (disch := omega) only [hp_kN, nI_add, pk_mul, hp_isInN, hp_m1L, hp_l0, hp_l1, hp_l2, hp_l3, hp_l4, hp_l5, hp_l7, hp_l8, hp_l10, hp_l17, hp_l20, hp_l24, hp_l48, hp_l50, hp_l55, hp_l127, hp_lm1, hp_eqN, hp_ltN, hp_inN, hp_cl, if_pos, if_neg, if_true, if_false, Option.bind_some, F_X7_wantedAt_eq, hp_pr6, hp_al7, z5, hm1']
  obtain ⟨lo, e1, e2⟩ := l (y 4 w) N (Nat.le_refl _) (by omega) (fun j _ _ h3 => h3)
  refine ⟨lo, ?_, e2⟩
  have z3 := k3 w (by omega)
  have z4 := k4 w (by omega)
  rw [← e1, F_X0_lowFor_eq, if_pos (hp_in (by omega) (by omega)), if_pos (hp_in (by omega) (by omega)), hp_cl (by omega), z3, z4]
theorem hq_hfX (N : Nat) (hN : 100 ≤ N) {y : Nat → Nat → Nat} (hw : hp_WF y) {s : Nat} (hs : s < 4) {r : Nat → Nat} {w : Nat} (h : w < y 0 0) (hP : hq_PI y s w r) {D : hy_M} (hK : hq_K y s D) (h51 : ∀ j, j < w → D 51 j = nI (r j)) : ∃ hi hb, F_X0_highFor N (nI w) D = some (hi, D) ∧ (∀ x, x < 100 → (hi < nI x) = (hb ≤ x)) ∧ hb ≤ 20 ∧ (∀ x, x < hb → x + hq_dl y w < hp_cnt (y 0 1) (2 ^ s) ∧ ∀ j, j < w → y 3 j = y 3 w → y 4 w < y 4 j → x + hp_ch y j ≤ r j + hp_ch y w) ∧ ∀ x, x + hq_dl y w < hp_cnt (y 0 1) (2 ^ s) → (∀ j, j < w → y 3 j = y 3 w → y 4 w < y 4 j → x + hp_ch y j ≤ r j + hp_ch y w) → x < hb := by
  have b0 := hw.1
  have hK' := hK
  obtain ⟨k1, k2, k3, k4, k5, k6, k7, k8, k9, k10⟩ := hK
  have Rb := hq_R_b hw.2.1 hs
  have a := hq_ch_w hw h
  have tw := hp_tr2 hw h
  have z10 := k10 w h
  have z6 := k6 (y 3 w) tw
  have l : ∀ m p f, p + m = y 8 (y 3 w) → y 4 w < p → m < f → (∀ j, j < w → y 3 j = y 3 w → y 4 w < y 4 j → p ≤ y 4 j) → ∃ hi hb, F_X0_highFor_17 N f (nI w) (nI (y 3 w)) (nI p) D = some (hi, D) ∧ (∀ x, x < 100 → (hi < nI x) = (hb ≤ x)) ∧ hb ≤ 20 ∧ (∀ x, x < hb → x + hq_dl y w < hp_cnt (y 0 1) (2 ^ s) ∧ ∀ j, j < w → y 3 j = y 3 w → y 4 w < y 4 j → x + hp_ch y j ≤ r j + hp_ch y w) ∧ ∀ x, x + hq_dl y w < hp_cnt (y 0 1) (2 ^ s) → (∀ j, j < w → y 3 j = y 3 w → y 4 w < y 4 j → x + hp_ch y j ≤ r j + hp_ch y w) → x < hb := by
    intro m
    induction m with
    | zero =>
      intro p f e hp hf hall
      obtain ⟨f, rfl⟩ : ∃ f', f = f' + 1 := ⟨f - 1, by omega⟩
      have d7 : hq_dl y w ≤ 7 := by unfold hq_dl; omega
      refine ⟨nI (hp_cnt (y 0 1) (2 ^ s)) - nI 1 - nI (hq_dl y w), hp_cnt (y 0 1) (2 ^ s) - hq_dl y w, ?_, fun x hx => ?_, by omega, fun x hx => ⟨by omega, fun j h1 h2 h3 => ?_⟩, fun x h1 _ => by omega⟩
      · rw [F_X0_highFor_17_eq, if_pos (hp_in (by omega) (by omega)), hp_cl (by omega), z6, if_neg (by rw [hp_ltN (by omega) (by omega)]; omega), hq_hgX N hw hK' h, Option.bind_some]
      · rw [hq_hgc Rb.1 Rb.2 (by omega) (by omega)]
        apply propext
        omega
      · exfalso
        have h4 := hall j h1 h2 h3
        have := (hq_ch_w hw (w := j) (by omega)).2.2.1
        rw [h2] at this
        omega
    | succ m ih =>
      intro p f e hp hf hall
      obtain ⟨f, rfl⟩ : ∃ f', f = f' + 1 := ⟨f - 1, by omega⟩
      have l := hq_pl hw tw (p := p) (by omega)
      have z5 := k5 (y 3 w) tw p (by omega)
      by_cases q : y (6 + y 3 w) p < w
      · have p1 := hP.1 _ q
        have c1 := hq_ch_w hw l.1
        have c2 : hq_dl y (y (6 + y 3 w) p) = hq_CH y (y 3 w) (y 8 (y 3 w) - 1) - hp_ch y (y (6 + y 3 w) p) := by
          unfold hq_dl
          rw [l.2.1]
        have c3 : hq_dl y w = hq_CH y (y 3 w) (y 8 (y 3 w) - 1) - hp_ch y w := rfl
        rw [l.2.1] at c1
        have d1 : hp_ch y (y (6 + y 3 w) p) ≤ r (y (6 + y 3 w) p) := p1.1
        refine ⟨nI (r (y (6 + y 3 w) p) + hp_ch y w - hp_ch y (y (6 + y 3 w) p)), r (y (6 + y 3 w) p) + hp_ch y w - hp_ch y (y (6 + y 3 w) p) + 1, ?_, fun x hx => ?_, by omega, fun x hx => ⟨by omega, fun j h1 h2 h3 => ?_⟩, fun x h1 h2 => ?_⟩
        · have z51 := h51 _ q
          have z10' := k10 _ l.1
          have l1 := l.1
          rw [F_X0_highFor_17_eq]
          clear k2 k3 k4 k5 k6 k7 k9 k10 ih hall h51 l hP
          simp (disch := omega) only [hp_kN, nI_add, pk_mul, hp_isInN, hp_m1L, hp_l0, hp_l1, hp_l2, hp_l3, hp_l4, hp_l5, hp_l7, hp_l8, hp_l10, hp_l17, hp_l20, hp_l24, hp_l48, hp_l50, hp_l55, hp_l127, hp_lm1, hp_eqN, hp_ltN, hp_inN, hp_cl, if_pos, if_neg, if_true, if_false, Option.bind_some, z6, F_X7_wantedAt_eq, hp_pr6, hp_al7, z5, z51, z10, z10', pk_sub]
        · rw [hp_ltN (by omega) (by omega)]
          apply propext
          omega
        · have h4 := hall j h1 h2 h3
          by_cases z : y 4 j = p
          · have e2 : j = y (6 + y 3 w) p := by
              have := (hq_ch_w hw (w := j) (by omega)).2.2.2.1
              rw [h2, z] at this
              exact this.symm
            rw [← e2] at hx d1
            omega
          · have := hP.2 _ j q h1 (by rw [l.2.1]; exact h2.symm) (by rw [l.2.2.1]; omega)
            omega
        · have := h2 _ q l.2.1 (by rw [l.2.2.1]; exact hp)
          omega
      · obtain ⟨hi, hb, e1, e2⟩ := ih (p + 1) f (by omega) (by omega) (by omega) (fun j h1 h2 h3 => by
          have h4 := hall j h1 h2 h3
          by_cases z : y 4 j = p
          · exfalso
            have := (hq_ch_w hw (w := j) (by omega)).2.2.2.1
            rw [h2, z] at this
            omega
          · omega)
        refine ⟨hi, hb, ?_, e2⟩
        rw [← e1, F_X0_highFor_17_eq]
        have l1 := l.1
        clear k2 k3 k4 k5 k6 k7 k9 k10 ih hall h51 l hP e1 e2
        simp (disch := omega) only [hp_kN, nI_add, pk_mul, hp_isInN, hp_m1L, hp_l0, hp_l1, hp_l2, hp_l3, hp_l4, hp_l5, hp_l7, hp_l8, hp_l10, hp_l17, hp_l20, hp_l24, hp_l48, hp_l50, hp_l55, hp_l127, hp_lm1, hp_eqN, hp_ltN, hp_inN, hp_cl, if_pos, if_neg, if_true, if_false, Option.bind_some, z6, F_X7_wantedAt_eq, hp_pr6, hp_al7, z5]
  obtain ⟨hi, hb, e1, e2⟩ := l (y 8 (y 3 w) - (y 4 w + 1)) (y 4 w + 1) N (by omega) (by omega) (by omega) (fun j _ _ h3 => h3)
  refine ⟨hi, hb, ?_, e2⟩
  have z3 := k3 w (by omega)
  have z4 := k4 w (by omega)
  rw [← e1, F_X0_highFor_eq, if_pos (hp_in (by omega) (by omega)), if_pos (hp_in (by omega) (by omega)), hp_cl (by omega), z3, z4, hp_inc]
