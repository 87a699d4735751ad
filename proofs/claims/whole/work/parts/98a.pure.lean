/-! ===== bounded codes: what is asked ===== -/
def hq_okc (y : Nat → Nat → Nat) (c : Nat → Nat) : Prop := (∀ w, w < y 0 0 → c w < 8 ∧ hp_may (y 0 1) (c w) = 1) ∧ (∀ t, t < 2 → ∀ p, p + 1 < y 8 t → c (y (6 + t) p) + hp_cut y (fun j => j) t p ≤ c (y (6 + t) (p + 1))) ∧ ∀ t, t < 3 → hp_load y c t ≤ y 9 t
def hq_on1 (y : Nat → Nat → Nat) (c : Nat → Nat) : Nat := hp_sum (fun j => hp_pc (c j)) (y 0 0)
def hq_st1 (y : Nat → Nat → Nat) (c : Nat → Nat) : Nat := hp_wd (hp_or c (y 0 0))
def hq_lex (n : Nat) (c b : Nat → Nat) : Prop := ∃ i, i < n ∧ (∀ j, j < i → c j = b j) ∧ c i < b i
def hq_bt1 (y : Nat → Nat → Nat) (c b : Nat → Nat) : Prop := hq_on1 y c < hq_on1 y b ∨ (hq_on1 y c = hq_on1 y b ∧ hq_lex (y 0 0) c b)
def hq_bt (y : Nat → Nat → Nat) (c b : Nat → Nat) : Prop := hq_st1 y c < hq_st1 y b ∨ (hq_st1 y c = hq_st1 y b ∧ hq_bt1 y c b)
def hq_best (y : Nat → Nat → Nat) (b : Nat → Nat) : Prop := hq_okc y b ∧ ∀ c, hq_okc y c → ¬ hq_bt y c b
theorem hq_lex_tr {n : Nat} {a b c : Nat → Nat} (h : hq_lex n c b) (k : hq_lex n b a) : hq_lex n c a := by
  obtain ⟨i, hi, h1, h2⟩ := h
  obtain ⟨j, hj, k1, k2⟩ := k
  by_cases q : i < j
  · exact ⟨i, hi, fun x hx => (h1 x hx).trans (k1 x (by omega)), by rw [← k1 i q]; exact h2⟩
  · by_cases q2 : i = j
    · subst q2
      exact ⟨i, hi, fun x hx => (h1 x hx).trans (k1 x hx), by omega⟩
    · exact ⟨j, hj, fun x hx => (h1 x (by omega)).trans (k1 x hx), by rw [h1 j (by omega)]; exact k2⟩
theorem hq_lex_ir {n : Nat} {c b : Nat → Nat} (e : ∀ w, w < n → c w = b w) : ¬ hq_lex n c b := fun ⟨i, hi, _, h2⟩ => by
  have := e i hi
  omega
theorem hq_lex_tri (c b : Nat → Nat) : ∀ n, (∀ w, w < n → c w = b w) ∨ hq_lex n c b ∨ hq_lex n b c := by
  intro n
  induction n with
  | zero => left; intro w hw; omega
  | succ n ih =>
    rcases ih with h | ⟨i, hi, h1, h2⟩ | ⟨i, hi, h1, h2⟩
    · by_cases q : c n = b n
      · left
        intro w hw
        by_cases e : w = n
        · rw [e, q]
        · exact h w (by omega)
      · by_cases q2 : c n < b n
        · exact Or.inr (Or.inl ⟨n, by omega, h, q2⟩)
        · exact Or.inr (Or.inr ⟨n, by omega, fun j hj => (h j hj).symm, by omega⟩)
    · exact Or.inr (Or.inl ⟨i, by omega, h1, h2⟩)
    · exact Or.inr (Or.inr ⟨i, by omega, h1, h2⟩)
theorem hq_sum_congr {f g : Nat → Nat} : ∀ n, (∀ j, j < n → f j = g j) → hp_sum f n = hp_sum g n := by
  intro n
  induction n with
  | zero => intro _; rfl
  | succ n ih =>
    intro h
    show hp_sum f n + f n = hp_sum g n + g n
    rw [ih (fun j hj => h j (by omega)), h n (by omega)]
theorem hq_sum_mono {f g : Nat → Nat} : ∀ n, (∀ j, j < n → f j ≤ g j) → hp_sum f n ≤ hp_sum g n := by
  intro n
  induction n with
  | zero => intro _; exact Nat.le_refl 0
  | succ n ih =>
    intro h
    show hp_sum f n + f n ≤ hp_sum g n + g n
    exact Nat.add_le_add (ih (fun j hj => h j (by omega))) (h n (by omega))
theorem hq_or_congr {f g : Nat → Nat} : ∀ n, (∀ j, j < n → f j = g j) → hp_or f n = hp_or g n := by
  intro n
  induction n with
  | zero => intro _; rfl
  | succ n ih =>
    intro h
    show hp_or f n ||| f n = hp_or g n ||| g n
    rw [ih (fun j hj => h j (by omega)), h n (by omega)]
theorem hq_on1_c {y : Nat → Nat → Nat} {c b : Nat → Nat} (e : ∀ w, w < y 0 0 → c w = b w) : hq_on1 y c = hq_on1 y b := hq_sum_congr _ (fun j hj => by rw [e j hj])
theorem hq_st1_c {y : Nat → Nat → Nat} {c b : Nat → Nat} (e : ∀ w, w < y 0 0 → c w = b w) : hq_st1 y c = hq_st1 y b := by
  unfold hq_st1
  rw [hq_or_congr _ e]
theorem hq_bt1_tr {y : Nat → Nat → Nat} {a b c : Nat → Nat} (h : hq_bt1 y c b) (k : hq_bt1 y b a) : hq_bt1 y c a := by
  rcases h with h | ⟨h, h2⟩
  · rcases k with k | ⟨k, k2⟩
    · exact Or.inl (by omega)
    · exact Or.inl (by omega)
  · rcases k with k | ⟨k, k2⟩
    · exact Or.inl (by omega)
    · exact Or.inr ⟨by omega, hq_lex_tr h2 k2⟩
theorem hq_bt_tr {y : Nat → Nat → Nat} {a b c : Nat → Nat} (h : hq_bt y c b) (k : hq_bt y b a) : hq_bt y c a := by
  rcases h with h | ⟨h, h2⟩
  · rcases k with k | ⟨k, k2⟩
    · exact Or.inl (by omega)
    · exact Or.inl (by omega)
  · rcases k with k | ⟨k, k2⟩
    · exact Or.inl (by omega)
    · exact Or.inr ⟨by omega, hq_bt1_tr h2 k2⟩
theorem hq_bt1_ir {y : Nat → Nat → Nat} {c b : Nat → Nat} (e : ∀ w, w < y 0 0 → c w = b w) : ¬ hq_bt1 y c b := by
  have := hq_on1_c e
  rintro (h | ⟨_, h⟩)
  · omega
  · exact hq_lex_ir e h
theorem hq_bt_ir {y : Nat → Nat → Nat} {c b : Nat → Nat} (e : ∀ w, w < y 0 0 → c w = b w) : ¬ hq_bt y c b := by
  have := hq_st1_c e
  rintro (h | ⟨_, h⟩)
  · omega
  · exact hq_bt1_ir e h
theorem hq_lex_c {n : Nat} {c c' b : Nat → Nat} (e : ∀ w, w < n → c w = c' w) (h : hq_lex n c b) : hq_lex n c' b := by
  obtain ⟨i, hi, h1, h2⟩ := h
  exact ⟨i, hi, fun j hj => by rw [← e j (by omega)]; exact h1 j hj, by rw [← e i hi]; exact h2⟩
theorem hq_bt_c {y : Nat → Nat → Nat} {c c' b : Nat → Nat} (e : ∀ w, w < y 0 0 → c w = c' w) (h : hq_bt y c b) : hq_bt y c' b := by
  have h1 := hq_st1_c e
  have h2 := hq_on1_c e
  rcases h with h | ⟨h, h3 | ⟨h3, h4⟩⟩
  · exact Or.inl (by omega)
  · exact Or.inr ⟨by omega, Or.inl (by omega)⟩
  · exact Or.inr ⟨by omega, Or.inr ⟨by omega, hq_lex_c e h4⟩⟩
theorem hq_best_u {y : Nat → Nat → Nat} {b b' : Nat → Nat} (h : hq_best y b) (h' : hq_best y b') : ∀ w, w < y 0 0 → b w = b' w := by
  have k1 := h.2 b' h'.1
  have k2 := h'.2 b h.1
  have s1 : hq_st1 y b = hq_st1 y b' := by
    apply Classical.byContradiction
    intro q
    by_cases q2 : hq_st1 y b < hq_st1 y b'
    · exact k2 (Or.inl q2)
    · exact k1 (Or.inl (by omega))
  have s2 : hq_on1 y b = hq_on1 y b' := by
    apply Classical.byContradiction
    intro q
    by_cases q2 : hq_on1 y b < hq_on1 y b'
    · exact k2 (Or.inr ⟨s1, Or.inl q2⟩)
    · exact k1 (Or.inr ⟨s1.symm, Or.inl (by omega)⟩)
  rcases hq_lex_tri b b' (y 0 0) with h | h | h
  · exact h
  · exact absurd (Or.inr ⟨s1, Or.inr ⟨s2, h⟩⟩) k2
  · exact absurd (Or.inr ⟨s1.symm, Or.inr ⟨s2.symm, h⟩⟩) k1
theorem hq_wdor_t : ((List.range 8).all fun a => (List.range 8).all fun b => decide (hp_wd (a ||| b) = if hp_wd a < hp_wd b then hp_wd b else hp_wd a)) = true := by decide +kernel
theorem hq_wd2_t : ((List.range 8).all fun a => (List.range 4).all fun s => decide (hp_wd a ≤ s ↔ a < 2 ^ s)) = true := by decide +kernel
theorem hq_wd2 {a s : Nat} (ha : a < 8) (hs : s < 4) : hp_wd a ≤ s ↔ a < 2 ^ s := of_decide_eq_true (hp_all1 (hp_all1 hq_wd2_t ha) hs)
theorem hq_wd_or {c : Nat → Nat} {s : Nat} : ∀ m, (∀ j, j < m → c j < 8) → (hp_wd (hp_or c m) ≤ s ↔ ∀ j, j < m → hp_wd (c j) ≤ s) := by
  intro m
  induction m with
  | zero =>
    intro _
    refine ⟨fun _ j hj => by omega, fun _ => ?_⟩
    show 0 ≤ s
    omega
  | succ m ih =>
    intro h
    have e : hp_wd (hp_or c m ||| c m) = if hp_wd (hp_or c m) < hp_wd (c m) then hp_wd (c m) else hp_wd (hp_or c m) := of_decide_eq_true (hp_all1 (hp_all1 hq_wdor_t (hp_or_lt m (fun j hj => h j (by omega)))) (h m (by omega)))
    have ih' := ih (fun j hj => h j (by omega))
    show hp_wd (hp_or c m ||| c m) ≤ s ↔ _
    rw [e]
    refine ⟨fun q j hj => ?_, fun q => ?_⟩
    · by_cases z : j = m
      · subst z
        split at q <;> omega
      · refine ih'.mp ?_ j (by omega)
        split at q <;> omega
    · have q1 := q m (by omega)
      have q2 := ih'.mpr (fun j hj => q j (by omega))
      split <;> omega
/-! the order of the reference -/
def hq_tu (y : Nat → Nat → Nat) (k : Nat) : Nat := if k < y 8 0 then y 6 k else y 7 (k - y 8 0)
def hq_po (y : Nat → Nat → Nat) (w : Nat) : Nat := if y 3 w = 0 then y 4 w else y 8 0 + y 4 w
theorem hq_tu_f {y : Nat → Nat → Nat} (hw : hp_WF y) {k : Nat} (hk : k < y 0 0) : hq_tu y k < y 0 0 ∧ hq_po y (hq_tu y k) = k := by
  have h6 := hw.2.2.2.2.2.1
  unfold hq_tu
  by_cases q : k < y 8 0
  · rw [if_pos q]
    have a : y 6 k < y 0 0 ∧ y 3 (y 6 k) = 0 ∧ y 4 (y 6 k) = k := hw.2.2.2.2.2.2.2.2.1 0 (by omega) k q
    refine ⟨a.1, ?_⟩
    unfold hq_po
    rw [if_pos a.2.1, a.2.2]
  · rw [if_neg q]
    have a : y 7 (k - y 8 0) < y 0 0 ∧ y 3 (y 7 (k - y 8 0)) = 1 ∧ y 4 (y 7 (k - y 8 0)) = k - y 8 0 := hw.2.2.2.2.2.2.2.2.1 1 (by omega) (k - y 8 0) (by omega)
    refine ⟨a.1, ?_⟩
    unfold hq_po
    rw [if_neg (by omega), a.2.2]
    omega
theorem hq_po_f {y : Nat → Nat → Nat} (hw : hp_WF y) {w : Nat} (h : w < y 0 0) : hq_po y w < y 0 0 ∧ hq_tu y (hq_po y w) = w := by
  have h6 := hw.2.2.2.2.2.1
  have a := hw.2.2.2.2.2.2.2.1 w h
  have tw := hp_tr2 hw h
  unfold hq_po hq_tu
  by_cases q : y 3 w = 0
  · rw [if_pos q]
    rw [q] at a
    have a2 : y 4 w < y 8 0 := a.2.1
    have a3 : y 6 (y 4 w) = w := a.2.2
    rw [if_pos a2]
    exact ⟨by omega, a3⟩
  · rw [if_neg q]
    have q1 : y 3 w = 1 := by omega
    rw [q1] at a
    have a2 : y 4 w < y 8 1 := a.2.1
    have a3 : y 7 (y 4 w) = w := a.2.2
    rw [if_neg (by omega), show y 8 0 + y 4 w - y 8 0 = y 4 w by omega]
    exact ⟨by omega, a3⟩
theorem hq_pick1 {y : Nat → Nat → Nat} (hw : hp_WF y) (f : Nat → Nat) {k : Nat} (hk : k < y 0 0) : ∀ m, m ≤ y 0 0 → hp_sum (fun w => if hq_po y w < k + 1 then f w else 0) m = hp_sum (fun w => if hq_po y w < k then f w else 0) m + (if hq_tu y k < m then f (hq_tu y k) else 0) := by
  have hk1 := hq_tu_f hw hk
  intro m
  induction m with
  | zero => intro _; show 0 = 0 + (if hq_tu y k < 0 then _ else 0); rw [if_neg (by omega)]
  | succ m ih =>
    intro hm
    have h := ih (by omega)
    have hp := hq_po_f hw (w := m) (by omega)
    show hp_sum (fun w => if hq_po y w < k + 1 then f w else 0) m + (if hq_po y m < k + 1 then f m else 0) = hp_sum (fun w => if hq_po y w < k then f w else 0) m + (if hq_po y m < k then f m else 0) + (if hq_tu y k < m + 1 then f (hq_tu y k) else 0)
    rw [h]
    by_cases q : hq_po y m = k
    · have e : hq_tu y k = m := by rw [← q]; exact hp.2
      rw [e, if_neg (show ¬ m < m by omega), if_pos (show hq_po y m < k + 1 by omega), if_neg (show ¬ hq_po y m < k by omega), if_pos (show m < m + 1 by omega)]
    · have e : hq_tu y k ≠ m := fun z => q (by rw [← z]; exact hk1.2)
      by_cases q2 : hq_po y m < k
      · rw [if_pos (show hq_po y m < k + 1 by omega), if_pos q2]
        by_cases q3 : hq_tu y k < m
        · rw [if_pos q3, if_pos (show hq_tu y k < m + 1 by omega)]
          omega
        · rw [if_neg q3, if_neg (show ¬ hq_tu y k < m + 1 by omega)]
          omega
      · rw [if_neg (show ¬ hq_po y m < k + 1 by omega), if_neg q2]
        by_cases q3 : hq_tu y k < m
        · rw [if_pos q3, if_pos (show hq_tu y k < m + 1 by omega)]
          omega
        · rw [if_neg q3, if_neg (show ¬ hq_tu y k < m + 1 by omega)]
theorem hq_ps {y : Nat → Nat → Nat} (hw : hp_WF y) (f : Nat → Nat) : ∀ k, k ≤ y 0 0 → hp_sum (fun i => f (hq_tu y i)) k = hp_sum (fun w => if hq_po y w < k then f w else 0) (y 0 0) := by
  intro k
  induction k with
  | zero =>
    intro _
    have : hp_sum (fun w => if hq_po y w < 0 then f w else 0) (y 0 0) = hp_sum (fun _ => 0) (y 0 0) := hq_sum_congr _ (fun j _ => if_neg (by omega))
    rw [this]
    have z : ∀ n, hp_sum (fun _ => 0) n = 0 := by
      intro n
      induction n with
      | zero => rfl
      | succ n ih => show hp_sum (fun _ => 0) n + 0 = 0; rw [ih]
    rw [z]
    rfl
  | succ k ih =>
    intro hk
    show hp_sum (fun i => f (hq_tu y i)) k + f (hq_tu y k) = _
    rw [ih (by omega), hq_pick1 hw f (by omega) (y 0 0) (Nat.le_refl _), if_pos (hq_tu_f hw (by omega)).1]
theorem hq_ps_le {y : Nat → Nat → Nat} (hw : hp_WF y) (f : Nat → Nat) {k : Nat} (hk : k ≤ y 0 0) : hp_sum (fun i => f (hq_tu y i)) k ≤ hp_sum f (y 0 0) := by
  rw [hq_ps hw f k hk]
  refine hq_sum_mono _ (fun j _ => ?_)
  split <;> omega
theorem hq_ps_n {y : Nat → Nat → Nat} (hw : hp_WF y) (f : Nat → Nat) : hp_sum (fun i => f (hq_tu y i)) (y 0 0) = hp_sum f (y 0 0) := by
  rw [hq_ps hw f _ (Nat.le_refl _)]
  exact hq_sum_congr _ (fun j hj => if_pos (hq_po_f hw hj).1)
def hq_low (y : Nat → Nat → Nat) (v : Nat → Nat) (k : Nat) : Nat := if k = 0 ∨ k = y 8 0 then 0 else v (hq_tu y (k - 1)) + (if hq_tu y k < hq_tu y (k - 1) then 1 else 0)
theorem hq_low_ok {y : Nat → Nat → Nat} (hw : hp_WF y) {c : Nat → Nat} (h : hq_okc y c) {k : Nat} (hk : k < y 0 0) : hq_low y c k ≤ c (hq_tu y k) := by
  have h6 := hw.2.2.2.2.2.1
  unfold hq_low
  by_cases q : k = 0 ∨ k = y 8 0
  · rw [if_pos q]
    omega
  · rw [if_neg q]
    by_cases q2 : k < y 8 0
    · have e1 : hq_tu y k = y 6 k := by unfold hq_tu; rw [if_pos q2]
      have e2 : hq_tu y (k - 1) = y 6 (k - 1) := by unfold hq_tu; rw [if_pos (by omega)]
      have a : c (y 6 (k - 1)) + hp_cut y (fun j => j) 0 (k - 1) ≤ c (y 6 (k - 1 + 1)) := h.2.1 0 (by omega) (k - 1) (by omega)
      have a2 : hp_cut y (fun j => j) 0 (k - 1) = if y 6 (k - 1 + 1) < y 6 (k - 1) then 1 else 0 := rfl
      rw [a2, show k - 1 + 1 = k by omega] at a
      rw [e1, e2]
      exact a
    · have e1 : hq_tu y k = y 7 (k - y 8 0) := by unfold hq_tu; rw [if_neg q2]
      have e2 : hq_tu y (k - 1) = y 7 (k - 1 - y 8 0) := by unfold hq_tu; rw [if_neg (by omega)]
      have a : c (y 7 (k - 1 - y 8 0)) + hp_cut y (fun j => j) 1 (k - 1 - y 8 0) ≤ c (y 7 (k - 1 - y 8 0 + 1)) := h.2.1 1 (by omega) (k - 1 - y 8 0) (by omega)
      have a2 : hp_cut y (fun j => j) 1 (k - 1 - y 8 0) = if y 7 (k - 1 - y 8 0 + 1) < y 7 (k - 1 - y 8 0) then 1 else 0 := rfl
      rw [a2, show k - 1 - y 8 0 + 1 = k - y 8 0 by omega] at a
      rw [e1, e2]
      exact a
theorem hq_low_rt {y : Nat → Nat → Nat} (hw : hp_WF y) {v : Nat → Nat} (h : ∀ k, k < y 0 0 → hq_low y v k ≤ v (hq_tu y k)) : ∀ t, t < 2 → ∀ p, p + 1 < y 8 t → v (y (6 + t) p) + hp_cut y (fun j => j) t p ≤ v (y (6 + t) (p + 1)) := by
  have h6 := hw.2.2.2.2.2.1
  intro t ht p hp
  have tt : t = 0 ∨ t = 1 := by omega
  rcases tt with rfl | rfl
  · have e1 : hq_tu y (p + 1) = y 6 (p + 1) := by unfold hq_tu; rw [if_pos hp]
    have e2 : hq_tu y p = y 6 p := by unfold hq_tu; rw [if_pos (by omega)]
    have a := h (p + 1) (by omega)
    unfold hq_low at a
    rw [if_neg (by omega), show p + 1 - 1 = p by omega, e1, e2] at a
    exact a
  · have e1 : hq_tu y (y 8 0 + p + 1) = y 7 (p + 1) := by
      unfold hq_tu
      rw [if_neg (by omega), show y 8 0 + p + 1 - y 8 0 = p + 1 by omega]
    have e2 : hq_tu y (y 8 0 + p) = y 7 p := by
      unfold hq_tu
      rw [if_neg (by omega), show y 8 0 + p - y 8 0 = p by omega]
    have a := h (y 8 0 + p + 1) (by omega)
    unfold hq_low at a
    rw [if_neg (by omega), show y 8 0 + p + 1 - 1 = y 8 0 + p by omega, e1, e2] at a
    exact a
