/-! ===== pure words: numbers ===== -/
theorem hp_cl {k : Nat} (h : k < 2147483648) : (nI k).toNatClampNeg = k := nI_clamp h
theorem hp_ti {k : Nat} (h : k < 2147483648) : (nI k).toInt = (k : Int) := nI_toInt h
theorem hp_in {k n : Nat} (h : k < n) (hn : n ≤ 1000) : hy_in (nI k) n = true := by
  unfold hy_in
  rw [hp_cl (by omega)]
  have h1 : ¬ nI k < 0 := nI_pos (by omega)
  simp only [decide_eq_false h1, Bool.not_false, Bool.true_and, Nat.ble_eq]
  omega
theorem hp_in_of {a : Int32} {n : Nat} (h : hy_in a n = true) : ∃ k, k < n ∧ a = nI k := by
  have h1 := hy_in_pos h
  refine ⟨a.toNatClampNeg, h1, ?_⟩
  have h2 : ¬ a < 0 := fun q => by
    unfold hy_in at h
    simp [q] at h
  obtain ⟨j, hj, e⟩ := nI_of h2
  rw [e, hp_cl hj]
theorem hp_ofI {a : Int32} (h : 0 ≤ a.toInt) : ∃ k : Nat, k < 2147483648 ∧ a = nI k ∧ a.toInt = (k : Int) := by
  have h2 : ¬ a < 0 := by
    rw [Int32.lt_iff_toInt_lt, Int32.toInt_zero]
    omega
  obtain ⟨j, hj, e⟩ := nI_of h2
  exact ⟨j, hj, e, by rw [e]; exact nI_toInt hj⟩
theorem hp_inI {a : Int32} {n : Nat} (h0 : 0 ≤ a.toInt) (h : a.toInt < n) (hn : n ≤ 1000) : hy_in a n = true := by
  obtain ⟨k, hk, rfl, e⟩ := hp_ofI h0
  exact hp_in (by omega) hn
theorem hp_w (D : hy_M) (c i : Nat) (x : Int32) (c' j : Nat) : hy_w D c i x c' j = if c' = c ∧ j = i then x else D c' j := by
  unfold hy_w upd
  by_cases h : c' = c
  · subst h
    simp
  · simp [h]
theorem hp_ws (D : hy_M) (c i : Nat) (x : Int32) : hy_w D c i x c i = x := by rw [hp_w]; simp
theorem hp_wn {D : hy_M} {c i c' j : Nat} {x : Int32} (h : c' ≠ c ∨ j ≠ i) : hy_w D c i x c' j = D c' j := by
  rw [hp_w, if_neg]
  rintro ⟨a, b⟩
  rcases h with h | h <;> contradiction
theorem hp_isIn (N : Nat) (a : Int32) (lo hi : Int64) (D : hy_M) : F_X9_isIn N a.toInt64 lo hi D = some (if lo.toInt ≤ a.toInt ∧ a.toInt ≤ hi.toInt then 1 else 0, D) := by
  rw [F_X9_isIn_eq]
  have e : a.toInt64.toInt = a.toInt := by simp
  have h1 : lg_cmp a.toInt64 lo < 0 ↔ a.toInt < lo.toInt := by
    unfold lg_cmp
    simp only [gt_iff_lt, Int64.lt_iff_toInt_lt, ← Int64.toInt_inj, e]
    repeat' split
    all_goals simp only [Int32.lt_iff_toInt_lt]
    all_goals (try simp)
    all_goals omega
  have h2 : 0 < lg_cmp a.toInt64 hi ↔ hi.toInt < a.toInt := by
    unfold lg_cmp
    simp only [gt_iff_lt, Int64.lt_iff_toInt_lt, ← Int64.toInt_inj, e]
    repeat' split
    all_goals simp only [Int32.lt_iff_toInt_lt]
    all_goals (try simp)
    all_goals omega
  by_cases c1 : a.toInt < lo.toInt
  · rw [if_pos (h1.mpr c1), if_neg (by omega)]
  · rw [if_neg (fun q => c1 (h1.mp q))]
    by_cases c2 : hi.toInt < a.toInt
    · rw [if_pos (h2.mpr c2), if_neg (by omega)]
    · rw [if_neg (fun q => c2 (h2.mp q)), if_pos (by omega)]
/-! ===== the abstract yard: y i j, laid out as the class's own (0: wagons, brand, humped; 1 lengths, 2 codes, 3 trains, 4 places, 6 7 wanted, 8 sizes, 9 rooms, 12 .. 16 lanes, 17 counts) ===== -/
def hp_ub (i : Nat) : Nat := [3, 8, 8, 8, 8, 0, 8, 8, 2, 3, 0, 0, 8, 8, 8, 8, 8, 5].getD i 0
def hp_dom (y : Nat → Nat → Nat) (i j : Nat) : Prop := j < hp_ub i ∧ (12 ≤ i → i ≤ 16 → j < y 17 (i - 12))
/-- where the reference's row has it -/
def hp_pos (i j : Nat) : Nat := [0, 4, 12, 20, 0, 0, 30, 38, 28, 46, 0, 0, 70, 78, 86, 51, 59, 0].getD i 0 + (if i = 17 then (if j < 3 then 67 + j else 46 + j) else j)
/-- pulls: none while nothing is humped -/
def hp_pu (y : Nat → Nat → Nat) (pu : Int32) : Int32 := if y 0 2 = 0 then nI 0 else pu
def hp_CY (b : Nat) (y : Nat → Nat → Nat) (pu : Int32) (D : hy_M) : Prop := D b 3 = hp_pu y pu ∧ ∀ i j, hp_dom y i j → D (b + i) j = nI (y i j)
def hp_MY (c : Nat) (y : Nat → Nat → Nat) (pu : Int32) (D : hy_M) : Prop := D c 3 = hp_pu y pu ∧ ∀ i j, hp_dom y i j → i ≠ 4 → D c (hp_pos i j) = nI (y i j)
def hp_yw (y : Nat → Nat → Nat) (i j v : Nat) : Nat → Nat → Nat := fun i' j' => if i' = i ∧ j' = j then v else y i' j'
theorem hp_ub_lt {i j : Nat} (h : j < hp_ub i) : i < 18 ∧ j < 8 := by
  have h18 : i < 18 := by
    apply Classical.byContradiction
    intro hn
    have : hp_ub i = 0 := by
      unfold hp_ub
      rw [List.getD_eq_getElem?_getD, List.getElem?_eq_none (by simp; omega)]
      rfl
    omega
  have h8 : ∀ i, i < 18 → hp_ub i ≤ 8 := by decide +kernel
  exact ⟨h18, by have := h8 i h18; omega⟩
theorem hp_pos_injB : ((List.range 18).all fun i => (List.range 8).all fun j => (List.range 18).all fun i' => (List.range 8).all fun j' => !(decide (j < hp_ub i) && decide (j' < hp_ub i') && decide (i ≠ 4) && decide (i' ≠ 4) && decide (hp_pos i j = hp_pos i' j')) || (decide (i = i') && decide (j = j'))) = true := by decide +kernel
theorem hp_pos_inj (i : Nat) (h1 : i < 18) (j : Nat) (h2 : j < 8) (i' : Nat) (h3 : i' < 18) (j' : Nat) (h4 : j' < 8) (h5 : j < hp_ub i) (h6 : j' < hp_ub i') (h7 : i ≠ 4) (h8 : i' ≠ 4) (h9 : hp_pos i j = hp_pos i' j') : i = i' ∧ j = j' := by
  have h := List.all_eq_true.mp (List.all_eq_true.mp (List.all_eq_true.mp (List.all_eq_true.mp hp_pos_injB i (List.mem_range.mpr h1)) j (List.mem_range.mpr h2)) i' (List.mem_range.mpr h3)) j' (List.mem_range.mpr h4)
  simpa [h5, h6, h7, h8, h9] using h
theorem hp_pos_lt : ∀ i, i < 18 → ∀ j, j < 8 → j < hp_ub i → i ≠ 4 → hp_pos i j < 94 ∧ hp_pos i j ≠ 3 := by decide +kernel
theorem hp_dom_yw {y : Nat → Nat → Nat} {i j v i' j' : Nat} (hi : i ≠ 17) : hp_dom (hp_yw y i j v) i' j' ↔ hp_dom y i' j' := by
  unfold hp_dom
  have e : ∀ k, hp_yw y i j v 17 k = y 17 k := fun k => by
    unfold hp_yw
    rw [if_neg (by omega)]
  rw [e]
theorem hp_yw_s (y : Nat → Nat → Nat) (i j v : Nat) : hp_yw y i j v i j = v := by simp [hp_yw]
theorem hp_yw_n {y : Nat → Nat → Nat} {i j v i' j' : Nat} (h : i' ≠ i ∨ j' ≠ j) : hp_yw y i j v i' j' = y i' j' := by
  unfold hp_yw
  rw [if_neg]
  rintro ⟨a, b⟩
  rcases h with h | h <;> contradiction
theorem hp_pu_yw {y : Nat → Nat → Nat} {pu : Int32} {i j v : Nat} (h : ¬ (i = 0 ∧ j = 2)) : hp_pu (hp_yw y i j v) pu = hp_pu y pu := by
  unfold hp_pu
  rw [hp_yw_n (by omega)]
theorem hp_CY_fr {b : Nat} {y : Nat → Nat → Nat} {pu : Int32} {D D' : hy_M} (h : hp_CY b y pu D) (hf : ∀ c, b ≤ c → c < b + 18 → D' c = D c) : hp_CY b y pu D' :=
  ⟨by rw [hf b (by omega) (by omega)]; exact h.1, fun i j hd => by rw [hf (b + i) (by omega) (by have := (hp_ub_lt hd.1).1; omega)]; exact h.2 i j hd⟩
theorem hp_MY_fr {c : Nat} {y : Nat → Nat → Nat} {pu : Int32} {D D' : hy_M} (h : hp_MY c y pu D) (hf : D' c = D c) : hp_MY c y pu D' :=
  ⟨by rw [hf]; exact h.1, fun i j hd h4 => by rw [hf]; exact h.2 i j hd h4⟩
theorem hp_CY_w {b : Nat} {y : Nat → Nat → Nat} {pu : Int32} {D : hy_M} (i j v : Nat) (h : hp_CY b y pu D) (hi : i ≠ 17) (hj : j < hp_ub i) (hne : ¬ (i = 0 ∧ j = 2) := by omega) : hp_CY b (hp_yw y i j v) pu (hy_w D (b + i) j (nI v)) := by
  refine ⟨?_, fun i' j' hd => ?_⟩
  · rw [hp_pu_yw hne, hp_wn]
    · exact h.1
    · have : hp_ub 0 = 3 := by decide
      by_cases e : i = 0
      · subst e
        right
        omega
      · left
        omega
  · rw [hp_dom_yw hi] at hd
    by_cases e : i' = i ∧ j' = j
    · obtain ⟨rfl, rfl⟩ := e
      rw [hp_ws, hp_yw_s]
    · rw [hp_wn (by omega), hp_yw_n (by omega)]
      exact h.2 i' j' hd
theorem hp_MY_w {c : Nat} {y : Nat → Nat → Nat} {pu : Int32} {D : hy_M} (i j v : Nat) (h : hp_MY c y pu D) (hi : i ≠ 17) (h4 : i ≠ 4) (hj : j < hp_ub i) (hne : ¬ (i = 0 ∧ j = 2) := by omega) : hp_MY c (hp_yw y i j v) pu (hy_w D c (hp_pos i j) (nI v)) := by
  have hb := hp_ub_lt hj
  refine ⟨?_, fun i' j' hd h4' => ?_⟩
  · rw [hp_pu_yw hne, hp_wn]
    · exact h.1
    · right
      exact fun q => (hp_pos_lt i hb.1 j hb.2 hj h4).2 q.symm
  · rw [hp_dom_yw hi] at hd
    by_cases e : i' = i ∧ j' = j
    · obtain ⟨rfl, rfl⟩ := e
      rw [hp_ws, hp_yw_s]
    · have hb' := hp_ub_lt hd.1
      rw [hp_wn, hp_yw_n (by omega)]
      · exact h.2 i' j' hd h4'
      · right
        intro q
        have := hp_pos_inj i' hb'.1 j' hb'.2 i hb.1 j hb.2 hd.1 hj h4' h4 q
        omega
/-- writing the place that only the class has -/
theorem hp_MY_4 {c : Nat} {y : Nat → Nat → Nat} {pu : Int32} {D : hy_M} (j v : Nat) (h : hp_MY c y pu D) : hp_MY c (hp_yw y 4 j v) pu D := by
  refine ⟨by rw [hp_pu_yw (by omega)]; exact h.1, fun i' j' hd h4' => ?_⟩
  rw [hp_dom_yw (by omega)] at hd
  rw [hp_yw_n (by omega)]
  exact h.2 i' j' hd h4'
/-- a yard as it may be -/
def hp_WF (y : Nat → Nat → Nat) : Prop :=
  y 0 0 ≤ 8 ∧ y 0 1 < 4 ∧ y 0 2 ≤ 1 ∧ (∀ w, w < 8 → y 1 w ≤ 3 ∧ y 2 w < 8 ∧ y 3 w < 2) ∧ (∀ t, t < 2 → ∀ j, j < 8 → y (6 + t) j < 8) ∧ y 8 0 + y 8 1 = y 0 0 ∧ (∀ t, t < 3 → y 9 t ≤ 24) ∧
  (∀ w, w < y 0 0 → 1 ≤ y 1 w ∧ y 4 w < y 8 (y 3 w) ∧ y (6 + y 3 w) (y 4 w) = w) ∧ (∀ t, t < 2 → ∀ j, j < y 8 t → y (6 + t) j < y 0 0 ∧ y 3 (y (6 + t) j) = t ∧ y 4 (y (6 + t) j) = j) ∧
  y 17 0 + y 17 1 + y 17 2 + y 17 3 + y 17 4 = (if y 0 2 = 0 then 0 else y 0 0) ∧ (∀ l, l < 5 → ∀ j, j < y 17 l → y (12 + l) j < y 0 0 ∧ (3 ≤ l → y 3 (y (12 + l) j) = l - 3))
/-! what else there is: the image, the tape, the paper, the lists -/
def hp_W1 (yk : Nat → Nat → Nat) (fl T P : Nat) (tp pp : Nat → Nat) (ls : Nat → Int32) : Prop := fl ≤ 1 ∧ (fl = 1 → hp_WF yk) ∧ T ≤ 40 ∧ (∀ j, j < T → 1 ≤ tp j ∧ tp j ≤ 127) ∧ P ≤ 71 ∧ (∀ j, j < P → pp j < 128) ∧ (∀ l, l < 4 → -1 ≤ (ls l).toInt ∧ (ls l).toInt ≤ 12)
def hp_C1 (yk : Nat → Nat → Nat) (pk : Int32) (fl T P : Nat) (tp pp : Nat → Nat) (ls : Nat → Int32) (lc : Nat → Nat → Int32) (D : hy_M) : Prop := D 0 2 = nI fl ∧ (fl = 1 → hp_CY 19 yk pk D) ∧ D 37 1 = nI T ∧ (∀ j, j < T → D 38 j = nI (tp j)) ∧ D 39 1 = nI P ∧ (∀ j, j < P → D 40 j = nI (pp j)) ∧ (∀ l, l < 4 → D 47 l = ls l ∧ ∀ j : Nat, (j : Int) < (ls l).toInt → D (43 + l) j = lc l j) ∧ (∀ t, t < 3 → D 52 t = 0) ∧ ∀ j, j < 8 → D 1000 j = nI j
def hp_M1 (yk : Nat → Nat → Nat) (pk : Int32) (fl T P : Nat) (tp pp : Nat → Nat) (ls : Nat → Int32) (lc : Nat → Nat → Int32) (D : hy_M) : Prop := D 67 3 = nI fl ∧ (fl = 1 → hp_MY 69 yk pk D) ∧ D 67 5 = nI T ∧ (∀ j, j < T → D 71 j = nI (tp j)) ∧ D 67 16 = nI P ∧ (∀ j, j < P → D 77 j = nI (pp j)) ∧ (∀ l, l < 4 → D 80 l = ls l ∧ ∀ j : Nat, (j : Int) < (ls l).toInt → D 79 (12 * l + j) = lc l j) ∧ D 67 14 = 0
/-- all of it -/
abbrev hp_T : Type := (Nat → Nat → Nat) × Int32 × (Nat → Nat → Nat) × Int32 × Nat × Nat × Nat × (Nat → Nat) × (Nat → Nat) × (Nat → Int32) × (Nat → Nat → Int32)
def hp_V : hp_T → Prop
  | (y, _, yk, _, fl, T, P, tp, pp, ls, _) => hp_WF y ∧ hp_W1 yk fl T P tp pp ls
/-- the class's memory holds it; the reference's does -/
def hp_X : hp_T → hy_M → Prop
  | (y, pu, yk, pk, fl, T, P, tp, pp, ls, lc), D => hp_CY 1 y pu D ∧ hp_C1 yk pk fl T P tp pp ls lc D
def hp_R : hp_T → hy_M → Prop
  | (y, pu, yk, pk, fl, T, P, tp, pp, ls, lc), D => hp_MY 68 y pu D ∧ hp_M1 yk pk fl T P tp pp ls lc D
def hp_Inv (D : hy_M) : Prop := ∃ q : hp_T, hp_V q ∧ hp_X q D ∧ hp_R q D
def hp_cx {α : Type} (f : hy_M → Option (α × hy_M)) (q : hp_T) (r : α) (q' : hp_T) : Prop := ∀ D, hp_X q D → ∃ D1, f D = some (r, D1) ∧ hp_X q' D1 ∧ ∀ c, 67 ≤ c → c < 1000 → D1 c = D c
def hp_cm {α : Type} (f : hy_M → Option (α × hy_M)) (q : hp_T) (r : α) (q' : hp_T) : Prop := ∀ D, hp_R q D → ∃ D1, f D = some (r, D1) ∧ hp_R q' D1 ∧ ∀ c, (c < 67 ∨ 1000 ≤ c) → D1 c = D c
/-- one step of the law -/
def hp_step {α : Type} (fx fm : hy_M → Option (α × hy_M)) : Prop := ∀ q, hp_V q → ∃ r q', hp_V q' ∧ hp_cx fx q r q' ∧ hp_cm fm q r q'
/-! frames -/
/-- the class's scratch alone changed -/
def hp_sc (D D' : hy_M) : Prop := ∀ c, ¬ (48 ≤ c ∧ c < 67 ∧ c ≠ 52) → D' c = D c
/-- the reference's scratch alone changed -/
def hp_sm (D D' : hy_M) : Prop := (∀ c, (c < 67 ∨ c = 68 ∨ c = 69 ∨ c = 71 ∨ c = 77 ∨ 79 ≤ c) → D' c = D c) ∧ ∀ j, (j < 11 ∨ 14 ≤ j) → D' 67 j = D 67 j
theorem hp_sc_rf (D : hy_M) : hp_sc D D := fun _ _ => rfl
theorem hp_sm_rf (D : hy_M) : hp_sm D D := ⟨fun _ _ => rfl, fun _ _ => rfl⟩
theorem hp_sc_tr {A B C : hy_M} (h : hp_sc A B) (k : hp_sc B C) : hp_sc A C := fun c hc => (k c hc).trans (h c hc)
theorem hp_sm_tr {A B C : hy_M} (h : hp_sm A B) (k : hp_sm B C) : hp_sm A C := ⟨fun c hc => (k.1 c hc).trans (h.1 c hc), fun j hj => (k.2 j hj).trans (h.2 j hj)⟩
theorem hp_sc_w {D : hy_M} {c i : Nat} {x : Int32} (h : 48 ≤ c ∧ c < 67 ∧ c ≠ 52) : hp_sc D (hy_w D c i x) := fun c' hc => hy_w_ne (fun e => hc (e ▸ h))
theorem hp_sm_w {D : hy_M} {c i : Nat} {x : Int32} (h : c = 70 ∨ (72 ≤ c ∧ c ≤ 76) ∨ c = 78) : hp_sm D (hy_w D c i x) := ⟨fun c' hc => hy_w_ne (by omega), fun j _ => hp_wn (Or.inl (by omega))⟩
theorem hp_sm_w67 {D : hy_M} {i : Nat} {x : Int32} (h : 11 ≤ i ∧ i < 14) : hp_sm D (hy_w D 67 i x) := ⟨fun c' hc => hy_w_ne (by omega), fun j _ => hp_wn (Or.inr (by omega))⟩
theorem hp_C1_fr {yk : Nat → Nat → Nat} {pk : Int32} {fl T P : Nat} {tp pp : Nat → Nat} {ls : Nat → Int32} {lc : Nat → Nat → Int32} {D D' : hy_M} (h : hp_C1 yk pk fl T P tp pp ls lc D) (hf : ∀ c, (c = 0 ∨ (19 ≤ c ∧ c < 48) ∨ c = 52 ∨ c = 1000) → D' c = D c) : hp_C1 yk pk fl T P tp pp ls lc D' := by
  obtain ⟨h1, h2, h3, h4, h5, h6, h7, h8, h9⟩ := h
  refine ⟨by rw [hf 0 (by omega)]; exact h1, fun e => hp_CY_fr (h2 e) (fun c a b => hf c (by omega)), by rw [hf 37 (by omega)]; exact h3, fun j hj => by rw [hf 38 (by omega)]; exact h4 j hj, by rw [hf 39 (by omega)]; exact h5, fun j hj => by rw [hf 40 (by omega)]; exact h6 j hj, fun l hl => ⟨by rw [hf 47 (by omega)]; exact (h7 l hl).1, fun j hj => by rw [hf (43 + l) (by omega)]; exact (h7 l hl).2 j hj⟩, fun t ht => by rw [hf 52 (by omega)]; exact h8 t ht, fun j hj => by rw [hf 1000 (by omega)]; exact h9 j hj⟩
theorem hp_M1_fr {yk : Nat → Nat → Nat} {pk : Int32} {fl T P : Nat} {tp pp : Nat → Nat} {ls : Nat → Int32} {lc : Nat → Nat → Int32} {D D' : hy_M} (h : hp_M1 yk pk fl T P tp pp ls lc D) (hf : ∀ c, (c = 69 ∨ c = 71 ∨ c = 77 ∨ c = 79 ∨ c = 80) → D' c = D c) (h67 : ∀ j, (j = 3 ∨ j = 5 ∨ j = 14 ∨ j = 16) → D' 67 j = D 67 j) : hp_M1 yk pk fl T P tp pp ls lc D' := by
  obtain ⟨h1, h2, h3, h4, h5, h6, h7, h8⟩ := h
  refine ⟨by rw [h67 3 (by omega)]; exact h1, fun e => hp_MY_fr (h2 e) (hf 69 (by omega)), by rw [h67 5 (by omega)]; exact h3, fun j hj => by rw [hf 71 (by omega)]; exact h4 j hj, by rw [h67 16 (by omega)]; exact h5, fun j hj => by rw [hf 77 (by omega)]; exact h6 j hj, fun l hl => ⟨by rw [hf 80 (by omega)]; exact (h7 l hl).1, fun j hj => by rw [hf 79 (by omega)]; exact (h7 l hl).2 j hj⟩, by rw [h67 14 (by omega)]; exact h8⟩
theorem hp_X_fr {q : hp_T} {D D' : hy_M} (h : hp_X q D) (hs : ∀ c, (c < 48 ∨ c = 52 ∨ c = 1000) → D' c = D c) : hp_X q D' := by
  obtain ⟨y, pu, yk, pk, fl, T, P, tp, pp, ls, lc⟩ := q
  exact ⟨hp_CY_fr h.1 (fun c a b => hs c (by omega)), hp_C1_fr h.2 (fun c a => hs c (by omega))⟩
theorem hp_R_fr {q : hp_T} {D D' : hy_M} (h : hp_R q D) (hs : ∀ c, (67 ≤ c ∧ c < 1000) → D' c = D c) : hp_R q D' := by
  obtain ⟨y, pu, yk, pk, fl, T, P, tp, pp, ls, lc⟩ := q
  exact ⟨hp_MY_fr h.1 (hs 68 (by omega)), hp_M1_fr h.2 (fun c a => hs c (by omega)) (fun j hj => by rw [hs 67 (by omega)])⟩
theorem hp_X_sc {q : hp_T} {D D' : hy_M} (h : hp_X q D) (hs : hp_sc D D') : hp_X q D' := hp_X_fr h (fun c a => hs c (by omega))
theorem hp_R_sm {q : hp_T} {D D' : hy_M} (h : hp_R q D) (hs : hp_sm D D') : hp_R q D' := by
  obtain ⟨y, pu, yk, pk, fl, T, P, tp, pp, ls, lc⟩ := q
  exact ⟨hp_MY_fr h.1 (hs.1 68 (by omega)), hp_M1_fr h.2 (fun c a => hs.1 c (by omega)) (fun j hj => hs.2 j (by omega))⟩
theorem hp_go {α : Type} {fx fm : hy_M → Option (α × hy_M)} (h : hp_step fx fm) {D : hy_M} (hI : hp_Inv D) : ∃ r D1 D2, fx D = some (r, D1) ∧ fm D1 = some (r, D2) ∧ hp_Inv D2 := by
  obtain ⟨q, hV, hX, hR⟩ := hI
  obtain ⟨r, q', hV', hx, hm⟩ := h q hV
  obtain ⟨D1, e1, hX1, f1⟩ := hx D hX
  obtain ⟨D2, e2, hR2, f2⟩ := hm D1 (hp_R_fr hR (fun c hc => f1 c hc.1 hc.2))
  exact ⟨r, D1, D2, e1, e2, q', hV', hp_X_fr hX1 (fun c hc => f2 c (by omega)), hR2⟩
/-- a question's two sides -/
theorem hp_qx {α : Type} {f : hy_M → Option (α × hy_M)} {q : hp_T} {r : α} (h : ∀ D, hp_X q D → ∃ D1, f D = some (r, D1) ∧ hp_sc D D1) : hp_cx f q r q := fun D hX => by
  obtain ⟨D1, e, s⟩ := h D hX
  exact ⟨D1, e, hp_X_sc hX s, fun c a b => s c (by omega)⟩
theorem hp_qm {α : Type} {f : hy_M → Option (α × hy_M)} {q : hp_T} {r : α} (h : ∀ D, hp_R q D → ∃ D1, f D = some (r, D1) ∧ hp_sm D D1) : hp_cm f q r q := fun D hR => by
  obtain ⟨D1, e, s⟩ := h D hR
  exact ⟨D1, e, hp_R_sm hR s, fun c a => s.1 c (by omega)⟩
theorem hp_qx0 {α : Type} {f : hy_M → Option (α × hy_M)} {q : hp_T} {r : α} (h : ∀ D, hp_X q D → f D = some (r, D)) : hp_cx f q r q := hp_qx (fun D hX => ⟨D, h D hX, hp_sc_rf D⟩)
theorem hp_qm0 {α : Type} {f : hy_M → Option (α × hy_M)} {q : hp_T} {r : α} (h : ∀ D, hp_R q D → f D = some (r, D)) : hp_cm f q r q := hp_qm (fun D hR => ⟨D, h D hR, hp_sm_rf D⟩)
/-! ===== numbers, for simp ===== -/
theorem hp_inN {k n : Nat} (hk : k < 2147483648) : (hy_in (nI k) n = true) = (k < n) := by
  apply propext
  refine ⟨fun h => by have := hy_in_pos h; rw [hp_cl hk] at this; exact this, fun h => ?_⟩
  unfold hy_in
  rw [hp_cl hk]
  have h1 : ¬ nI k < 0 := nI_pos hk
  simp only [decide_eq_false h1, Bool.not_false, Bool.true_and, Nat.ble_eq]
  omega
theorem hp_ltN {a b : Nat} (ha : a < 2147483648) (hb : b < 2147483648) : (nI a < nI b) = (a < b) := propext (nI_ltI ha hb)
theorem hp_eqN {a b : Nat} (ha : a < 2147483648) (hb : b < 2147483648) : (nI a = nI b) = (a = b) := propext (nI_eq ha hb)
theorem hp_kN (m : Nat) : (OfNat.ofNat m : Int32) = nI m := rfl
theorem hp_arg (a : Int32) : (a < 0 ∧ a < nI 0 ∧ a.toInt < 0) ∨ ∃ k, k < 2147483648 ∧ a = nI k := by
  by_cases h : a < 0
  · exact Or.inl ⟨h, h, by rw [Int32.lt_iff_toInt_lt] at h; simpa using h⟩
  · obtain ⟨k, hk, e⟩ := nI_of h
    exact Or.inr ⟨k, hk, e⟩
theorem hp_m1 {P : Nat} (h : P < 1000000) : (nI P - nI 1).toInt = (P : Int) - 1 := by
  have := pk_sub_toInt (a := P) (b := 1) (by omega) (by omega)
  rw [this]
  rfl
theorem hp_isInM (N : Nat) (a : Int32) (lo : Int64) {P : Nat} (h : P < 1000000) (D : hy_M) : F_X9_isIn N a.toInt64 lo (nI P - nI 1).toInt64 D = some (if lo.toInt ≤ a.toInt ∧ a.toInt < P then nI 1 else nI 0, D) := by
  rw [hp_isIn]
  have e : (nI P - nI 1).toInt64.toInt = (P : Int) - 1 := by
    rw [← hp_m1 h]
    simp
  rw [e]
  simp only [Int.le_sub_one_iff]
  rfl
theorem hp_isInN (N : Nat) {k : Nat} (hk : k < 2147483648) (lo hi : Int64) (D : hy_M) : F_X9_isIn N (nI k).toInt64 lo hi D = some (if lo.toInt ≤ (k : Int) ∧ (k : Int) ≤ hi.toInt then nI 1 else nI 0, D) := by
  rw [hp_isIn, hp_ti hk]
  rfl
theorem hp_isInMN (N : Nat) {k P : Nat} (hk : k < 2147483648) (h : P < 1000000) (lo : Int64) (D : hy_M) : F_X9_isIn N (nI k).toInt64 lo (nI P - nI 1).toInt64 D = some (if lo.toInt ≤ (k : Int) ∧ k < P then nI 1 else nI 0, D) := by
  rw [hp_isInM N _ lo h, hp_ti hk]
  have e : (((k : Int) < (P : Int)) ↔ k < P) := by omega
  simp only [e]
theorem hp_isIng (N : Nat) {a : Int32} (ha : a.toInt < 0) (lo hi : Int64) (hlo : 0 ≤ lo.toInt) (D : hy_M) : F_X9_isIn N a.toInt64 lo hi D = some (nI 0, D) := by
  rw [hp_isIn, if_neg (by omega)]
  rfl
theorem hp_m1L {P : Nat} (h : P < 1000000) : (nI P - nI 1).toInt64.toInt = (P : Int) - 1 := by
  rw [← hp_m1 h]
  simp
theorem hp_l0 : (0 : Int64).toInt = 0 := rfl
theorem hp_l1 : (1 : Int64).toInt = 1 := rfl
theorem hp_l2 : (2 : Int64).toInt = 2 := rfl
theorem hp_l3 : (3 : Int64).toInt = 3 := rfl
theorem hp_l4 : (4 : Int64).toInt = 4 := rfl
theorem hp_l5 : (5 : Int64).toInt = 5 := rfl
theorem hp_l7 : (7 : Int64).toInt = 7 := rfl
theorem hp_l8 : (8 : Int64).toInt = 8 := rfl
theorem hp_l10 : (10 : Int64).toInt = 10 := rfl
theorem hp_l17 : (17 : Int64).toInt = 17 := rfl
theorem hp_l20 : (20 : Int64).toInt = 20 := rfl
theorem hp_l24 : (24 : Int64).toInt = 24 := rfl
theorem hp_l48 : (48 : Int64).toInt = 48 := rfl
theorem hp_l50 : (50 : Int64).toInt = 50 := rfl
theorem hp_l55 : (55 : Int64).toInt = 55 := rfl
theorem hp_l127 : (127 : Int64).toInt = 127 := rfl
theorem hp_lm1 : (-1 : Int64).toInt = -1 := rfl
