/-! ===== numbers, for simp ===== -/
theorem hp_inN {k n : Nat} (hk : k < 2147483648) : (hy_in (nI k) n = true) = (k < n) := by
  apply propext
  refine ⟨fun h => by have := hy_in_pos h; rw [hp_cl hk] at this; exact this, fun h => ?_⟩
  unfold hy_in
  rw [hp_cl hk]
  have h1 : ¬ nI k < 0 := nI_pos hk
  simp only [decide_eq_false h1, Bool.not_false, Bool.true_and, Nat.ble_eq]
  omega
theorem hp_ltN {a b : Nat} (ha : a < 2147483648) (hb : b < 2147483648) : (nI a < nI b) = (a < b) := propext (nI_ltI ha hb)
theorem hp_eqN {a b : Nat} (ha : a < 2147483648) (hb : b < 2147483648) : (nI a = nI b) = (a = b) := propext (nI_eq ha hb)
theorem hp_kN (m : Nat) : (OfNat.ofNat m : Int32) = nI m := rfl
theorem hp_arg (a : Int32) : (a < 0 ∧ a.toInt < 0) ∨ ∃ k, k < 2147483648 ∧ a = nI k := by
  by_cases h : a < 0
  · exact Or.inl ⟨h, by rw [Int32.lt_iff_toInt_lt] at h; simpa using h⟩
  · obtain ⟨k, hk, e⟩ := nI_of h
    exact Or.inr ⟨k, hk, e⟩
theorem hp_m1 {P : Nat} (h : P < 1000000) : (nI P - 1).toInt = (P : Int) - 1 := by
  have := pk_sub_toInt (a := P) (b := 1) (by omega) (by omega)
  rw [show (1 : Int32) = nI 1 from rfl, this]
  rfl
theorem hp_isInM (N : Nat) (a : Int32) (lo : Int64) {P : Nat} (h : P < 1000000) (D : hy_M) : F_X9_isIn N a.toInt64 lo (nI P - 1).toInt64 D = some (if lo.toInt ≤ a.toInt ∧ a.toInt < P then 1 else 0, D) := by
  rw [hp_isIn]
  have e : (nI P - 1).toInt64.toInt = (P : Int) - 1 := by
    rw [← hp_m1 h]
    simp
  rw [e]
  congr 2
  simp only [Int.le_sub_one_iff]
theorem st_paper (N : Nat) (a : Int32) : hp_stepI (F_X8_paper N a) (F_X9_paper N a) := by
  intro D h
  obtain ⟨y, pu, yk, pk, fl, T, P, tp, pp, ls, lc, hw, hw1, hc, hm⟩ := id h
  have hP : D 39 1 = nI P := hc.2.2.2.2.2.1
  have hP2 : D 67 16 = nI P := hm.2.2.2.2.2.1
  have hPle : P ≤ 71 := hw1.2.2.2.2.1
  have h40 : ∀ j, j < P → D 40 j = nI (pp j) := hc.2.2.2.2.2.2.1
  have h77 : ∀ j, j < P → D 77 j = nI (pp j) := hm.2.2.2.2.2.2.1
  rcases hp_arg a with ⟨a1, a2⟩ | ⟨k, hk, rfl⟩
  · refine hp_ask0 h (r := -1) ?_ ?_
    · rw [F_X8_paper_eq, if_pos a1]
    · rw [F_X9_paper_eq, hP2, hp_isInM N a 0 (by omega), if_neg (by simp; omega)]
      rfl
  · by_cases c : k < P
    · refine hp_ask0 h (r := nI (pp k)) ?_ ?_
      · rw [F_X8_paper_eq, hP]
        simp (disch := omega) only [hp_kN, hp_ltN, hp_inN, hp_cl, if_pos, if_neg, h40]
      · rw [F_X9_paper_eq, hP2, hp_isInM N _ 0 (by omega)]
        have e0 : (0 : Int64).toInt = 0 := rfl
        simp (disch := omega) only [e0, hp_ti, if_pos, if_neg, Option.bind_some]
        simp (disch := omega) only [hp_kN, hp_eqN, hp_ltN, hp_inN, hp_cl, if_pos, if_neg, h77]
    · refine hp_ask0 h (r := -1) ?_ ?_
      · rw [F_X8_paper_eq, hP]
        simp (disch := omega) only [hp_kN, hp_ltN, hp_inN, hp_cl, if_pos, if_neg, h40]
      · rw [F_X9_paper_eq, hP2, hp_isInM N _ 0 (by omega)]
        have e0 : (0 : Int64).toInt = 0 := rfl
        simp (disch := omega) only [e0, hp_ti, if_pos, if_neg, Option.bind_some]
        rfl
theorem hp_isInN (N : Nat) {k : Nat} (hk : k < 2147483648) (lo hi : Int64) (D : hy_M) : F_X9_isIn N (nI k).toInt64 lo hi D = some (if lo.toInt ≤ (k : Int) ∧ (k : Int) ≤ hi.toInt then nI 1 else nI 0, D) := by
  rw [hp_isIn, hp_ti hk]
  rfl
theorem hp_isInMN (N : Nat) {k P : Nat} (hk : k < 2147483648) (h : P < 1000000) (lo : Int64) (D : hy_M) : F_X9_isIn N (nI k).toInt64 lo (nI P - 1).toInt64 D = some (if lo.toInt ≤ (k : Int) ∧ k < P then nI 1 else nI 0, D) := by
  rw [hp_isInM N _ lo h, hp_ti hk]
  have e : (((k : Int) < (P : Int)) ↔ k < P) := by omega
  simp only [e]
  rfl
theorem hp_isInneg (N : Nat) {a : Int32} (ha : a.toInt < 0) (lo hi : Int64) (hlo : 0 ≤ lo.toInt) (D : hy_M) : F_X9_isIn N a.toInt64 lo hi D = some (nI 0, D) := by
  rw [hp_isIn, if_neg (by omega)]
  rfl
/-- the class clears -/
theorem hp_clX (N : Nat) (hN : 10 ≤ N) (D : hy_M) : F_X7_becomeCleared N D = some (hy_w (hy_w (hy_w (hy_w (hy_w (hy_w (hy_w D 18 0 0) 18 1 0) 18 2 0) 18 3 0) 18 4 0) 1 2 0) 1 3 0) := by
  obtain ⟨n, rfl⟩ : ∃ n, N = n + 10 := ⟨N - 10, by omega⟩
  rw [F_X7_becomeCleared_eq, F_X2_empty_eq]
  simp (disch := omega) only [F_X2_empty_2_eq, hp_kN, nI_add, hp_ltN, hp_inN, hp_cl, if_pos, if_neg, Option.bind_some]
theorem hp_clM (N : Nat) (hN : 10 ≤ N) (D : hy_M) : F_X9_clears N D = some (hy_w (hy_w (hy_w (hy_w (hy_w (hy_w (hy_w D 68 2 0) 68 3 0) 68 49 0) 68 50 0) 68 67 0) 68 68 0) 68 69 0) := by
  obtain ⟨n, rfl⟩ : ∃ n, N = n + 10 := ⟨N - 10, by omega⟩
  rw [F_X9_clears_eq]
  simp (disch := omega) only [F_X9_clears_16_eq, F_X9_clears_39_eq, hp_kN, nI_add, hp_ltN, hp_inN, hp_cl, if_pos, if_neg, Option.bind_some]
