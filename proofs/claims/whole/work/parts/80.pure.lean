/-! ===== mean ===== -/
theorem hp_md_t : ((List.range 41).all fun b => (List.range 41).all fun a => decide (a = 0) || (decide (nI b - nI b / nI a * nI a = nI (b % a)) && decide ((nI b).toInt64 - (nI b).toInt64 / (nI a).toInt64 * (nI a).toInt64 = (nI (b % a)).toInt64) && decide ((nI b / nI a).toInt64 = (nI (b / a)).toInt64) && decide ((nI b).toInt64 / (nI a).toInt64 = (nI (b / a)).toInt64))) = true := by decide +kernel
theorem hp_md {a b : Nat} (hb : b < 41) (ha : a < 41) (h0 : a ≠ 0) : nI b - nI b / nI a * nI a = nI (b % a) ∧ (nI b).toInt64 - (nI b).toInt64 / (nI a).toInt64 * (nI a).toInt64 = (nI (b % a)).toInt64 ∧ (nI b / nI a).toInt64 = (nI (b / a)).toInt64 ∧ (nI b).toInt64 / (nI a).toInt64 = (nI (b / a)).toInt64 := by
  have h := hp_all1 (hp_all1 hp_md_t hb) ha
  simp only [h0, decide_false, Bool.false_or, Bool.and_eq_true, decide_eq_true_eq] at h
  obtain ⟨⟨⟨h1, h2⟩, h3⟩, h4⟩ := h
  exact ⟨h1, h2, h3, h4⟩
theorem hp_z_t : ((List.range 41).all fun a => decide (lg_cmp (nI a).toInt64 0 = 0 ↔ a = 0) && decide ((nI a).toInt64 = 0 ↔ a = 0)) = true := by decide +kernel
theorem hp_z1 {a : Nat} (h : a < 41) : (lg_cmp (nI a).toInt64 0 = 0) = (a = 0) := by
  have := hp_all1 hp_z_t h
  simp only [Bool.and_eq_true, decide_eq_true_eq] at this
  exact propext this.1
theorem hp_z2 {a : Nat} (h : a < 41) : ((nI a).toInt64 = 0) = (a = 0) := by
  have := hp_all1 hp_z_t h
  simp only [Bool.and_eq_true, decide_eq_true_eq] at this
  exact propext this.2
theorem hp_gcX (N : Nat) (v0 v1 v2 : Int32) (D : hy_M) : ∀ a b i n, a < 41 → b < 41 → a + i < 90 → a < n → F_X8_partOfLowest_8 N n v0 v1 v2 (nI a) (nI b) (nI i) D = F_X8_partOfLowest_37 N v0 v1 v2 (nI (Nat.gcd a b)) D := by
  intro a
  induction a using Nat.strongRecOn with
  | _ a ih =>
    intro b i n ha hb hi hn
    obtain ⟨n, rfl⟩ : ∃ n', n = n' + 1 := ⟨n - 1, by omega⟩
    rw [F_X8_partOfLowest_8_eq]
    by_cases h0 : a = 0
    · subst h0
      rw [Nat.gcd_zero_left]
      clear ih
      simp (disch := omega) only [hp_kN, nI_add, pk_mul, hp_isInN, hp_m1L, hp_l0, hp_l1, hp_l2, hp_l3, hp_l4, hp_l5, hp_l7, hp_l8, hp_l10, hp_l17, hp_l20, hp_l24, hp_l48, hp_l50, hp_l55, hp_l127, hp_lm1, hp_eqN, hp_ltN, hp_inN, hp_cl, if_pos, if_neg, if_true, if_false, Option.bind_some]
    · have hm := Nat.mod_lt b (show 0 < a by omega)
      have k := ih (b % a) hm a (i + 1) n (by omega) ha (by omega) (by omega)
      rw [Nat.gcd_rec a b, ← k]
      have e := (hp_md hb ha h0).1
      clear ih k
      simp (disch := omega) only [hp_kN, nI_add, pk_mul, hp_isInN, hp_m1L, hp_l0, hp_l1, hp_l2, hp_l3, hp_l4, hp_l5, hp_l7, hp_l8, hp_l10, hp_l17, hp_l20, hp_l24, hp_l48, hp_l50, hp_l55, hp_l127, hp_lm1, hp_eqN, hp_ltN, hp_inN, hp_cl, if_pos, if_neg, if_true, if_false, Option.bind_some, e]
theorem hp_gcM (N : Nat) (D : hy_M) : ∀ b a n, b < 41 → a < 41 → b < n → F_X9_common_6 N n (nI a).toInt64 (nI b).toInt64 D = some ((nI (Nat.gcd b a)).toInt64, D) := by
  intro b
  induction b using Nat.strongRecOn with
  | _ b ih =>
    intro a n hb ha hn
    obtain ⟨n, rfl⟩ : ∃ n', n = n' + 1 := ⟨n - 1, by omega⟩
    rw [F_X9_common_6_eq]
    by_cases h0 : b = 0
    · subst h0
      rw [Nat.gcd_zero_left, if_pos ((hp_z1 (by omega)).mpr rfl)]
    · have hm := Nat.mod_lt a (show 0 < b by omega)
      have k := ih (a % b) hm b n (by omega) hb (by omega)
      rw [Nat.gcd_rec b a, ← k, if_neg (fun q => h0 ((hp_z1 hb).mp q)), if_neg (fun q => h0 ((hp_z2 hb).mp q)), (hp_md ha hb h0).2.1]
/-- above / below in lowest terms, both sides -/
def hp_low (a b p : Nat) : Int64 := if p = 0 then (nI (a / Nat.gcd a b)).toInt64 else (nI (b / Nat.gcd a b)).toInt64
theorem hp_loX8 (N : Nat) (hN : 100 ≤ N) {a b p : Nat} (ha : a < 41) (hb : b < 41) (hb1 : 1 ≤ b) (hp : p < 2) (D : hy_M) : F_X8_partOfLowest N (nI a) (nI b) (nI p) D = some (hp_low a b p, D) := by
  have g1 : 1 ≤ Nat.gcd a b := Nat.gcd_pos_of_pos_right a (by omega)
  have g2 : Nat.gcd a b ≤ b := Nat.gcd_le_right a (by omega)
  rw [F_X8_partOfLowest_eq]
  have k := hp_gcX N (nI a) (nI b) (nI p) D a b 0 N ha hb (by omega) (by omega)
  have e1 := (hp_md ha (show Nat.gcd a b < 41 by omega) (by omega)).2.2.1
  have e2 := (hp_md hb (show Nat.gcd a b < 41 by omega) (by omega)).2.2.1
  refine k.trans ?_
  rw [F_X8_partOfLowest_37_eq]
  unfold hp_low
  rcases (show p = 0 ∨ p = 1 by omega) with rfl | rfl
  · simp (disch := omega) only [hp_kN, nI_add, pk_mul, hp_isInN, hp_m1L, hp_l0, hp_l1, hp_l2, hp_l3, hp_l4, hp_l5, hp_l7, hp_l8, hp_l10, hp_l17, hp_l20, hp_l24, hp_l48, hp_l50, hp_l55, hp_l127, hp_lm1, hp_eqN, hp_ltN, hp_inN, hp_cl, if_pos, if_neg, if_true, if_false, Option.bind_some, e1]
  · simp (disch := omega) only [hp_kN, nI_add, pk_mul, hp_isInN, hp_m1L, hp_l0, hp_l1, hp_l2, hp_l3, hp_l4, hp_l5, hp_l7, hp_l8, hp_l10, hp_l17, hp_l20, hp_l24, hp_l48, hp_l50, hp_l55, hp_l127, hp_lm1, hp_eqN, hp_ltN, hp_inN, hp_cl, if_pos, if_neg, if_true, if_false, Option.bind_some, e2]
theorem hp_loX8b (N : Nat) (hN : 100 ≤ N) {a b : Nat} {p : Int32} (ha : a < 41) (hb : b < 41) (hb1 : 1 ≤ b) (hp : ¬ ∃ u, u < 2 ∧ p = nI u) (D : hy_M) : F_X8_partOfLowest N (nI a) (nI b) p D = some (-9223372036854775808, D) := by
  have g1 : 1 ≤ Nat.gcd a b := Nat.gcd_pos_of_pos_right a (by omega)
  have g2 : Nat.gcd a b ≤ b := Nat.gcd_le_right a (by omega)
  rw [F_X8_partOfLowest_eq]
  have k := hp_gcX N (nI a) (nI b) p D a b 0 N ha hb (by omega) (by omega)
  refine k.trans ?_
  rw [F_X8_partOfLowest_37_eq]
  rcases hp_arg p with ⟨a0, a1, a2⟩ | ⟨u, hu, rfl⟩
  · clear hp
    simp (disch := omega) only [hp_kN, nI_add, pk_mul, hp_isInN, hp_m1L, hp_l0, hp_l1, hp_l2, hp_l3, hp_l4, hp_l5, hp_l7, hp_l8, hp_l10, hp_l17, hp_l20, hp_l24, hp_l48, hp_l50, hp_l55, hp_l127, hp_lm1, hp_eqN, hp_ltN, hp_inN, hp_cl, if_pos, if_neg, if_true, if_false, Option.bind_some, a1]
  · have : ¬ u < 2 := fun q => hp ⟨u, q, rfl⟩
    clear hp
    simp (disch := omega) only [hp_kN, nI_add, pk_mul, hp_isInN, hp_m1L, hp_l0, hp_l1, hp_l2, hp_l3, hp_l4, hp_l5, hp_l7, hp_l8, hp_l10, hp_l17, hp_l20, hp_l24, hp_l48, hp_l50, hp_l55, hp_l127, hp_lm1, hp_eqN, hp_ltN, hp_inN, hp_cl, if_pos, if_neg, if_true, if_false, Option.bind_some]
theorem hp_loM9 (N : Nat) (hN : 100 ≤ N) {a b p : Nat} (ha : a < 41) (hb : b < 41) (hb1 : 1 ≤ b) (hp : p < 2) (D : hy_M) : F_X9_partOf N (nI a).toInt64 (nI b).toInt64 (nI p) D = some (hp_low a b p, D) := by
  have g1 : 1 ≤ Nat.gcd a b := Nat.gcd_pos_of_pos_right a (by omega)
  have g2 : Nat.gcd a b ≤ b := Nat.gcd_le_right a (by omega)
  have k := hp_gcM N D b a N hb ha (by omega)
  rw [Nat.gcd_comm] at k
  have e1 := (hp_md ha (show Nat.gcd a b < 41 by omega) (by omega)).2.2.2
  have e2 := (hp_md hb (show Nat.gcd a b < 41 by omega) (by omega)).2.2.2
  have nz : ¬ (nI (Nat.gcd a b)).toInt64 = 0 := fun q => by
    have := (hp_z2 (show Nat.gcd a b < 41 by omega)).mp q
    omega
  rw [F_X9_partOf_eq]
  unfold hp_low
  rcases (show p = 0 ∨ p = 1 by omega) with rfl | rfl
  · rw [if_pos (show nI 0 = 0 from rfl), F_X9_partOf_10_eq, F_X9_common_eq, k, if_pos (show 0 = 0 from rfl), Option.bind_some]
    simp only [nz, if_false, e1]
  · rw [if_neg (by decide), F_X9_partOf_10_eq, F_X9_common_eq, k, if_neg (by decide), Option.bind_some]
    simp only [nz, if_false, e2]
theorem hp_pc3_t : ((List.range 8).all fun c => decide (hp_pc c ≤ 3)) = true := by decide +kernel
theorem st_mean (N : Nat) (hN : 100 ≤ N) (a : Int32) : hp_step (F_X8_mean N a) (F_X9_mean N a) := by
  rintro ⟨y, pu, yk, pk, fl, T, P, tp, pp, ls, lc⟩ ⟨hw, hw1⟩
  obtain ⟨b0, b1, b2, b8, b17, b9⟩ := hp_Wb hw
  have h8 : ∀ j, j < y 0 0 → y 2 j < 8 := fun j hj => (hw.2.2.2.1 j (by omega)).2.1
  have hr : hp_sum (fun j => hp_pc (y 2 j)) (y 0 0) ≤ y 0 0 * 3 := hp_sum_le _ _ _ (fun j hj => of_decide_eq_true (hp_all1 hp_pc3_t (h8 j hj)))
  by_cases c0 : y 0 0 = 0
  · refine ⟨-9223372036854775808, _, ⟨hw, hw1⟩, hp_qx0 fun D hX => ?_, hp_qm0 fun D hR => ?_⟩
    · obtain ⟨x00, x01, x02, x03, x1, x2, x3, x4, x6, x8, x9, x12, x17⟩ := hp_Xf hw hX.1
      rw [F_X8_mean_eq, x00, c0]
      rfl
    · obtain ⟨m00, m01, m02, m03, m4, m12, m20, m30, m28, m46, m70, m51, m67, m49⟩ := hp_Mf hw hR.1
      rw [F_X9_mean_eq]
      clear h8
      rcases hp_arg a with ⟨a0, a1, a2⟩ | ⟨u, hu, rfl⟩
      · simp (disch := omega) only [hp_kN, nI_add, pk_mul, hp_isInN, hp_m1L, hp_l0, hp_l1, hp_l2, hp_l3, hp_l4, hp_l5, hp_l7, hp_l8, hp_l10, hp_l17, hp_l20, hp_l24, hp_l48, hp_l50, hp_l55, hp_l127, hp_lm1, hp_eqN, hp_ltN, hp_inN, hp_cl, if_pos, if_neg, if_true, if_false, Option.bind_some, hp_isIng N a2 0 _ (by decide)]
      · by_cases c2 : u < 2
        · simp (disch := omega) only [hp_kN, nI_add, pk_mul, hp_isInN, hp_m1L, hp_l0, hp_l1, hp_l2, hp_l3, hp_l4, hp_l5, hp_l7, hp_l8, hp_l10, hp_l17, hp_l20, hp_l24, hp_l48, hp_l50, hp_l55, hp_l127, hp_lm1, hp_eqN, hp_ltN, hp_inN, hp_cl, if_pos, if_neg, if_true, if_false, Option.bind_some, m00, c0]
        · simp (disch := omega) only [hp_kN, nI_add, pk_mul, hp_isInN, hp_m1L, hp_l0, hp_l1, hp_l2, hp_l3, hp_l4, hp_l5, hp_l7, hp_l8, hp_l10, hp_l17, hp_l20, hp_l24, hp_l48, hp_l50, hp_l55, hp_l127, hp_lm1, hp_eqN, hp_ltN, hp_inN, hp_cl, if_pos, if_neg, if_true, if_false, Option.bind_some]
  by_cases hp : ∃ u, u < 2 ∧ a = nI u
  · obtain ⟨u, hu, rfl⟩ := hp
    refine ⟨hp_low (y 0 0 + hp_sum (fun j => hp_pc (y 2 j)) (y 0 0)) (y 0 0) u, _, ⟨hw, hw1⟩, hp_qx0 fun D hX => ?_, hp_qm0 fun D hR => ?_⟩
    · obtain ⟨x00, x01, x02, x03, x1, x2, x3, x4, x6, x8, x9, x12, x17⟩ := hp_Xf hw hX.1
      have k1 := hp_roX N (by omega) b0 (by_ := y 2) x00 (fun j hj => x2 j (by omega)) h8
      have k2 := hp_loX8 N hN (a := y 0 0 + hp_sum (fun j => hp_pc (y 2 j)) (y 0 0)) (b := y 0 0) (by omega) (by omega) (by omega) hu D
      rw [F_X8_mean_eq]
      clear h8
      simp (disch := omega) only [hp_kN, nI_add, pk_mul, hp_isInN, hp_m1L, hp_l0, hp_l1, hp_l2, hp_l3, hp_l4, hp_l5, hp_l7, hp_l8, hp_l10, hp_l17, hp_l20, hp_l24, hp_l48, hp_l50, hp_l55, hp_l127, hp_lm1, hp_eqN, hp_ltN, hp_inN, hp_cl, if_pos, if_neg, if_true, if_false, Option.bind_some, x00, k1, k2]
    · obtain ⟨m00, m01, m02, m03, m4, m12, m20, m30, m28, m46, m70, m51, m67, m49⟩ := hp_Mf hw hR.1
      have k1 := hp_roMn N (by omega) b0 (by_ := y 2) m00 (fun j hj => m12 j (by omega)) h8
      have k2 := hp_loM9 N hN (a := y 0 0 + hp_sum (fun j => hp_pc (y 2 j)) (y 0 0)) (b := y 0 0) (by omega) (by omega) (by omega) hu D
      rw [F_X9_mean_eq]
      clear h8
      simp (disch := omega) only [hp_kN, nI_add, pk_mul, hp_isInN, hp_m1L, hp_l0, hp_l1, hp_l2, hp_l3, hp_l4, hp_l5, hp_l7, hp_l8, hp_l10, hp_l17, hp_l20, hp_l24, hp_l48, hp_l50, hp_l55, hp_l127, hp_lm1, hp_eqN, hp_ltN, hp_inN, hp_cl, if_pos, if_neg, if_true, if_false, Option.bind_some, m00, k1, k2]
  · refine ⟨-9223372036854775808, _, ⟨hw, hw1⟩, hp_qx0 fun D hX => ?_, hp_qm0 fun D hR => ?_⟩
    · obtain ⟨x00, x01, x02, x03, x1, x2, x3, x4, x6, x8, x9, x12, x17⟩ := hp_Xf hw hX.1
      have k1 := hp_roX N (by omega) b0 (by_ := y 2) x00 (fun j hj => x2 j (by omega)) h8
      have k2 := hp_loX8b N hN (a := y 0 0 + hp_sum (fun j => hp_pc (y 2 j)) (y 0 0)) (b := y 0 0) (by omega) (by omega) (by omega) hp D
      rw [F_X8_mean_eq]
      clear h8 hp
      simp (disch := omega) only [hp_kN, nI_add, pk_mul, hp_isInN, hp_m1L, hp_l0, hp_l1, hp_l2, hp_l3, hp_l4, hp_l5, hp_l7, hp_l8, hp_l10, hp_l17, hp_l20, hp_l24, hp_l48, hp_l50, hp_l55, hp_l127, hp_lm1, hp_eqN, hp_ltN, hp_inN, hp_cl, if_pos, if_neg, if_true, if_false, Option.bind_some, x00, k1, k2]
    · rw [F_X9_mean_eq]
      clear h8
      rcases hp_arg a with ⟨a0, a1, a2⟩ | ⟨u, hu, rfl⟩
      · clear hp
        simp (disch := omega) only [hp_kN, nI_add, pk_mul, hp_isInN, hp_m1L, hp_l0, hp_l1, hp_l2, hp_l3, hp_l4, hp_l5, hp_l7, hp_l8, hp_l10, hp_l17, hp_l20, hp_l24, hp_l48, hp_l50, hp_l55, hp_l127, hp_lm1, hp_eqN, hp_ltN, hp_inN, hp_cl, if_pos, if_neg, if_true, if_false, Option.bind_some, hp_isIng N a2 0 _ (by decide)]
      · have : ¬ u < 2 := fun q => hp ⟨u, q, rfl⟩
        clear hp
        simp (disch := omega) only [hp_kN, nI_add, pk_mul, hp_isInN, hp_m1L, hp_l0, hp_l1, hp_l2, hp_l3, hp_l4, hp_l5, hp_l7, hp_l8, hp_l10, hp_l17, hp_l20, hp_l24, hp_l48, hp_l50, hp_l55, hp_l127, hp_lm1, hp_eqN, hp_ltN, hp_inN, hp_cl, if_pos, if_neg, if_true, if_false, Option.bind_some]
