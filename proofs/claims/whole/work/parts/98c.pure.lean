/-! ===== bounded codes: the reference's way ===== -/
def hq_up (v : Nat → Nat) (w z : Nat) : Nat → Nat := fun j => if j = w then z else v j
theorem hq_up_s (v : Nat → Nat) (w z : Nat) : hq_up v w z w = z := by simp [hq_up]
theorem hq_up_n {v : Nat → Nat} {w z j : Nat} (h : j ≠ w) : hq_up v w z j = v j := by simp [hq_up, h]
def hq_acc (y : Nat → Nat → Nat) (B : Option (Nat → Nat)) (v : Nat → Nat) (L : Nat → Nat) (k z : Nat) : Prop := hp_may (y 0 1) z = 1 ∧ (∀ t, t < 3 → L t + hq_ld z (y 1 (hq_tu y k)) t ≤ y 9 t) ∧ hq_hl y B (hp_wd (hp_or (fun i => hq_up v (hq_tu y k) z (hq_tu y i)) (k + 1))) (hp_sum (fun i => hp_pc (hq_up v (hq_tu y k) z (hq_tu y i))) (k + 1)) = 0
theorem hq_hl01 (y : Nat → Nat → Nat) (B : Option (Nat → Nat)) (s o : Nat) : hq_hl y B s o = 0 ∨ hq_hl y B s o = 1 := by
  unfold hq_hl
  cases B with
  | none => left; rfl
  | some b =>
    dsimp only
    split
    · right; rfl
    · split
      · split
        · right; rfl
        · left; rfl
      · left; rfl
theorem hq_tu_inj {y : Nat → Nat → Nat} (hw : hp_WF y) {i k : Nat} (hi : i < y 0 0) (hk : k < y 0 0) (e : hq_tu y i = hq_tu y k) : i = k := by
  have a := (hq_tu_f hw hi).2
  have b := (hq_tu_f hw hk).2
  rw [e] at a
  omega
theorem hq_goM (N : Nat) (hN : 100 ≤ N) {y : Nat → Nat → Nat} {pu : Int32} (hw : hp_WF y) {D0 : hy_M} (hM : hp_MY 68 y pu D0) {B : Option (Nat → Nat)} {v L : Nat → Nat} {k : Nat} (hk : k < y 0 0) (hL4 : ∀ t, t < 3 → L t < 40) (hBb : ∀ b, B = some b → ∀ w, w < y 0 0 → b w < 8) : ∀ m x f D, x + m = 8 → m < f → hq_F D0 D → (∀ j, j < y 0 0 → D 75 j = nI (hq_tu y j)) → (∀ i, i < k → D 73 (hq_tu y i) = nI (v (hq_tu y i)) ∧ v (hq_tu y i) < 8) → D 73 (hq_tu y k) = nI x → (∀ t, t < 3 → D 76 t = nI (L t)) → hq_BM y B D → ∃ r x' D1, F_X9_goesOn_7 N f (nI k) (nI (hq_tu y k)) D = some (nI r, D1) ∧ x ≤ x' ∧ (∀ z, x ≤ z → z < x' → ¬ hq_acc y B v L k z) ∧ ((r = 1 ∧ x' < 8 ∧ hq_acc y B v L k x' ∧ ∀ t, t < 3 → D1 76 t = nI (L t + hq_ld x' (y 1 (hq_tu y k)) t)) ∨ (r = 0 ∧ x' = 8 ∧ ∀ t, t < 3 → D1 76 t = nI (L t))) ∧ D1 73 (hq_tu y k) = nI x' ∧ (∀ j, j ≠ hq_tu y k → D1 73 j = D 73 j) ∧ ∀ c, c ≠ 73 → c ≠ 76 → D1 c = D c := by
  have b0 := hw.1
  have b1 := hw.2.1
  have t8 := (hq_tu_f hw hk).1
  have len := (hw.2.2.2.1 (hq_tu y k) (by omega)).1
  obtain ⟨m00, m01, m02, m03, m4, m12, m20, m30, m28, m46, m70, m51, m67, m49⟩ := hp_Mf hw hM
  have inj : ∀ i, i < k → hq_tu y i ≠ hq_tu y k := fun i hi e => by
    have := hq_tu_inj hw (by omega) hk e
    omega
  intro m
  induction m with
  | zero =>
    intro x f D e hf hF h75 h73 hx h76 hB
    obtain ⟨f, rfl⟩ : ∃ f', f = f' + 1 := ⟨f - 1, by omega⟩
    have e : x = 8 := by omega
    subst e
    refine ⟨0, 8, D, ?_, Nat.le_refl 8, fun z a b => by omega, Or.inr ⟨rfl, rfl, h76⟩, hx, fun _ _ => rfl, fun _ _ _ => rfl⟩
    rw [F_X9_goesOn_7_eq]
    clear h75 h73 h76 hBb inj m4 m12 m20 m30 m28 m46 m70 m51 m67 m49 hL4
    simp (disch := omega) only [hp_kN, nI_add, pk_mul, hp_isInN, hp_m1L, hp_l0, hp_l1, hp_l2, hp_l3, hp_l4, hp_l5, hp_l7, hp_l8, hp_l10, hp_l17, hp_l20, hp_l24, hp_l48, hp_l50, hp_l55, hp_l127, hp_lm1, hp_eqN, hp_ltN, hp_inN, hp_cl, if_pos, if_neg, if_true, if_false, Option.bind_some, hx]
  | succ m ih =>
    intro x f D e hf hF h75 h73 hx h76 hB
    obtain ⟨f, rfl⟩ : ∃ f', f = f' + 1 := ⟨f - 1, by omega⟩
    have z68 : D 68 = D0 68 := hF.1 68 (by omega) (by omega)
    have z01 : D 68 1 = nI (y 0 1) := by rw [z68]; exact m01
    have z4 : D 68 (4 + hq_tu y k) = nI (y 1 (hq_tu y k)) := by rw [z68]; exact m4 _ (by omega)
    -- what comes behind a code that is not taken
    have rej : ∀ D2, (∀ c, c ≠ 76 → D2 c = D c) → (∀ t, t < 3 → D2 76 t = nI (L t)) → ¬ hq_acc y B v L k x → ∃ r x' D1, F_X9_goesOn_65 N f (nI k) (nI (hq_tu y k)) D2 = some (nI r, D1) ∧ x ≤ x' ∧ (∀ z, x ≤ z → z < x' → ¬ hq_acc y B v L k z) ∧ ((r = 1 ∧ x' < 8 ∧ hq_acc y B v L k x' ∧ ∀ t, t < 3 → D1 76 t = nI (L t + hq_ld x' (y 1 (hq_tu y k)) t)) ∨ (r = 0 ∧ x' = 8 ∧ ∀ t, t < 3 → D1 76 t = nI (L t))) ∧ D1 73 (hq_tu y k) = nI x' ∧ (∀ j, j ≠ hq_tu y k → D1 73 j = D 73 j) ∧ ∀ c, c ≠ 73 → c ≠ 76 → D1 c = D c := fun D2 g1 g2 g3 => by
      obtain ⟨r, x', D1, e1, q1, q2, q3, q4, q5, q6⟩ := ih (x + 1) f (hy_w D2 73 (hq_tu y k) (nI (x + 1))) (by omega) (by omega) (hq_F_w hF (fun c hc => by rw [hy_w_ne (by omega), g1 c (by omega)])) (fun j hj => by rw [hy_w_ne (by omega), g1 75 (by omega)]; exact h75 j hj) (fun i hi => by rw [hp_wn (Or.inr (inj i hi)), g1 73 (by omega)]; exact h73 i hi) (hp_ws _ _ _ _) (fun t ht => by rw [hy_w_ne (by omega)]; exact g2 t ht) (hq_BM_fr hB (by rw [hy_w_ne (by omega), g1 67 (by omega)]) (by rw [hy_w_ne (by omega), g1 67 (by omega)]) (by rw [hy_w_ne (by omega), g1 74 (by omega)]))
      refine ⟨r, x', D1, ?_, by omega, fun z a b => ?_, q3, q4, fun j hj => by rw [q5 j hj, hp_wn (Or.inr hj), g1 73 (by omega)], fun c a b => by rw [q6 c a b, hy_w_ne a, g1 c b]⟩
      · have hx2 : D2 73 (hq_tu y k) = nI x := by rw [g1 73 (by omega)]; exact hx
        rw [← e1, F_X9_goesOn_65_eq]
        clear ih e1 q2 q3 q4 q5 q6 g1 g2 g3 hF h75 h73 h76 hB hBb inj m4 m12 m20 m30 m28 m46 m70 m51 m67 m49 hL4
        simp (disch := omega) only [hp_kN, nI_add, pk_mul, hp_isInN, hp_m1L, hp_l0, hp_l1, hp_l2, hp_l3, hp_l4, hp_l5, hp_l7, hp_l8, hp_l10, hp_l17, hp_l20, hp_l24, hp_l48, hp_l50, hp_l55, hp_l127, hp_lm1, hp_eqN, hp_ltN, hp_inN, hp_cl, if_pos, if_neg, if_true, if_false, Option.bind_some, hx2]
      · by_cases ez : z = x
        · rw [ez]
          exact g3
        · exact q2 z (by omega) b
    have km := hp_mayM N (by omega) (b := y 0 1) (c := x) b1 (by omega) D
    rcases hp_may01 (y 0 1) x with ma | ma
    · obtain ⟨r, x', D1, e1, q1, q2, q3, q4, q5, q6⟩ := rej D (fun _ _ => rfl) h76 (fun h => by have := h.1; omega)
      refine ⟨r, x', D1, ?_, q1, q2, q3, q4, q5, q6⟩
      rw [ma] at km
      rw [← e1, F_X9_goesOn_7_eq]
      clear ih rej e1 q2 q3 q4 q5 q6 hF h75 h73 h76 hB hBb inj m4 m12 m20 m30 m28 m46 m70 m51 m67 m49 hL4
      simp (disch := omega) only [hp_kN, nI_add, pk_mul, hp_isInN, hp_m1L, hp_l0, hp_l1, hp_l2, hp_l3, hp_l4, hp_l5, hp_l7, hp_l8, hp_l10, hp_l17, hp_l20, hp_l24, hp_l48, hp_l50, hp_l55, hp_l127, hp_lm1, hp_eqN, hp_ltN, hp_inN, hp_cl, if_pos, if_neg, if_true, if_false, Option.bind_some, hx, z01, km]
    · rw [ma] at km
      obtain ⟨D1, e1, f1, f2⟩ := hq_ldM N (by omega) (by omega) (by omega) hx z4 h76
      have ldb : ∀ t, hq_ld x (y 1 (hq_tu y k)) t ≤ 3 := fun t => by unfold hq_ld; split <;> omega
      have kr := hq_rmM N (by omega) hw (L := fun t => L t + hq_ld x (y 1 (hq_tu y k)) t) (fun t ht => by have := hL4 t ht; have := ldb t; omega) (D := D1) (fun t ht => by rw [f2 68 (by omega), z68]; exact m46 t ht) f1
      have kh := hq_hlM N (by omega) hw (B := B) (v := hq_up v (hq_tu y k) x) hk (D := D1) (by rw [f2 68 (by omega), z68]; exact m00) hBb (hq_BM_fr hB (by rw [f2 67 (by omega)]) (by rw [f2 67 (by omega)]) (by rw [f2 74 (by omega)])) (fun j hj => by rw [f2 75 (by omega)]; exact h75 j hj) (fun i hi => by
        rw [f2 73 (by omega)]
        by_cases z : i = k
        · rw [z, hq_up_s]
          exact ⟨hx, by omega⟩
        · rw [hq_up_n (inj i (by omega))]
          exact h73 i (by omega))
      obtain ⟨D2, e2, g1, g2⟩ := hq_ulM N (by omega) (w := hq_tu y k) (x := x) (len := y 1 (hq_tu y k)) (by omega) (by omega) (by omega) hL4 (D := D1) (by rw [f2 73 (by omega)]; exact hx) (by rw [f2 68 (by omega)]; exact z4) f1
      have gg : ∀ c, c ≠ 76 → D2 c = D c := fun c hc => by rw [g2 c hc, f2 c hc]
      rcases hq_rm1 (y := y) (L := fun t => L t + hq_ld x (y 1 (hq_tu y k)) t) with ⟨r1, r2⟩ | ⟨r1, r2⟩
      · rw [r1] at kr
        rcases hq_hl01 y B (hp_wd (hp_or (fun i => hq_up v (hq_tu y k) x (hq_tu y i)) (k + 1))) (hp_sum (fun i => hp_pc (hq_up v (hq_tu y k) x (hq_tu y i))) (k + 1)) with h0 | h0
        · rw [h0] at kh
          refine ⟨1, x, D1, ?_, Nat.le_refl x, fun z a b => by omega, Or.inl ⟨rfl, by omega, ⟨ma, r2, h0⟩, f1⟩, by rw [f2 73 (by omega)]; exact hx, fun j _ => by rw [f2 73 (by omega)], fun c _ b => f2 c b⟩
          rw [F_X9_goesOn_7_eq]
          have e1' : F_X9_loads N (nI (hq_tu y k)) (nI 1) D = some D1 := e1
          clear ih rej e1 e2 g1 g2 gg f1 f2 r2 h0 hF h75 h73 h76 hB hBb inj m4 m12 m20 m30 m28 m46 m70 m51 m67 m49 hL4 ldb
          simp (disch := omega) only [hp_kN, nI_add, pk_mul, hp_isInN, hp_m1L, hp_l0, hp_l1, hp_l2, hp_l3, hp_l4, hp_l5, hp_l7, hp_l8, hp_l10, hp_l17, hp_l20, hp_l24, hp_l48, hp_l50, hp_l55, hp_l127, hp_lm1, hp_eqN, hp_ltN, hp_inN, hp_cl, if_pos, if_neg, if_true, if_false, Option.bind_some, hx, z01, km, e1', kr, kh]
        · rw [h0] at kh
          obtain ⟨r, x', D3, e3, q1, q2, q3, q4, q5, q6⟩ := rej D2 gg g1 (fun h => by have := h.2.2; omega)
          refine ⟨r, x', D3, ?_, q1, q2, q3, q4, q5, q6⟩
          rw [← e3, F_X9_goesOn_7_eq]
          have e1' : F_X9_loads N (nI (hq_tu y k)) (nI 1) D = some D1 := e1
          have e2' : F_X9_loads N (nI (hq_tu y k)) (-nI 1) D1 = some D2 := e2
          clear ih rej e1 e2 e3 q2 q3 q4 q5 q6 g1 g2 gg f1 f2 r2 h0 hF h75 h73 h76 hB hBb inj m4 m12 m20 m30 m28 m46 m70 m51 m67 m49 hL4 ldb
          simp (disch := omega) only [hp_kN, nI_add, pk_mul, hp_isInN, hp_m1L, hp_l0, hp_l1, hp_l2, hp_l3, hp_l4, hp_l5, hp_l7, hp_l8, hp_l10, hp_l17, hp_l20, hp_l24, hp_l48, hp_l50, hp_l55, hp_l127, hp_lm1, hp_eqN, hp_ltN, hp_inN, hp_cl, if_pos, if_neg, if_true, if_false, Option.bind_some, hx, z01, km, e1', kr, kh, e2']
      · rw [r1] at kr
        obtain ⟨r, x', D3, e3, q1, q2, q3, q4, q5, q6⟩ := rej D2 gg g1 (fun h => r2 h.2.1)
        refine ⟨r, x', D3, ?_, q1, q2, q3, q4, q5, q6⟩
        rw [← e3, F_X9_goesOn_7_eq]
        have e1' : F_X9_loads N (nI (hq_tu y k)) (nI 1) D = some D1 := e1
        have e2' : F_X9_loads N (nI (hq_tu y k)) (-nI 1) D1 = some D2 := e2
        clear ih rej e1 e2 e3 q2 q3 q4 q5 q6 g1 g2 gg f1 f2 r2 hF h75 h73 h76 hB hBb inj m4 m12 m20 m30 m28 m46 m70 m51 m67 m49 hL4 ldb kh
        simp (disch := omega) only [hp_kN, nI_add, pk_mul, hp_isInN, hp_m1L, hp_l0, hp_l1, hp_l2, hp_l3, hp_l4, hp_l5, hp_l7, hp_l8, hp_l10, hp_l17, hp_l20, hp_l24, hp_l48, hp_l50, hp_l55, hp_l127, hp_lm1, hp_eqN, hp_ltN, hp_inN, hp_cl, if_pos, if_neg, if_true, if_false, Option.bind_some, hx, z01, km, e1', kr, e2']
/-! what has been gone through -/
def hq_E (y : Nat → Nat → Nat) (k : Nat) (v c : Nat → Nat) : Prop := hq_okc y c ∧ ∃ i, i ≤ k ∧ (∀ j, j < i → c (hq_tu y j) = v (hq_tu y j)) ∧ c (hq_tu y i) < v (hq_tu y i)
def hq_bo (y : Nat → Nat → Nat) (E : (Nat → Nat) → Prop) (B : Option (Nat → Nat)) : Prop := match B with
  | none => ∀ c, ¬ E c
  | some b => hq_okc y b ∧ ∀ c, E c → ¬ hq_bt y c b
theorem hq_bo_m {y : Nat → Nat → Nat} {E E' : (Nat → Nat) → Prop} {B : Option (Nat → Nat)} (h : hq_bo y E B) (hs : ∀ c, E' c → E c) : hq_bo y E' B := by
  cases B with
  | none => exact fun c hc => h c (hs c hc)
  | some b => exact ⟨h.1, fun c hc => h.2 c (hs c hc)⟩
theorem hq_bo_b {y : Nat → Nat → Nat} {E : (Nat → Nat) → Prop} {B : Option (Nat → Nat)} (h : hq_bo y E B) : ∀ b, B = some b → ∀ w, w < y 0 0 → b w < 8 := fun b hb w hw => by
  subst hb
  exact (h.1.1 w hw).1
/-- loads up to a place -/
def hq_Lk (y : Nat → Nat → Nat) (v : Nat → Nat) (k t : Nat) : Nat := hp_sum (fun i => hq_ld (v (hq_tu y i)) (y 1 (hq_tu y i)) t) k
theorem hq_load_e (y : Nat → Nat → Nat) (c : Nat → Nat) (t : Nat) : hp_load y c t = hp_sum (fun w => hq_ld (c w) (y 1 w) t) (y 0 0) := rfl
theorem hq_Lk_n {y : Nat → Nat → Nat} (hw : hp_WF y) (v : Nat → Nat) (t : Nat) : hq_Lk y v (y 0 0) t = hp_load y v t := by
  rw [hq_load_e]
  exact hq_ps_n hw (fun w => hq_ld (v w) (y 1 w) t)
theorem hq_Lk_le {y : Nat → Nat → Nat} (hw : hp_WF y) {v c : Nat → Nat} {k t : Nat} (hk : k ≤ y 0 0) (e : ∀ i, i < k → c (hq_tu y i) = v (hq_tu y i)) : hq_Lk y v k t ≤ hp_load y c t := by
  have h1 : hq_Lk y v k t = hp_sum (fun i => hq_ld (c (hq_tu y i)) (y 1 (hq_tu y i)) t) k := hq_sum_congr k (fun j hj => by rw [e j hj])
  rw [h1, hq_load_e]
  exact hq_ps_le hw (fun w => hq_ld (c w) (y 1 w) t) hk
