/-! ===== bounded codes: the reference finds the best ===== -/
theorem hq_rej {y : Nat → Nat → Nat} (hw : hp_WF y) {B : Option (Nat → Nat)} {v c : Nat → Nat} {k : Nat} (hk : k < y 0 0) (hc : hq_okc y c) (e : ∀ j, j < k → c (hq_tu y j) = v (hq_tu y j)) (hn : ¬ hq_acc y B v (hq_Lk y v k) k (c (hq_tu y k))) : ∃ b, B = some b ∧ ¬ hq_bt y c b := by
  have t8 := (hq_tu_f hw hk).1
  have ev : ∀ i, i < k + 1 → hq_up v (hq_tu y k) (c (hq_tu y k)) (hq_tu y i) = c (hq_tu y i) := fun i hi => by
    by_cases z : i = k
    · rw [z, hq_up_s]
    · rw [hq_up_n (fun q => z (hq_tu_inj hw (by omega) hk q))]
      exact (e i (by omega)).symm
  have h1 := (hc.1 _ t8).2
  have h2 : ∀ t, t < 3 → hq_Lk y v k t + hq_ld (c (hq_tu y k)) (y 1 (hq_tu y k)) t ≤ y 9 t := fun t ht => by
    have a1 : hq_Lk y v k t = hq_Lk y c k t := hq_sum_congr k (fun j hj => by rw [e j hj])
    have a2 : hq_Lk y c (k + 1) t ≤ hp_load y c t := hq_Lk_le hw (by omega) (fun _ _ => rfl)
    have a3 : hq_Lk y c (k + 1) t = hq_Lk y c k t + hq_ld (c (hq_tu y k)) (y 1 (hq_tu y k)) t := rfl
    have a4 := hc.2.2 t ht
    omega
  have h3 : hq_hl y B (hp_wd (hp_or (fun i => hq_up v (hq_tu y k) (c (hq_tu y k)) (hq_tu y i)) (k + 1))) (hp_sum (fun i => hp_pc (hq_up v (hq_tu y k) (c (hq_tu y k)) (hq_tu y i))) (k + 1)) ≠ 0 := fun q => hn ⟨h1, h2, q⟩
  have es : hp_or (fun i => hq_up v (hq_tu y k) (c (hq_tu y k)) (hq_tu y i)) (k + 1) = hp_or (fun i => c (hq_tu y i)) (k + 1) := hq_or_congr _ ev
  have eo : hp_sum (fun i => hp_pc (hq_up v (hq_tu y k) (c (hq_tu y k)) (hq_tu y i))) (k + 1) = hp_sum (fun i => hp_pc (c (hq_tu y i))) (k + 1) := hq_sum_congr _ (fun j hj => by rw [ev j hj])
  rw [es, eo] at h3
  have s1 : hp_wd (hp_or (fun i => c (hq_tu y i)) (k + 1)) ≤ hq_st1 y c := by
    refine (hq_wd_or (k + 1) (fun j hj => (hc.1 _ (hq_tu_f hw (by omega)).1).1)).mpr (fun j hj => ?_)
    exact (hq_wd_or (y 0 0) (fun j hj => (hc.1 j hj).1)).mp (Nat.le_refl _) _ (hq_tu_f hw (by omega)).1
  have s2 : hp_sum (fun i => hp_pc (c (hq_tu y i))) (k + 1) ≤ hq_on1 y c := hq_ps_le hw (fun w => hp_pc (c w)) (by omega)
  cases B with
  | none => exact absurd rfl h3
  | some b =>
    refine ⟨b, rfl, ?_⟩
    generalize hp_wd (hp_or (fun i => c (hq_tu y i)) (k + 1)) = s at s1 h3
    generalize hp_sum (fun i => hp_pc (c (hq_tu y i))) (k + 1) = o at s2 h3
    unfold hq_hl at h3
    dsimp only at h3
    have q : hq_st1 y b < s ∨ (s = hq_st1 y b ∧ hq_on1 y b < o) := by
      by_cases q1 : hq_st1 y b < s
      · exact Or.inl q1
      · rw [if_neg q1] at h3
        by_cases q2 : s = hq_st1 y b
        · rw [if_pos q2] at h3
          by_cases q3 : hq_on1 y b < o
          · exact Or.inr ⟨q2, q3⟩
          · rw [if_neg q3] at h3
            exact absurd rfl h3
        · rw [if_neg q2] at h3
          exact absurd rfl h3
    rintro (z | ⟨z, z2 | ⟨z2, _⟩⟩)
    · rcases q with q | ⟨q, q2⟩ <;> omega
    · rcases q with q | ⟨q, q2⟩ <;> omega
    · rcases q with q | ⟨q, q2⟩ <;> omega
theorem hq_bo_x {y : Nat → Nat → Nat} (hw : hp_WF y) {B : Option (Nat → Nat)} {v : Nat → Nat} {k x' : Nat} (hk : k < y 0 0) (h : hq_bo y (hq_E y k v) B) (hz : ∀ z, v (hq_tu y k) ≤ z → z < x' → ¬ hq_acc y B v (hq_Lk y v k) k z) : hq_bo y (hq_E y k (hq_up v (hq_tu y k) x')) B := by
  have key : ∀ c, hq_E y k (hq_up v (hq_tu y k) x') c → hq_E y k v c ∨ ∃ b, B = some b ∧ ¬ hq_bt y c b := fun c hc => by
    obtain ⟨h1, i, hi, h2, h3⟩ := hc
    have ne : ∀ j, j < k → hq_tu y j ≠ hq_tu y k := fun j hj q => by
      have := hq_tu_inj hw (by omega) hk q
      omega
    have h2' : ∀ j, j < i → c (hq_tu y j) = v (hq_tu y j) := fun j hj => by
      rw [h2 j hj, hq_up_n (ne j (by omega))]
    by_cases q : i = k
    · rw [q, hq_up_s] at h3
      by_cases q2 : c (hq_tu y k) < v (hq_tu y k)
      · exact Or.inl ⟨h1, k, Nat.le_refl k, fun j hj => h2' j (by omega), q2⟩
      · exact Or.inr (hq_rej hw hk h1 (fun j hj => h2' j (by omega)) (hz _ (by omega) h3))
    · rw [hq_up_n (ne i (by omega))] at h3
      exact Or.inl ⟨h1, i, hi, h2', h3⟩
  cases B with
  | none =>
    intro c hc
    rcases key c hc with z | ⟨b, hb, _⟩
    · exact h c z
    · cases hb
  | some b =>
    refine ⟨h.1, fun c hc => ?_⟩
    rcases key c hc with z | ⟨b', hb, z⟩
    · exact h.2 c z
    · injection hb with hb
      subst hb
      exact z
theorem hq_p10 : ∀ n, 1 ≤ 10 ^ n := by
  intro n
  induction n with
  | zero => exact Nat.le_refl 1
  | succ n ih =>
    rw [Nat.pow_succ]
    omega
def hq_V (y : Nat → Nat → Nat) (v : Nat → Nat) (k : Nat) : Nat := hp_sum (fun i => (v (hq_tu y i) + 1) * 10 ^ (7 - i)) (k + 1)
theorem hq_V_b (g : Nat → Nat) : ∀ m, m ≤ 8 → (∀ i, i < m → g i ≤ 8) → hp_sum (fun i => (g i + 1) * 10 ^ (7 - i)) m + 10 ^ (8 - m) ≤ 100000000 := by
  intro m
  induction m with
  | zero =>
    intro _ _
    show 0 + 10 ^ (8 - 0) ≤ 100000000
    decide
  | succ m ih =>
    intro h8 h
    have a := ih (by omega) (fun i hi => h i (by omega))
    have b := h m (by omega)
    show hp_sum (fun i => (g i + 1) * 10 ^ (7 - i)) m + (g m + 1) * 10 ^ (7 - m) + 10 ^ (8 - (m + 1)) ≤ 100000000
    have e1 : 10 ^ (8 - m) = 10 * 10 ^ (7 - m) := by
      rw [show 8 - m = (7 - m) + 1 by omega, Nat.pow_succ, Nat.mul_comm]
    have e2 : 8 - (m + 1) = 7 - m := by omega
    rw [e2]
    rw [e1] at a
    have e3 : (g m + 1) * 10 ^ (7 - m) ≤ 9 * 10 ^ (7 - m) := Nat.mul_le_mul_right _ (by omega)
    omega
theorem hq_V_s {y : Nat → Nat → Nat} {v v' : Nat → Nat} {k : Nat} (e : ∀ i, i < k → v (hq_tu y i) = v' (hq_tu y i)) : hp_sum (fun i => (v (hq_tu y i) + 1) * 10 ^ (7 - i)) k = hp_sum (fun i => (v' (hq_tu y i) + 1) * 10 ^ (7 - i)) k := hq_sum_congr _ (fun j hj => by rw [e j hj])
theorem hq_Lk_c {y : Nat → Nat → Nat} {v v' : Nat → Nat} {k t : Nat} (e : ∀ i, i < k → v (hq_tu y i) = v' (hq_tu y i)) : hq_Lk y v k t = hq_Lk y v' k t := hq_sum_congr _ (fun j hj => by rw [e j hj])
theorem hq_low_c {y : Nat → Nat → Nat} {v v' : Nat → Nat} {k : Nat} (e : ∀ i, i < k → v (hq_tu y i) = v' (hq_tu y i)) : hq_low y v k = hq_low y v' k := by
  unfold hq_low
  by_cases q : k = 0 ∨ k = y 8 0
  · rw [if_pos q, if_pos q]
  · rw [if_neg q, if_neg q, e (k - 1) (by omega)]
theorem hq_low_b {y : Nat → Nat → Nat} {v : Nat → Nat} {k : Nat} (e : ∀ i, i < k → v (hq_tu y i) < 8) : hq_low y v k ≤ 8 := by
  unfold hq_low
  by_cases q : k = 0 ∨ k = y 8 0
  · rw [if_pos q]
    omega
  · rw [if_neg q]
    have := e (k - 1) (by omega)
    split <;> omega
theorem hq_mainM (N : Nat) (hN : 1000000000 ≤ N) {y : Nat → Nat → Nat} {pu : Int32} (hw : hp_WF y) {D0 : hy_M} (hM : hp_MY 68 y pu D0) : ∀ M k v B D f, k < y 0 0 → 100000000 - hq_V y v k ≤ M → M < f → hq_F D0 D → (∀ j, j < y 0 0 → D 75 j = nI (hq_tu y j)) → (∀ i, i < k → D 73 (hq_tu y i) = nI (v (hq_tu y i)) ∧ v (hq_tu y i) < 8 ∧ hp_may (y 0 1) (v (hq_tu y i)) = 1) → D 73 (hq_tu y k) = nI (v (hq_tu y k)) → v (hq_tu y k) ≤ 8 → (∀ t, t < 3 → D 76 t = nI (hq_Lk y v k t)) → hq_BM y B D → (∀ i, i ≤ k → hq_low y v i ≤ v (hq_tu y i)) → hq_bo y (hq_E y k v) B → ∃ B' D1, F_X9_findBounded_59 N f (nI k) D = some D1 ∧ hq_F D0 D1 ∧ hq_BM y B' D1 ∧ hq_bo y (hq_okc y) B' := by
  have b0 := hw.1
  obtain ⟨m00, m01, m02, m03, m4, m12, m20, m30, m28, m46, m70, m51, m67, m49⟩ := hp_Mf hw hM
  intro M
  induction M with
  | zero =>
    intro k v B D f hk hV hf hF h75 h73 hx hx8 h76 hB hlow hbo
    exfalso
    have a : hq_V y v k + 10 ^ (8 - (k + 1)) ≤ 100000000 := hq_V_b (fun i => v (hq_tu y i)) (k + 1) (by omega) (fun i hi => by
      by_cases z : i = k
      · show v (hq_tu y i) ≤ 8
        rw [z]
        exact hx8
      · have := (h73 i (by omega)).2.1
        show v (hq_tu y i) ≤ 8
        omega)
    have b : 1 ≤ 10 ^ (8 - (k + 1)) := hq_p10 _
    omega
  | succ M ih =>
    intro k v B D f hk hV hf hF h75 h73 hx hx8 h76 hB hlow hbo
    obtain ⟨f, rfl⟩ : ∃ f', f = f' + 1 := ⟨f - 1, by omega⟩
    have hVb : hq_V y v k + 10 ^ (8 - (k + 1)) ≤ 100000000 := hq_V_b (fun i => v (hq_tu y i)) (k + 1) (by omega) (fun i hi => by
      by_cases z : i = k
      · show v (hq_tu y i) ≤ 8
        rw [z]
        exact hx8
      · have := (h73 i (by omega)).2.1
        show v (hq_tu y i) ≤ 8
        omega)
    have hVb1 : 1 ≤ 10 ^ (8 - (k + 1)) := hq_p10 _
    have t8 := (hq_tu_f hw hk).1
    have z68 : D 68 = D0 68 := hF.1 68 (by omega) (by omega)
    have z00 : D 68 0 = nI (y 0 0) := by rw [z68]; exact m00
    have ldb : ∀ x w t, w < y 0 0 → hq_ld x (y 1 w) t ≤ 3 := fun x w t hw0 => by
      have := (hw.2.2.2.1 w (by omega)).1
      unfold hq_ld
      split <;> omega
    have hL4 : ∀ v k t, k ≤ y 0 0 → hq_Lk y v k t ≤ 24 := fun v k t hk0 => by
      have : hq_Lk y v k t ≤ k * 3 := hp_sum_le _ _ 3 (fun j hj => ldb _ _ _ (hq_tu_f hw (by omega)).1)
      omega
    have inj : ∀ i j, i < y 0 0 → j < y 0 0 → i ≠ j → hq_tu y i ≠ hq_tu y j := fun i j hi hj h e => h (hq_tu_inj hw hi hj e)
    have eV : ∀ v k, hq_V y v k = hp_sum (fun i => (v (hq_tu y i) + 1) * 10 ^ (7 - i)) k + (v (hq_tu y k) + 1) * 10 ^ (7 - k) := fun _ _ => rfl
    obtain ⟨r, x', D1, e1, q1, q2, q3, q4, q5, q6⟩ := hq_goM N (by omega) hw hM (B := B) (v := v) (L := hq_Lk y v k) hk (fun t _ => by have := hL4 v k t (by omega); omega) (hq_bo_b hbo) (8 - v (hq_tu y k)) (v (hq_tu y k)) N D (by omega) (by omega) hF h75 (fun i hi => ⟨(h73 i hi).1, (h73 i hi).2.1⟩) hx h76 hB
    have hgo : F_X9_goesOn N (nI k) D = some (nI r, D1) := by
      have a := h75 k hk
      rw [F_X9_goesOn_eq, if_pos (hp_in (by omega) (by omega)), hp_cl (by omega), a]
      exact e1
    have hx' : x' ≤ 8 := by rcases q3 with ⟨_, z, _⟩ | ⟨_, z, _⟩ <;> omega
    have hF1 : hq_F D0 D1 := hq_F_w hF (fun c hc => q6 c (by omega) (by omega))
    have hB1 : hq_BM y B D1 := hq_BM_fr hB (by rw [q6 67 (by omega) (by omega)]) (by rw [q6 67 (by omega) (by omega)]) (by rw [q6 74 (by omega) (by omega)])
    have h75' : ∀ j, j < y 0 0 → D1 75 j = nI (hq_tu y j) := fun j hj => by rw [q6 75 (by omega) (by omega)]; exact h75 j hj
    have z68' : D1 68 = D0 68 := by rw [q6 68 (by omega) (by omega)]; exact z68
    obtain ⟨v', ev'⟩ : ∃ v', v' = hq_up v (hq_tu y k) x' := ⟨_, rfl⟩
    have vk : v' (hq_tu y k) = x' := by rw [ev', hq_up_s]
    have vi : ∀ i, i < k → v' (hq_tu y i) = v (hq_tu y i) := fun i hi => by rw [ev', hq_up_n (inj i k (by omega) hk (by omega))]
    have hbo' : hq_bo y (hq_E y k v') B := by
      rw [ev']
      exact hq_bo_x hw hk hbo (fun z a b => q2 z a b)
    have h73' : ∀ i, i < k → D1 73 (hq_tu y i) = nI (v (hq_tu y i)) := fun i hi => by rw [q5 _ (inj i k (by omega) hk (by omega))]; exact (h73 i hi).1
    rw [F_X9_findBounded_59_eq, if_neg (by rw [show (0 : Int32) = nI 0 from rfl, hp_ltN (by omega) (by omega)]; omega), z00, if_pos (by rw [show (0 : Int32) = nI 0 from rfl, hp_ltN (by omega) (by omega)]; omega), hgo, Option.bind_some]
    -- going back one place
    have back : ∀ u B2 D2, hq_F D0 D2 → (∀ j, j < y 0 0 → D2 75 j = nI (hq_tu y j)) → (∀ i, i < k → D2 73 (hq_tu y i) = nI (v (hq_tu y i))) → D2 73 (hq_tu y k) = nI u → u < 8 → v (hq_tu y k) ≤ u → (∀ t, t < 3 → D2 76 t = nI (hq_Lk y v k t + hq_ld u (y 1 (hq_tu y k)) t)) → hq_BM y B2 D2 → hq_bo y (hq_E y k (hq_up v (hq_tu y k) (u + 1))) B2 → ∃ B' D1, F_X9_findBounded_126 N f N (nI k) D2 = some D1 ∧ hq_F D0 D1 ∧ hq_BM y B' D1 ∧ hq_bo y (hq_okc y) B' := fun u B2 D2 g1 g2 g3 g4 g5 g6 g7 g8 g9 => by
      have len := (hw.2.2.2.1 (hq_tu y k) (by omega)).1
      have zz : D2 68 = D0 68 := g1.1 68 (by omega) (by omega)
      obtain ⟨D3, e3, f1, f2⟩ := hq_ulM N (by omega) (w := hq_tu y k) (x := u) (len := y 1 (hq_tu y k)) (by omega) g5 (by omega) (L := hq_Lk y v k) (fun t _ => by have := hL4 v k t (by omega); omega) (D := D2) g4 (by rw [zz]; exact m4 _ (by omega)) g7
      have n2 : ∀ i, i < k → hq_up v (hq_tu y k) (u + 1) (hq_tu y i) = v (hq_tu y i) := fun i hi => hq_up_n (inj i k (by omega) hk (by omega))
      obtain ⟨B', D4, e4, r1, r2, r3⟩ := ih k (hq_up v (hq_tu y k) (u + 1)) B2 (hy_w D3 73 (hq_tu y k) (nI (u + 1))) f hk (by
        have h1 := hq_V_s (y := y) (v := hq_up v (hq_tu y k) (u + 1)) (v' := v) (k := k) n2
        have h2 := eV (hq_up v (hq_tu y k) (u + 1)) k
        have h3 := eV v k
        rw [h1, hq_up_s] at h2
        have h4 : (v (hq_tu y k) + 1) * 10 ^ (7 - k) ≤ (u + 1) * 10 ^ (7 - k) := Nat.mul_le_mul_right _ (by omega)
        have h5 : (u + 1 + 1) * 10 ^ (7 - k) = (u + 1) * 10 ^ (7 - k) + 10 ^ (7 - k) := Nat.succ_mul _ _
        have h6 : 1 ≤ 10 ^ (7 - k) := hq_p10 _
        omega) (by omega) (hq_F_w g1 (fun c hc => by rw [hy_w_ne (by omega), f2 c (by omega)])) (fun j hj => by rw [hy_w_ne (by omega), f2 75 (by omega)]; exact g2 j hj) (fun i hi => by
        rw [hp_wn (Or.inr (inj i k (by omega) hk (by omega))), f2 73 (by omega), n2 i hi]
        exact ⟨g3 i hi, (h73 i hi).2⟩) (by rw [hp_ws, hq_up_s]) (by rw [hq_up_s]; omega) (fun t ht => by rw [hy_w_ne (by omega), f1 t ht, hq_Lk_c n2]) (hq_BM_fr g8 (by rw [hy_w_ne (by omega), f2 67 (by omega)]) (by rw [hy_w_ne (by omega), f2 67 (by omega)]) (by rw [hy_w_ne (by omega), f2 74 (by omega)])) (fun i hi => by
        by_cases z : i = k
        · rw [z, hq_up_s, hq_low_c n2]
          have := hlow k (Nat.le_refl k)
          omega
        · rw [n2 i (by omega), hq_low_c (fun j hj => n2 j (by omega))]
          exact hlow i hi) g9
      refine ⟨B', D4, ?_, r1, r2, r3⟩
      obtain ⟨n, hn⟩ : ∃ n, N = n + 1 := ⟨N - 1, by omega⟩
      have e5 : F_X9_findBounded_126 N f (n + 1) (nI k) D2 = some D4 := by
        have a1 := g2 k hk
        have a2 : D3 75 k = nI (hq_tu y k) := by rw [f2 75 (by omega)]; exact a1
        have a3 : D3 73 (hq_tu y k) = nI u := by rw [f2 73 (by omega)]; exact g4
        rw [F_X9_findBounded_126_eq, if_neg (by rw [show (0 : Int32) = nI 0 from rfl, hp_ltN (by omega) (by omega)]; omega), if_pos (hp_in (by omega) (by omega)), hp_cl (by omega), a1, e3, Option.bind_some, if_pos (hp_in (by omega) (by omega)), a2, if_pos (hp_in (by omega) (by omega)), if_pos (hp_in (by omega) (by omega)), hp_cl (by omega), a3, hp_inc]
        exact e4
      rw [← hn] at e5
      exact e5
    rcases q3 with ⟨r1, c8, acc, l1⟩ | ⟨r0, c8, l1⟩
    · subst r1
      rw [if_neg (show ¬ ((nI 1, D1).1 = 0) by show ¬ (nI 1 = 0); decide)]
      show ∃ B' D2, (if nI k + 1 < D1 68 0 then _ else _) = some D2 ∧ _
      rw [hp_inc, z68', m00]
      by_cases kn : k + 1 < y 0 0
      · rw [if_pos (by rw [hp_ltN (by omega) (by omega)]; exact kn), if_pos (hp_in (by omega) (by omega))]
        have kl := hq_laM N hw (v := v') (k := k + 1) (by omega) kn (D := D1) (by rw [z68']; exact m28 0 (by omega)) h75' (by rw [show k + 1 - 1 = k by omega, vk]; exact q4)
        have t9 := (hq_tu_f hw kn).1
        obtain ⟨v2, ev2⟩ : ∃ v2, v2 = hq_up v' (hq_tu y (k + 1)) (hq_low y v' (k + 1)) := ⟨_, rfl⟩
        have w1 : v2 (hq_tu y (k + 1)) = hq_low y v' (k + 1) := by rw [ev2, hq_up_s]
        have w2 : ∀ i, i < k + 1 → v2 (hq_tu y i) = v' (hq_tu y i) := fun i hi => by rw [ev2, hq_up_n (inj i (k + 1) (by omega) kn (by omega))]
        have w3 : ∀ i, i < k → v2 (hq_tu y i) = v (hq_tu y i) := fun i hi => by rw [w2 i (by omega), vi i hi]
        have w4 : v2 (hq_tu y k) = x' := by rw [w2 k (by omega), vk]
        obtain ⟨B', D3, e3, g1, g2, g3⟩ := ih (k + 1) v2 B (hy_w D1 73 (hq_tu y (k + 1)) (nI (hq_low y v' (k + 1)))) f kn (by
          have h1 := hq_V_s (y := y) (v := v2) (v' := v) (k := k) w3
          have h2 := eV v2 (k + 1)
          have h3 := eV v k
          have h4 : hp_sum (fun i => (v2 (hq_tu y i) + 1) * 10 ^ (7 - i)) (k + 1) = hp_sum (fun i => (v2 (hq_tu y i) + 1) * 10 ^ (7 - i)) k + (v2 (hq_tu y k) + 1) * 10 ^ (7 - k) := rfl
          rw [h4, h1, w4, w1] at h2
          have h5 : (v (hq_tu y k) + 1) * 10 ^ (7 - k) ≤ (x' + 1) * 10 ^ (7 - k) := Nat.mul_le_mul_right _ (by omega)
          have h6 : 1 * 10 ^ (7 - (k + 1)) ≤ (hq_low y v' (k + 1) + 1) * 10 ^ (7 - (k + 1)) := Nat.mul_le_mul_right _ (by omega)
          have h7 : 1 ≤ 10 ^ (7 - (k + 1)) := hq_p10 _
          omega) (by omega) (hq_F_w hF1 (fun c hc => hy_w_ne (by omega))) (fun j hj => by rw [hy_w_ne (by omega)]; exact h75' j hj) (fun i hi => by
          rw [hp_wn (Or.inr (inj i (k + 1) (by omega) kn (by omega)))]
          by_cases z : i = k
          · rw [z, w4]
            exact ⟨q4, c8, acc.1⟩
          · rw [w3 i (by omega)]
            exact ⟨h73' i (by omega), (h73 i (by omega)).2⟩) (by rw [hp_ws, w1]) (by
          rw [w1]
          refine hq_low_b (fun i hi => ?_)
          by_cases z : i = k
          · rw [z, vk]
            exact c8
          · rw [vi i (by omega)]
            exact (h73 i (by omega)).2.1) (fun t ht => by
          rw [hy_w_ne (by omega), l1 t ht]
          have a1 : hq_Lk y v2 (k + 1) t = hq_Lk y v2 k t + hq_ld (v2 (hq_tu y k)) (y 1 (hq_tu y k)) t := rfl
          rw [a1, w4, hq_Lk_c w3]) (hq_BM_fr hB1 (by rw [hy_w_ne (by omega)]) (by rw [hy_w_ne (by omega)]) (by rw [hy_w_ne (by omega)])) (fun i hi => by
          by_cases z : i = k + 1
          · rw [z, w1, hq_low_c w2]
            exact Nat.le_refl _
          · by_cases z2 : i = k
            · rw [z2, w4, hq_low_c w3]
              have := hlow k (Nat.le_refl k)
              omega
            · rw [w3 i (by omega), hq_low_c (fun j hj => w3 j (by omega))]
              exact hlow i (by omega)) (hq_bo_m hbo' (fun c hc => by
          obtain ⟨o1, i, hi, o2, o3⟩ := hc
          by_cases z : i = k + 1
          · exfalso
            rw [z, w1] at o3
            have a1 := hq_low_ok hw o1 kn
            have a2 : hq_low y c (k + 1) = hq_low y v' (k + 1) := hq_low_c (fun j hj => by rw [o2 j (by omega), w2 j hj])
            omega
          · exact ⟨o1, i, by omega, fun j hj => by rw [o2 j hj, w2 j (by omega)], by rw [← w2 i (by omega)]; exact o3⟩))
        refine ⟨B', D3, ?_, g1, g2, g3⟩
        have a1 := h75' (k + 1) kn
        rw [kl, Option.bind_some]
        dsimp only
        rw [hp_cl (by omega), if_pos (by rw [a1]; exact hp_in (by omega) (by omega)), a1, hp_cl (by omega)]
        exact e3
      · have kn1 : k + 1 = y 0 0 := by omega
        rw [if_neg (by rw [hp_ltN (by omega) (by omega)]; exact kn)]
        have hv1 : ∀ w, w < y 0 0 → D1 73 w = nI (v' w) ∧ v' w < 8 ∧ hp_may (y 0 1) (v' w) = 1 := fun w hw0 => by
          have p := hq_po_f hw hw0
          rw [← p.2]
          by_cases z : hq_po y w = k
          · rw [z, vk]
            exact ⟨q4, c8, acc.1⟩
          · rw [vi _ (by omega)]
            exact ⟨h73' _ (by omega), (h73 _ (by omega)).2⟩
        have hvok : hq_okc y v' := by
          refine ⟨fun w hw0 => (hv1 w hw0).2, hq_low_rt hw (fun i hi => ?_), fun t ht => ?_⟩
          · by_cases z : i = k
            · rw [z, vk, hq_low_c vi]
              have := hlow k (Nat.le_refl k)
              omega
            · rw [vi i (by omega), hq_low_c (fun j hj => vi j (by omega))]
              exact hlow i (by omega)
          · rw [← hq_Lk_n hw v' t, ← kn1]
            have a1 : hq_Lk y v' (k + 1) t = hq_Lk y v' k t + hq_ld (v' (hq_tu y k)) (y 1 (hq_tu y k)) t := rfl
            rw [a1, vk, hq_Lk_c vi]
            exact acc.2.1 t ht
        have agree : ∀ c : Nat → Nat, (∀ j, j ≤ k → c (hq_tu y j) = v' (hq_tu y j)) → ∀ w, w < y 0 0 → c w = v' w := fun c hc w hw0 => by
          have p := hq_po_f hw hw0
          rw [← p.2]
          exact hc _ (by omega)
        have split3 : ∀ c, hq_E y k (hq_up v (hq_tu y k) (x' + 1)) c → hq_E y k v' c ∨ ∀ w, w < y 0 0 → c w = v' w := fun c hc => by
          obtain ⟨o1, i, hi, o2, o3⟩ := hc
          have o2' : ∀ j, j < i → c (hq_tu y j) = v' (hq_tu y j) := fun j hj => by
            rw [o2 j hj, hq_up_n (inj j k (by omega) hk (by omega)), vi j (by omega)]
          by_cases z : i = k
          · rw [z, hq_up_s] at o3
            by_cases z2 : c (hq_tu y k) < x'
            · exact Or.inl ⟨o1, k, Nat.le_refl k, fun j hj => o2' j (by omega), by rw [vk]; exact z2⟩
            · refine Or.inr (agree c (fun j hj => ?_))
              by_cases z3 : j = k
              · rw [z3, vk]
                omega
              · exact o2' j (by omega)
          · rw [hq_up_n (inj i k (by omega) hk (by omega))] at o3
            exact Or.inl ⟨o1, i, hi, o2', by rw [vi i (by omega)]; exact o3⟩
        obtain ⟨r2, e2, hr⟩ := hq_ibM N (by omega) hw (B := B) (v := v') (D := D1) (by rw [z68']; exact m00) (fun w hw0 => ⟨(hv1 w hw0).1, (hv1 w hw0).2.1⟩) (hq_bo_b hbo) hB1
        rw [e2, Option.bind_some]
        have dd : nI (k + 1) + -1 = nI k := hp_dec k
        rcases hr with ⟨rr, hr⟩ | ⟨rr, b, hb, hr⟩
        · subst rr
          obtain ⟨D2, e3, f1, f2, f3⟩ := hq_wbM N (by omega) hw (v := v') (D0 := D1) (by rw [z68']; exact m00) (fun w hw0 => ⟨(hv1 w hw0).1, (hv1 w hw0).2.1⟩)
          have g1 : hq_F D0 D2 := ⟨fun c a b => by rw [f2 c b (by omega)]; exact hF1.1 c a b, fun j a b => by rw [f3 j a b]; exact hF1.2 j a b⟩
          obtain ⟨B', D3, e4, r1, r3, r4⟩ := back x' (some v') D2 g1 (fun j hj => by rw [f2 75 (by omega) (by omega)]; exact h75' j hj) (fun i hi => by rw [f2 73 (by omega) (by omega)]; exact h73' i hi) (by rw [f2 73 (by omega) (by omega)]; exact q4) c8 q1 (fun t ht => by rw [f2 76 (by omega) (by omega)]; exact l1 t ht) f1 (by
            refine ⟨hvok, fun c hc => ?_⟩
            rcases split3 c hc with z | z
            · cases B with
              | none => exact absurd z (hbo' c)
              | some b => exact fun q => hbo'.2 c z (hq_bt_tr q (hr b rfl))
            · exact hq_bt_ir z)
          refine ⟨B', D3, ?_, r1, r3, r4⟩
          show (if nI 1 = 0 then _ else (F_X9_isBest N D1).bind _) = _
          rw [if_neg (by decide), e3, Option.bind_some, F_X9_findBounded_123_eq, dd]
          exact e4
        · subst rr
          obtain ⟨B', D3, e4, r1, r3, r4⟩ := back x' B D1 hF1 h75' h73' q4 c8 q1 l1 hB1 (by
            rw [hb]
            rw [hb] at hbo'
            refine ⟨hbo'.1, fun c hc => ?_⟩
            rcases split3 c hc with z | z
            · exact hbo'.2 c z
            · exact fun q => hr (hq_bt_c z q))
          refine ⟨B', D3, ?_, r1, r3, r4⟩
          show (if nI 0 = 0 then _ else _) = _
          rw [if_pos (show nI 0 = 0 from rfl), F_X9_findBounded_123_eq, dd]
          exact e4
    · subst r0
      rw [if_pos (show (nI 0, D1).1 = 0 from rfl), F_X9_findBounded_123_eq]
      subst c8
      by_cases k0 : k = 0
      · subst k0
        refine ⟨B, D1, ?_, hF1, hB1, hq_bo_m hbo' (fun c hc => ⟨hc, 0, Nat.le_refl 0, fun j hj => absurd hj (by omega), by rw [vk]; exact (hc.1 _ t8).1⟩)⟩
        obtain ⟨n, hn⟩ : ∃ n, N = n + 1 := ⟨N - 1, by omega⟩
        obtain ⟨f2, hf2⟩ : ∃ f2, f = f2 + 1 := ⟨f - 1, by omega⟩
        have e5 : F_X9_findBounded_126 N f (n + 1) (nI 0 + -1) D1 = some D1 := by
          rw [F_X9_findBounded_126_eq, if_pos (by decide), hf2, F_X9_findBounded_59_eq, if_pos (by decide)]
        rw [← hn] at e5
        exact e5
      · obtain ⟨k', rfl⟩ : ∃ k', k = k' + 1 := ⟨k - 1, by omega⟩
        have tk := (hq_tu_f hw (k := k') (by omega)).1
        have len := (hw.2.2.2.1 (hq_tu y k') (by omega)).1
        obtain ⟨a1, a2, a3⟩ := h73 k' (by omega)
        have d73 := h73' k' (by omega)
        obtain ⟨D3, e3, f1, f2⟩ := hq_ulM N (by omega) (w := hq_tu y k') (x := v (hq_tu y k')) (len := y 1 (hq_tu y k')) (by omega) a2 (by omega) (L := hq_Lk y v k') (fun t _ => by have := hL4 v k' t (by omega); omega) (D := D1) d73 (by rw [z68']; exact m4 _ (by omega)) (fun t ht => l1 t ht)
        have n2 : ∀ i, i < k' → hq_up v (hq_tu y k') (v (hq_tu y k') + 1) (hq_tu y i) = v (hq_tu y i) := fun i hi => hq_up_n (inj i k' (by omega) (by omega) (by omega))
        obtain ⟨B', D4, e4, r1, r2, r3⟩ := ih k' (hq_up v (hq_tu y k') (v (hq_tu y k') + 1)) B (hy_w D3 73 (hq_tu y k') (nI (v (hq_tu y k') + 1))) f (by omega) (by
          have h1 := hq_V_s (y := y) (v := hq_up v (hq_tu y k') (v (hq_tu y k') + 1)) (v' := v) (k := k') n2
          have h2 := eV (hq_up v (hq_tu y k') (v (hq_tu y k') + 1)) k'
          have h3 := eV v (k' + 1)
          have h4 : hp_sum (fun i => (v (hq_tu y i) + 1) * 10 ^ (7 - i)) (k' + 1) = hp_sum (fun i => (v (hq_tu y i) + 1) * 10 ^ (7 - i)) k' + (v (hq_tu y k') + 1) * 10 ^ (7 - k') := rfl
          rw [h1, hq_up_s] at h2
          rw [h4] at h3
          have h5 : (v (hq_tu y k') + 1 + 1) * 10 ^ (7 - k') = (v (hq_tu y k') + 1) * 10 ^ (7 - k') + 10 ^ (7 - k') := Nat.succ_mul _ _
          have h6 : 10 ^ (7 - k') = 10 * 10 ^ (7 - (k' + 1)) := by
            rw [show 7 - k' = 7 - (k' + 1) + 1 by omega, Nat.pow_succ, Nat.mul_comm]
          have h7 : 1 ≤ 10 ^ (7 - (k' + 1)) := hq_p10 _
          have h8 : (v (hq_tu y (k' + 1)) + 1) * 10 ^ (7 - (k' + 1)) ≤ 9 * 10 ^ (7 - (k' + 1)) := Nat.mul_le_mul_right _ (by omega)
          omega) (by omega) (hq_F_w hF1 (fun c hc => by rw [hy_w_ne (by omega), f2 c (by omega)])) (fun j hj => by rw [hy_w_ne (by omega), f2 75 (by omega)]; exact h75' j hj) (fun i hi => by
          rw [hp_wn (Or.inr (inj i k' (by omega) (by omega) (by omega))), f2 73 (by omega), n2 i hi]
          exact ⟨h73' i (by omega), (h73 i (by omega)).2⟩) (by rw [hp_ws, hq_up_s]) (by rw [hq_up_s]; omega) (fun t ht => by rw [hy_w_ne (by omega), f1 t ht, hq_Lk_c n2]) (hq_BM_fr hB1 (by rw [hy_w_ne (by omega), f2 67 (by omega)]) (by rw [hy_w_ne (by omega), f2 67 (by omega)]) (by rw [hy_w_ne (by omega), f2 74 (by omega)])) (fun i hi => by
          by_cases z : i = k'
          · rw [z, hq_up_s, hq_low_c n2]
            have := hlow k' (by omega)
            omega
          · rw [n2 i (by omega), hq_low_c (fun j hj => n2 j (by omega))]
            exact hlow i (by omega)) (hq_bo_m hbo' (fun c hc => by
          obtain ⟨o1, i, hi, o2, o3⟩ := hc
          have o2' : ∀ j, j < i → c (hq_tu y j) = v' (hq_tu y j) := fun j hj => by
            rw [o2 j hj, n2 j (by omega), vi j (by omega)]
          by_cases z : i = k'
          · rw [z, hq_up_s] at o3
            by_cases z2 : c (hq_tu y k') < v (hq_tu y k')
            · exact ⟨o1, k', by omega, fun j hj => o2' j (by omega), by rw [vi k' (by omega)]; exact z2⟩
            · refine ⟨o1, k' + 1, Nat.le_refl _, fun j hj => ?_, by rw [vk]; exact (o1.1 _ t8).1⟩
              by_cases z3 : j = k'
              · rw [z3, vi k' (by omega)]
                omega
              · exact o2' j (by omega)
          · rw [n2 i (by omega)] at o3
            exact ⟨o1, i, by omega, o2', by rw [vi i (by omega)]; exact o3⟩))
        refine ⟨B', D4, ?_, r1, r2, r3⟩
        obtain ⟨n, hn⟩ : ∃ n, N = n + 1 := ⟨N - 1, by omega⟩
        have dd : nI (k' + 1) + -1 = nI k' := hp_dec k'
        have e5 : F_X9_findBounded_126 N f (n + 1) (nI k') D1 = some D4 := by
          have b1 := h75' k' (by omega)
          have b2 : D3 75 k' = nI (hq_tu y k') := by rw [f2 75 (by omega)]; exact b1
          have b3 : D3 73 (hq_tu y k') = nI (v (hq_tu y k')) := by rw [f2 73 (by omega)]; exact d73
          rw [F_X9_findBounded_126_eq, if_neg (by rw [show (0 : Int32) = nI 0 from rfl, hp_ltN (by omega) (by omega)]; omega), if_pos (hp_in (by omega) (by omega)), hp_cl (by omega), b1, e3, Option.bind_some, if_pos (hp_in (by omega) (by omega)), b2, if_pos (hp_in (by omega) (by omega)), if_pos (hp_in (by omega) (by omega)), hp_cl (by omega), b3, hp_inc]
          exact e4
        rw [← hn] at e5
        show F_X9_findBounded_126 N f N (nI (k' + 1) + -1) D1 = some D4
        rw [dd]
        exact e5
theorem hq_fbM (N : Nat) (hN : 1000000000 ≤ N) {y : Nat → Nat → Nat} {pu : Int32} (hw : hp_WF y) {D : hy_M} (hM : hp_MY 68 y pu D) : ∃ B D1, F_X9_findBounded N D = some D1 ∧ hq_F D D1 ∧ hq_BM y B D1 ∧ hq_bo y (hq_okc y) B := by
  have b0 := hw.1
  obtain ⟨m00, m01, m02, m03, m4, m12, m20, m30, m28, m46, m70, m51, m67, m49⟩ := hp_Mf hw hM
  obtain ⟨D1, e1, f1, f2⟩ := hq_orM N hw hM (y 0 0) 0 N D (by omega) (by omega) rfl (fun j hj => absurd hj (by omega))
  have e1' : F_X9_orders N D = some D1 := by
    rw [F_X9_orders_eq]
    exact e1
  have l : ∀ m i f D2, i + m = 3 → m < f → (∀ t, t < i → D2 76 t = nI 0) → ∃ D3, F_X9_findBounded_11 N f (nI i) D2 = F_X9_findBounded_11 N 1 (nI 3) D3 ∧ (∀ t, t < 3 → D3 76 t = nI 0) ∧ ∀ c, c ≠ 76 → D3 c = D2 c := by
    intro m
    induction m with
    | zero =>
      intro i f D2 e hf h
      obtain ⟨f, rfl⟩ : ∃ f', f = f' + 1 := ⟨f - 1, by omega⟩
      have e : i = 3 := by omega
      subst e
      refine ⟨D2, ?_, h, fun _ _ => rfl⟩
      show F_X9_findBounded_11 N (f + 1) (nI 3) D2 = F_X9_findBounded_11 N (0 + 1) (nI 3) D2
      have n3 : ¬ nI 3 < (3 : Int32) := by decide
      rw [F_X9_findBounded_11_eq, F_X9_findBounded_11_eq, if_neg n3, if_neg n3]
    | succ m ih =>
      intro i f D2 e hf h
      obtain ⟨f, rfl⟩ : ∃ f', f = f' + 1 := ⟨f - 1, by omega⟩
      obtain ⟨D3, e3, g1, g2⟩ := ih (i + 1) f (hy_w D2 76 i (nI 0)) (by omega) (by omega) (fun t ht => by
        by_cases z : t = i
        · rw [z, hp_ws]
        · rw [hp_wn (Or.inr z)]
          exact h t (by omega))
      refine ⟨D3, ?_, g1, fun c hc => by rw [g2 c hc, hy_w_ne hc]⟩
      rw [← e3, F_X9_findBounded_11_eq, if_pos (by rw [show (3 : Int32) = nI 3 from rfl, hp_ltN (by omega) (by omega)]; omega), if_pos (hp_in (by omega) (by omega)), hp_cl (by omega), hp_inc]
      rfl
  obtain ⟨D3, e3, g1, g2⟩ := l 3 0 N (hy_w D1 67 11 (-1)) rfl (by omega) (fun t ht => absurd ht (by omega))
  have hF3 : hq_F D D3 := ⟨fun c a b => by rw [g2 c (by omega), hy_w_ne b, f2 c (by omega)], fun j a b => by rw [g2 67 (by omega), hp_wn (Or.inr a), f2 67 (by omega)]⟩
  have z68 : D3 68 = D 68 := hF3.1 68 (by omega) (by omega)
  have z00 : D3 68 0 = nI (y 0 0) := by rw [z68]; exact m00
  have z75 : ∀ j, j < y 0 0 → D3 75 j = nI (hq_tu y j) := fun j hj => by rw [g2 75 (by omega), hy_w_ne (by omega)]; exact f1 j hj
  have z11 : D3 67 11 = -nI 1 := by rw [g2 67 (by omega), hp_ws]; rfl
  have eN : F_X9_findBounded N D = F_X9_findBounded_11 N (0 + 1) (nI 3) D3 := by
    rw [F_X9_findBounded_eq, e1', Option.bind_some]
    exact e3
  rw [eN, F_X9_findBounded_11_eq, if_neg (by decide), z00]
  by_cases n0 : 0 < y 0 0
  · have t8 := (hq_tu_f hw n0).1
    have z := z75 0 n0
    rw [if_pos (by rw [show (0 : Int32) = nI 0 from rfl, hp_ltN (by omega) (by omega)]; exact n0), z, if_pos (hp_in (by omega) (by omega)), hp_cl (by omega)]
    have lo : ∀ v, hq_low y v 0 = 0 := fun v => by unfold hq_low; rw [if_pos (Or.inl rfl)]
    obtain ⟨B', D4, e4, r1, r2, r3⟩ := hq_mainM N hN hw hM 100000000 0 (fun _ => 0) none (hy_w D3 73 (hq_tu y 0) (nI 0)) N n0 (by omega) (by omega) (hq_F_w hF3 (fun c hc => hy_w_ne (by omega))) (fun j hj => by rw [hy_w_ne (by omega)]; exact z75 j hj) (fun i hi => absurd hi (by omega)) (hp_ws _ _ _ _) (by omega) (fun t ht => by rw [hy_w_ne (by omega)]; exact g1 t ht) (by
      show hy_w D3 73 (hq_tu y 0) (nI 0) 67 11 = -nI 1
      rw [hy_w_ne (by omega)]
      exact z11) (fun i hi => by
      have : i = 0 := by omega
      rw [this, lo]
      omega) (fun c hc => by
      obtain ⟨_, i, hi, _, h3⟩ := hc
      have h3' : c (hq_tu y i) < 0 := h3
      omega)
    exact ⟨B', D4, e4, r1, r2, r3⟩
  · have n00 : y 0 0 = 0 := by omega
    rw [if_neg (by rw [show (0 : Int32) = nI 0 from rfl, hp_ltN (by omega) (by omega)]; exact n0)]
    obtain ⟨D4, e4, r1, r2, r3⟩ := hq_wbM N (by omega) hw (v := fun _ => 0) (D0 := D3) z00 (fun w hw0 => absurd hw0 (by omega))
    have hF4 : hq_F D D4 := ⟨fun c a b => by rw [r2 c b (by omega)]; exact hF3.1 c a b, fun j a b => by rw [r3 j a b]; exact hF3.2 j a b⟩
    refine ⟨some (fun _ => 0), D4, ?_, hF4, r1, ?_⟩
    · obtain ⟨n, hn⟩ : ∃ n, N = n + 1 := ⟨N - 1, by omega⟩
      have z4 : D4 68 0 = nI 0 := by
        have : D4 68 = D 68 := hF4.1 68 (by omega) (by omega)
        rw [this, m00, n00]
      have e5 : F_X9_findBounded_59 N (n + 1) 0 D4 = some D4 := by
        rw [F_X9_findBounded_59_eq, if_neg (by decide), z4, if_neg (by decide)]
      rw [← hn] at e5
      rw [e4, Option.bind_some]
      exact e5
    · have s0 : ∀ t, y 8 t = 0 ∨ 2 ≤ t := fun t => by
        have := hw.2.2.2.2.2.1
        by_cases q : t < 2
        · have tt : t = 0 ∨ t = 1 := by omega
          rcases tt with rfl | rfl <;> omega
        · omega
      refine ⟨⟨fun w hw0 => absurd hw0 (by omega), fun t ht p hp => ?_, fun t ht => ?_⟩, fun c _ => hq_bt_ir (fun w hw0 => absurd hw0 (by omega))⟩
      · rcases s0 t with z | z <;> omega
      · unfold hp_load
        rw [n00]
        exact Nat.zero_le _
