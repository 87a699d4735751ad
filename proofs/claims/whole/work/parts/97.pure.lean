/-! ===== yard: made anew ===== -/
def hp_aw (y : Nat → Nat → Nat) (t c k : Nat) : Nat → Nat → Nat := hp_yw (hp_yw (hp_yw (hp_yw (hp_yw (hp_yw y 1 c 1) 2 c 0) 3 c t) 4 c k) (6 + t) k c) 8 t (k + 1)
theorem hp_aw_v (y : Nat → Nat → Nat) (t c k i j : Nat) : hp_aw y t c k i j = if i = 8 ∧ j = t then k + 1 else if i = 6 + t ∧ j = k then c else if i = 4 ∧ j = c then k else if i = 3 ∧ j = c then t else if i = 2 ∧ j = c then 0 else if i = 1 ∧ j = c then 1 else y i j := rfl
def hp_bl (tp : Nat → Nat) : Nat → Nat → Nat → (Nat → Nat → Nat) → Nat → Nat → Nat
  | 0, _, _, y => y
  | m + 1, i, t, y => if tp i = 124 then hp_bl tp m (i + 1) 1 y else hp_bl tp m (i + 1) t (hp_aw y t (tp i - 97) (y 8 t))
def hp_yI (met : Nat) (y : Nat → Nat → Nat) : Prop := y 0 1 < 4 ∧ (∀ t, t < 3 → y 9 t ≤ 24) ∧ (∀ w, w < 8 → y 1 w ≤ 3 ∧ y 2 w < 8 ∧ y 3 w < 2) ∧ (∀ t, t < 2 → ∀ j, j < 8 → y (6 + t) j < 8) ∧ y 8 0 + y 8 1 = hp_pc met ∧ (∀ w, w < 8 → hp_bit met w = 1 → 1 ≤ y 1 w ∧ y 4 w < y 8 (y 3 w) ∧ y (6 + y 3 w) (y 4 w) = w) ∧ ∀ t, t < 2 → ∀ j, j < y 8 t → hp_bit met (y (6 + t) j) = 1 ∧ y 3 (y (6 + t) j) = t ∧ y 4 (y (6 + t) j) = j
theorem hp_yI_s {met : Nat} {y : Nat → Nat → Nat} (h : hp_yI met y) (hm : met < 256) {t c : Nat} (ht : t < 2) (hc : c < 8) (hb : hp_bit met c ≠ 1) : hp_yI (met ||| 2 ^ c) (hp_aw y t c (y 8 t)) ∧ y 8 t < 8 := by
  obtain ⟨h1, h2, h3, h4, h5, h6, h7⟩ := h
  obtain ⟨-, o2, o3, o4⟩ := hp_or8f hm hc
  have o3 : hp_pc (met ||| 2 ^ c) = hp_pc met + 1 := by
    rcases o3 with z | z
    · exact absurd z hb
    · exact z
  have o5 := hp_pc8 o2
  have tt : t = 0 ∨ t = 1 := by omega
  have k8 : y 8 t < 8 := by rcases tt with rfl | rfl <;> omega
  obtain ⟨k, ek⟩ : ∃ k, k = y 8 t := ⟨_, rfl⟩
  rw [← ek] at k8
  rw [← ek]
  have v1 : ∀ w, hp_aw y t c k 1 w = if w = c then 1 else y 1 w := fun w => by
    rw [hp_aw_v, if_neg (by omega), if_neg (by omega), if_neg (by omega), if_neg (by omega), if_neg (by omega)]
    by_cases q : w = c
    · rw [if_pos ⟨rfl, q⟩, if_pos q]
    · rw [if_neg (fun z => q z.2), if_neg q]
  have v2 : ∀ w, hp_aw y t c k 2 w = if w = c then 0 else y 2 w := fun w => by
    rw [hp_aw_v, if_neg (by omega), if_neg (by omega), if_neg (by omega), if_neg (by omega)]
    by_cases q : w = c
    · rw [if_pos ⟨rfl, q⟩, if_pos q]
    · rw [if_neg (fun z => q z.2), if_neg q, if_neg (by omega)]
  have v3 : ∀ w, hp_aw y t c k 3 w = if w = c then t else y 3 w := fun w => by
    rw [hp_aw_v, if_neg (by omega), if_neg (by omega), if_neg (by omega)]
    by_cases q : w = c
    · rw [if_pos ⟨rfl, q⟩, if_pos q]
    · rw [if_neg (fun z => q z.2), if_neg q, if_neg (by omega), if_neg (by omega)]
  have v4 : ∀ w, hp_aw y t c k 4 w = if w = c then k else y 4 w := fun w => by
    rw [hp_aw_v, if_neg (by omega), if_neg (by omega)]
    by_cases q : w = c
    · rw [if_pos ⟨rfl, q⟩, if_pos q]
    · rw [if_neg (fun z => q z.2), if_neg q, if_neg (by omega), if_neg (by omega), if_neg (by omega)]
  have v6 : ∀ s j, s < 2 → hp_aw y t c k (6 + s) j = if s = t ∧ j = k then c else y (6 + s) j := fun s j hs => by
    rw [hp_aw_v, if_neg (by omega)]
    by_cases q : s = t ∧ j = k
    · rw [if_pos (by omega), if_pos q]
    · rw [if_neg (by omega), if_neg q, if_neg (by omega), if_neg (by omega), if_neg (by omega), if_neg (by omega)]
  have v8 : ∀ s, hp_aw y t c k 8 s = if s = t then k + 1 else y 8 s := fun s => by
    rw [hp_aw_v]
    by_cases q : s = t
    · rw [if_pos ⟨rfl, q⟩, if_pos q]
    · rw [if_neg (fun z => q z.2), if_neg q, if_neg (by omega), if_neg (by omega), if_neg (by omega), if_neg (by omega), if_neg (by omega)]
  have v0 : ∀ i j, (i = 0 ∨ i = 9) → hp_aw y t c k i j = y i j := fun i j hi => by
    rw [hp_aw_v, if_neg (by omega), if_neg (by omega), if_neg (by omega), if_neg (by omega), if_neg (by omega), if_neg (by omega)]
  have v8m : ∀ s, y 8 s ≤ hp_aw y t c k 8 s := fun s => by
    rw [v8]
    split
    · rename_i q
      rw [q]
      omega
    · omega
  refine ⟨⟨by rw [v0 0 1 (by omega)]; exact h1, fun s hs => by rw [v0 9 s (by omega)]; exact h2 s hs, fun w hw => ?_, fun s hs j hj => ?_, ?_, fun w hw q => ?_, fun s hs j hj => ?_⟩, k8⟩
  · rw [v1, v2, v3]
    have := h3 w hw
    split <;> omega
  · rw [v6 s j hs]
    split
    · exact hc
    · exact h4 s hs j hj
  · rw [v8, v8, o3]
    rcases tt with rfl | rfl
    · rw [if_pos rfl, if_neg (by omega)]
      omega
    · rw [if_neg (by omega), if_pos rfl]
      omega
  · by_cases e : w = c
    · rw [v1, v3, v4, if_pos e, if_pos e, if_pos e, v8, if_pos rfl, v6 t k ht, if_pos ⟨rfl, rfl⟩]
      omega
    · have q2 : hp_bit met w = 1 := by
        rcases (o4 w hw).mp q with z | z
        · exact z
        · exact absurd z e
      obtain ⟨a1, a2, a3⟩ := h6 w hw q2
      have tw := (h3 w hw).2.2
      rw [v1, v3, v4, if_neg e, if_neg e, if_neg e, v6 _ _ tw, if_neg (fun z => by
        obtain ⟨z1, z2⟩ := z
        rw [z1] at a2
        omega)]
      have := v8m (y 3 w)
      exact ⟨a1, by omega, a3⟩
  · rw [v8] at hj
    by_cases q : s = t ∧ j = k
    · rw [v6 s j hs, if_pos q, v3, v4, if_pos rfl, if_pos rfl]
      exact ⟨(o4 c hc).mpr (Or.inr rfl), q.1.symm, q.2.symm⟩
    · have hj2 : j < y 8 s := by
        by_cases q2 : s = t
        · rw [if_pos q2] at hj
          rw [q2, ← ek]
          have : j ≠ k := fun z => q ⟨q2, z⟩
          omega
        · rw [if_neg q2] at hj
          exact hj
      obtain ⟨a1, a2, a3⟩ := h7 s hs j hj2
      have ss : s = 0 ∨ s = 1 := by omega
      have j8 : j < 8 := by rcases ss with rfl | rfl <;> omega
      have b8 := h4 s hs j j8
      have hne : y (6 + s) j ≠ c := fun z => hb (z ▸ a1)
      rw [v6 s j hs, if_neg q, v3, v4, if_neg hne, if_neg hne]
      exact ⟨(o4 _ b8).mpr (Or.inl a1), a2, a3⟩
theorem hp_yI_0 {y : Nat → Nat → Nat} (hw : hp_WF y) : hp_yI 0 (hp_yw (hp_yw y 8 0 0) 8 1 0) := by
  have n : ∀ i j, i ≠ 8 → hp_yw (hp_yw y 8 0 0) 8 1 0 i j = y i j := fun i j h => by rw [hp_yw_n (Or.inl h), hp_yw_n (Or.inl h)]
  have e0 : hp_yw (hp_yw y 8 0 0) 8 1 0 8 0 = 0 := by rw [hp_yw_n (Or.inr (by omega)), hp_yw_s]
  have e1 : hp_yw (hp_yw y 8 0 0) 8 1 0 8 1 = 0 := hp_yw_s _ _ _ _
  refine ⟨by rw [n 0 1 (by omega)]; exact hw.2.1, fun t ht => by rw [n 9 t (by omega)]; exact hw.2.2.2.2.2.2.1 t ht, fun w h8 => by rw [n 1 w (by omega), n 2 w (by omega), n 3 w (by omega)]; exact hw.2.2.2.1 w h8, fun t ht j hj => by rw [n (6 + t) j (by omega)]; exact hw.2.2.2.2.1 t ht j hj, by rw [e0, e1]; decide, fun w _ q => ?_, fun t ht j hj => ?_⟩
  · have : hp_bit 0 w = 0 := by unfold hp_bit; simp
    omega
  · have tt : t = 0 ∨ t = 1 := by omega
    rcases tt with rfl | rfl
    · rw [e0] at hj
      omega
    · rw [e1] at hj
      omega
theorem hp_aw_sum {met : Nat} {y : Nat → Nat → Nat} {t c : Nat} (ht : t < 2) : hp_aw y t c (y 8 t) 8 0 + hp_aw y t c (y 8 t) 8 1 = y 8 0 + y 8 1 + 1 := by
  rw [hp_aw_v, hp_aw_v]
  have tt : t = 0 ∨ t = 1 := by omega
  rcases tt with rfl | rfl
  · simp
    omega
  · simp
    omega
theorem hp_awX (N : Nat) {y : Nat → Nat → Nat} {pu : Int32} {D : hy_M} {t c : Nat} (ht : t < 2) (hc : c < 8) (h8 : ∀ s, s < 2 → y 8 s ≤ 8) (hk : y 8 t < 8) (h : hp_CY 1 (hp_yw y 0 0 (y 8 0 + y 8 1)) pu D) : ∃ D1, F_X7_addWanted N (nI t) (nI c) D = some D1 ∧ hp_CY 1 (hp_yw (hp_aw y t c (y 8 t)) 0 0 (y 8 0 + y 8 1 + 1)) pu D1 ∧ ∀ q, (q = 0 ∨ 11 ≤ q) → D1 q = D q := by
  obtain ⟨k, ek⟩ : ∃ k, k = y 8 t := ⟨_, rfl⟩
  obtain ⟨s, es⟩ : ∃ s, s = y 8 0 + y 8 1 := ⟨_, rfl⟩
  have s16 : s ≤ 16 := by
    have := h8 0 (by omega)
    have := h8 1 (by omega)
    omega
  rw [← es] at h ⊢
  rw [← ek] at hk ⊢
  have x9 : D 9 t = nI k := by
    have z : D 9 t = nI (hp_yw y 0 0 s 8 t) := hp_yb h (i := 8) (j := t) (by show t < 2; exact ht) (by omega)
    rw [hp_yw_n (Or.inl (by omega)), ← ek] at z
    exact z
  have x0 : D 1 0 = nI s := by
    have z : D 1 0 = nI (hp_yw y 0 0 s 0 0) := hp_yb h (i := 0) (j := 0) (by decide) (by omega)
    rw [hp_yw_s] at z
    exact z
  have u6 : ∀ t, t < 2 → hp_ub (6 + t) = 8 := by decide
  have c1 : hp_CY 1 (hp_yw (hp_yw y 0 0 s) 1 c 1) pu (hy_w D 2 c (nI 1)) := hp_CY_w 1 c 1 h (by omega) (show c < 8 from hc)
  have c2 : hp_CY 1 (hp_yw (hp_yw (hp_yw y 0 0 s) 1 c 1) 2 c 0) pu (hy_w (hy_w D 2 c (nI 1)) 3 c (nI 0)) := hp_CY_w 2 c 0 c1 (by omega) (show c < 8 from hc)
  have c3 : hp_CY 1 (hp_yw (hp_yw (hp_yw (hp_yw y 0 0 s) 1 c 1) 2 c 0) 3 c t) pu (hy_w (hy_w (hy_w D 2 c (nI 1)) 3 c (nI 0)) 4 c (nI t)) := hp_CY_w 3 c t c2 (by omega) (show c < 8 from hc)
  have c4 : hp_CY 1 (hp_yw (hp_yw (hp_yw (hp_yw (hp_yw y 0 0 s) 1 c 1) 2 c 0) 3 c t) 4 c k) pu (hy_w (hy_w (hy_w (hy_w D 2 c (nI 1)) 3 c (nI 0)) 4 c (nI t)) 5 c (nI k)) := hp_CY_w 4 c k c3 (by omega) (show c < 8 from hc)
  have c5 : hp_CY 1 (hp_yw (hp_yw (hp_yw (hp_yw (hp_yw (hp_yw y 0 0 s) 1 c 1) 2 c 0) 3 c t) 4 c k) (6 + t) k c) pu (hy_w (hy_w (hy_w (hy_w (hy_w D 2 c (nI 1)) 3 c (nI 0)) 4 c (nI t)) 5 c (nI k)) (7 + t) k (nI c)) := by
    rw [show 7 + t = 1 + (6 + t) by omega]
    exact hp_CY_w (6 + t) k c c4 (by omega) (by rw [u6 t ht]; exact hk)
  have c6 : hp_CY 1 (hp_yw (hp_yw (hp_yw (hp_yw (hp_yw (hp_yw (hp_yw y 0 0 s) 1 c 1) 2 c 0) 3 c t) 4 c k) (6 + t) k c) 8 t (k + 1)) pu (hy_w (hy_w (hy_w (hy_w (hy_w (hy_w D 2 c (nI 1)) 3 c (nI 0)) 4 c (nI t)) 5 c (nI k)) (7 + t) k (nI c)) 9 t (nI (k + 1))) := hp_CY_w 8 t (k + 1) c5 (by omega) (show t < 2 from ht)
  have c7 : hp_CY 1 (hp_yw (hp_yw (hp_yw (hp_yw (hp_yw (hp_yw (hp_yw (hp_yw y 0 0 s) 1 c 1) 2 c 0) 3 c t) 4 c k) (6 + t) k c) 8 t (k + 1)) 0 0 (s + 1)) pu (hy_w (hy_w (hy_w (hy_w (hy_w (hy_w (hy_w D 2 c (nI 1)) 3 c (nI 0)) 4 c (nI t)) 5 c (nI k)) (7 + t) k (nI c)) 9 t (nI (k + 1))) 1 0 (nI (s + 1))) := hp_CY_w 0 0 (s + 1) c6 (by omega) (by decide)
  have ey : hp_yw (hp_yw (hp_yw (hp_yw (hp_yw (hp_yw (hp_yw (hp_yw y 0 0 s) 1 c 1) 2 c 0) 3 c t) 4 c k) (6 + t) k c) 8 t (k + 1)) 0 0 (s + 1) = hp_yw (hp_aw y t c k) 0 0 (s + 1) := by
    funext i j
    unfold hp_aw hp_yw
    by_cases q : i = 0 ∧ j = 0
    · rw [if_pos q, if_pos q]
    · simp only [if_neg q]
  rw [ey] at c7
  refine ⟨_, ?_, c7, fun q hq => ?_⟩
  · clear c1 c2 c3 c4 c5 c6 c7 ey h u6 h8
    rw [F_X7_addWanted_eq]
    simp (disch := omega) only [hp_kN, nI_add, pk_mul, hp_isInN, hp_m1L, hp_l0, hp_l1, hp_l2, hp_l3, hp_l4, hp_l5, hp_l7, hp_l8, hp_l10, hp_l17, hp_l20, hp_l24, hp_l48, hp_l50, hp_l55, hp_l127, hp_lm1, hp_eqN, hp_ltN, hp_inN, hp_cl, if_pos, if_neg, if_true, if_false, Option.bind_some, x9, x0, hp_wn, hp_pr6, hp_wl7]
  · rw [hy_w_ne (by omega), hy_w_ne (by omega), hy_w_ne (by omega), hy_w_ne (by omega), hy_w_ne (by omega), hy_w_ne (by omega), hy_w_ne (by omega)]
theorem hp_blX (N : Nat) {T M : Nat} {tp : Nat → Nat} {pu : Int32} {D0 : hy_M} (hT40 : T ≤ 40) (hT : D0 37 1 = nI T) (htp : ∀ j, j < T → D0 38 j = nI (tp j)) (htb : ∀ j, j < T → 1 ≤ tp j ∧ tp j ≤ 127) : ∀ m i n D met bar y, i + m = T → m < n → hp_yf tp m i met bar = (none, M) → met < 256 → bar ≤ 1 → hp_yI met y → hp_CY 1 (hp_yw y 0 0 (y 8 0 + y 8 1)) pu D → (∀ q, (q = 0 ∨ 11 ≤ q) → D q = D0 q) → ∃ D1, F_X7_becomeNew_23 N n (nI bar) (nI i) D = (F_X7_becomeCleared N D1).bind (fun q1 => some q1) ∧ hp_CY 1 (hp_yw (hp_bl tp m i bar y) 0 0 (hp_bl tp m i bar y 8 0 + hp_bl tp m i bar y 8 1)) pu D1 ∧ (∀ q, (q = 0 ∨ 11 ≤ q) → D1 q = D0 q) ∧ hp_yI M (hp_bl tp m i bar y) := by
  intro m
  induction m with
  | zero =>
    intro i n D met bar y e hm hy hmet hbar hI hC hf
    obtain ⟨n, rfl⟩ : ∃ n', n = n' + 1 := ⟨n - 1, by omega⟩
    injection hy with _ hy
    subst hy
    refine ⟨D, ?_, hC, hf, hI⟩
    rw [F_X7_becomeNew_23_eq, hf 37 (by omega), hT, if_neg]
    rw [hp_ltN (by omega) (by omega)]
    omega
  | succ m ih =>
    intro i n D met bar y e hm hy hmet hbar hI hC hf
    obtain ⟨n, rfl⟩ : ∃ n', n = n' + 1 := ⟨n - 1, by omega⟩
    have t1 : D 38 i = nI (tp i) := by rw [hf 38 (by omega)]; exact htp i (by omega)
    have t2 := htb i (by omega)
    have t3 : D 37 1 = nI T := by rw [hf 37 (by omega)]; exact hT
    unfold hp_yf at hy
    unfold hp_bl
    by_cases q : tp i = 124
    · rw [if_pos q] at hy
      rw [if_pos q]
      rw [q] at t1
      by_cases q2 : bar = 0
      · rw [if_pos q2] at hy
        obtain ⟨D1, e1, f1, f2, f3⟩ := ih (i + 1) n D met 1 y (by omega) (by omega) hy hmet (by omega) hI hC hf
        refine ⟨D1, ?_, f1, f2, f3⟩
        rw [← e1, F_X7_becomeNew_23_eq]
        clear ih hf hC hI htp htb hy f1 f2 f3 e1
        simp (disch := omega) only [hp_kN, nI_add, pk_mul, hp_isInN, hp_m1L, hp_l0, hp_l1, hp_l2, hp_l3, hp_l4, hp_l5, hp_l7, hp_l8, hp_l10, hp_l17, hp_l20, hp_l24, hp_l48, hp_l50, hp_l55, hp_l127, hp_lm1, hp_eqN, hp_ltN, hp_inN, hp_cl, if_pos, if_neg, if_true, if_false, Option.bind_some, t3, t1]
      · rw [if_neg q2] at hy
        cases hy
    · rw [if_neg q] at hy
      rw [if_neg q]
      by_cases q2 : 97 ≤ tp i ∧ tp i < 105 ∧ hp_bit met (tp i - 97) ≠ 1
      · rw [if_pos q2] at hy
        obtain ⟨q3, q4, q5⟩ := q2
        obtain ⟨hI', hk⟩ := hp_yI_s hI hmet (t := bar) (c := tp i - 97) (by omega) (by omega) q5
        have hpc := hp_pc8 hmet
        have h5 := hI.2.2.2.2.1
        obtain ⟨D1, e1, f1, f2⟩ := hp_awX N (t := bar) (c := tp i - 97) (by omega) (by omega) (fun s hs => by
          have ss : s = 0 ∨ s = 1 := by omega
          rcases ss with rfl | rfl <;> omega) hk hC
        have es := hp_aw_sum (met := met) (y := y) (t := bar) (c := tp i - 97) (by omega)
        rw [← es] at f1
        obtain ⟨D2, e2, g1, g2, g3⟩ := ih (i + 1) n D1 _ bar _ (by omega) (by omega) hy (hp_or8f hmet (by omega)).2.1 hbar hI' f1 (fun q hq => by rw [f2 q hq, hf q hq])
        refine ⟨D2, ?_, g1, g2, g3⟩
        rw [← e2, F_X7_becomeNew_23_eq]
        clear ih hf hC hI htp htb hy f1 f2 g1 g2 g3 e2 hI' es
        simp (disch := omega) only [hp_kN, nI_add, pk_mul, hp_isInN, hp_m1L, hp_l0, hp_l1, hp_l2, hp_l3, hp_l4, hp_l5, hp_l7, hp_l8, hp_l10, hp_l17, hp_l20, hp_l24, hp_l48, hp_l50, hp_l55, hp_l127, hp_lm1, hp_eqN, hp_ltN, hp_inN, hp_cl, if_pos, if_neg, if_true, if_false, Option.bind_some, t3, t1, pk_sub, e1]
      · rw [if_neg q2] at hy
        cases hy
theorem hp_MY_ext {c : Nat} {y y' : Nat → Nat → Nat} {pu : Int32} {D : hy_M} (h : hp_MY c y pu D) (e : ∀ i j, y' i j = y i j) : hp_MY c y' pu D := by
  have : y' = y := by
    funext i j
    exact e i j
  rw [this]
  exact h
theorem hp_awM {y : Nat → Nat → Nat} {pu : Int32} {D : hy_M} {t c k : Nat} (ht : t < 2) (hc : c < 8) (hk : k < 8) (h : hp_MY 68 y pu D) : hp_MY 68 (hp_aw y t c k) pu (hy_w (hy_w (hy_w (hy_w (hy_w D 68 (30 + 8 * t + k) (nI c)) 68 (28 + t) (nI (k + 1))) 68 (4 + c) (nI 1)) 68 (12 + c) (nI 0)) 68 (20 + c) (nI t)) := by
  have u6 : ∀ t, t < 2 → hp_ub (6 + t) = 8 := by decide
  have p6 : ∀ t, t < 2 → ∀ k, k < 8 → hp_pos (6 + t) k = 30 + 8 * t + k := by decide
  have p8 : ∀ t, t < 2 → hp_pos 8 t = 28 + t := by decide
  have p1 : hp_pos 1 c = 4 + c := by simp [hp_pos]
  have p2 : hp_pos 2 c = 12 + c := by simp [hp_pos]
  have p3 : hp_pos 3 c = 20 + c := by simp [hp_pos]
  have a1 := hp_MY_w (6 + t) k c h (by omega) (by omega) (by rw [u6 t ht]; exact hk)
  rw [p6 t ht k hk] at a1
  have a2 := hp_MY_w 8 t (k + 1) a1 (by omega) (by omega) (show t < 2 from ht)
  rw [p8 t ht] at a2
  have a3 := hp_MY_w 1 c 1 a2 (by omega) (by omega) (show c < 8 from hc)
  rw [p1] at a3
  have a4 := hp_MY_w 2 c 0 a3 (by omega) (by omega) (show c < 8 from hc)
  rw [p2] at a4
  have a5 := hp_MY_w 3 c t a4 (by omega) (by omega) (show c < 8 from hc)
  rw [p3] at a5
  refine hp_MY_ext (hp_MY_4 c k a5) (fun i j => ?_)
  unfold hp_aw hp_yw
  repeat' split
  all_goals first | rfl | omega
theorem hp_blM (N : Nat) {T M : Nat} {tp : Nat → Nat} {pu : Int32} {D0 : hy_M} (hT40 : T ≤ 40) (htp : ∀ j, j < T → D0 71 j = nI (tp j)) (htb : ∀ j, j < T → 1 ≤ tp j ∧ tp j ≤ 127) : ∀ m i n D met bar y, i + m = T → m < n → hp_yf tp m i met bar = (none, M) → met < 256 → bar ≤ 1 → hp_yI met y → hp_MY 68 y pu D → (∀ q, q ≠ 68 → D q = D0 q) → ∃ D1, F_X9_yard_46 N n (nI T) (nI bar) (nI i) D = (F_X9_clears N (hy_w D1 68 0 (nI (hp_bl tp m i bar y 8 0 + hp_bl tp m i bar y 8 1)))).bind (fun q1 => some (q1 68 0, q1)) ∧ hp_MY 68 (hp_bl tp m i bar y) pu D1 ∧ (∀ q, q ≠ 68 → D1 q = D0 q) := by
  intro m
  induction m with
  | zero =>
    intro i n D met bar y e hm hy hmet hbar hI hC hf
    obtain ⟨n, rfl⟩ : ∃ n', n = n' + 1 := ⟨n - 1, by omega⟩
    have z0 : D 68 28 = nI (y 8 0) := hp_mb hC (i := 8) (j := 0) (by decide) (by omega) (by omega)
    have z1 : D 68 29 = nI (y 8 1) := hp_mb hC (i := 8) (j := 1) (by decide) (by omega) (by omega)
    refine ⟨D, ?_, hC, hf⟩
    rw [F_X9_yard_46_eq, if_neg, z0, z1, nI_add]
    · rfl
    · rw [hp_ltN (by omega) (by omega)]
      omega
  | succ m ih =>
    intro i n D met bar y e hm hy hmet hbar hI hC hf
    obtain ⟨n, rfl⟩ : ∃ n', n = n' + 1 := ⟨n - 1, by omega⟩
    have t1 : D 71 i = nI (tp i) := by rw [hf 71 (by omega)]; exact htp i (by omega)
    have t2 := htb i (by omega)
    unfold hp_yf at hy
    unfold hp_bl
    by_cases q : tp i = 124
    · rw [if_pos q] at hy
      rw [if_pos q]
      rw [q] at t1
      by_cases q2 : bar = 0
      · rw [if_pos q2] at hy
        obtain ⟨D1, e1, f1, f2⟩ := ih (i + 1) n D met 1 y (by omega) (by omega) hy hmet (by omega) hI hC hf
        refine ⟨D1, ?_, f1, f2⟩
        rw [← e1, F_X9_yard_46_eq]
        clear ih hf hC hI htp htb hy f1 f2 e1
        simp (disch := omega) only [hp_kN, nI_add, pk_mul, hp_isInN, hp_m1L, hp_l0, hp_l1, hp_l2, hp_l3, hp_l4, hp_l5, hp_l7, hp_l8, hp_l10, hp_l17, hp_l20, hp_l24, hp_l48, hp_l50, hp_l55, hp_l127, hp_lm1, hp_eqN, hp_ltN, hp_inN, hp_cl, if_pos, if_neg, if_true, if_false, Option.bind_some, t1]
      · rw [if_neg q2] at hy
        cases hy
    · rw [if_neg q] at hy
      rw [if_neg q]
      by_cases q2 : 97 ≤ tp i ∧ tp i < 105 ∧ hp_bit met (tp i - 97) ≠ 1
      · rw [if_pos q2] at hy
        obtain ⟨q3, q4, q5⟩ := q2
        obtain ⟨hI', hk⟩ := hp_yI_s hI hmet (t := bar) (c := tp i - 97) (by omega) (by omega) q5
        have f1 := hp_awM (t := bar) (c := tp i - 97) (k := y 8 bar) (by omega) (by omega) hk hC
        obtain ⟨D2, e2, g1, g2⟩ := ih (i + 1) n _ _ bar _ (by omega) (by omega) hy (hp_or8f hmet (by omega)).2.1 hbar hI' f1 (fun q hq => by rw [hy_w_ne hq, hy_w_ne hq, hy_w_ne hq, hy_w_ne hq, hy_w_ne hq, hf q hq])
        refine ⟨D2, ?_, g1, g2⟩
        have p8 : ∀ t, t < 2 → hp_pos 8 t = 28 + t := by decide
        have z8 : D 68 (28 + bar) = nI (y 8 bar) := by
          rw [← p8 bar (by omega)]
          exact hp_mb hC (i := 8) (j := bar) (show bar < 2 by omega) (by omega) (by omega)
        rw [← e2, F_X9_yard_46_eq]
        clear ih hf hC hI htp htb hy f1 g1 g2 e2 hI' p8
        simp (disch := omega) only [hp_kN, nI_add, pk_mul, hp_isInN, hp_m1L, hp_l0, hp_l1, hp_l2, hp_l3, hp_l4, hp_l5, hp_l7, hp_l8, hp_l10, hp_l17, hp_l20, hp_l24, hp_l48, hp_l50, hp_l55, hp_l127, hp_lm1, hp_eqN, hp_ltN, hp_inN, hp_cl, if_pos, if_neg, if_true, if_false, Option.bind_some, t1, pk_sub, z8, hp_wn]
      · rw [if_neg q2] at hy
        cases hy
theorem hp_WF_new {M : Nat} {y : Nat → Nat → Nat} (h : hp_yI M y) (hM : M < 256) (hb : ∀ w, w < 8 → hp_bit M w = 1 → w < hp_pc M) : hp_WF (hp_clr (hp_yw y 0 0 (y 8 0 + y 8 1))) := by
  obtain ⟨h1, h2, h3, h4, h5, h6, h7⟩ := h
  have p8 := hp_pc8 hM
  have pb := hp_pc8b hM hb
  obtain ⟨Y, eY⟩ : ∃ Y, Y = hp_clr (hp_yw y 0 0 (y 8 0 + y 8 1)) := ⟨_, rfl⟩
  have n : ∀ i j, i ≠ 17 → i ≠ 0 → Y i j = y i j := fun i j a b => by
    rw [eY]
    unfold hp_clr
    rw [if_neg (by omega), hp_yw_n (Or.inl b)]
  have n00 : Y 0 0 = hp_pc M := by
    rw [eY]
    unfold hp_clr
    rw [if_neg (by omega), hp_yw_s, h5]
  have n01 : Y 0 1 = y 0 1 := by
    rw [eY]
    unfold hp_clr
    rw [if_neg (by omega), hp_yw_n (Or.inr (by omega))]
  have n02 : Y 0 2 = 0 := by
    rw [eY]
    rfl
  have n17 : ∀ j, Y 17 j = 0 := fun j => by
    rw [eY]
    rfl
  rw [← eY]
  refine ⟨by rw [n00]; exact p8, by rw [n01]; exact h1, by rw [n02]; omega, fun w h8 => by rw [n 1 w (by omega) (by omega), n 2 w (by omega) (by omega), n 3 w (by omega) (by omega)]; exact h3 w h8, fun t ht j hj => by rw [n (6 + t) j (by omega) (by omega)]; exact h4 t ht j hj, by rw [n 8 0 (by omega) (by omega), n 8 1 (by omega) (by omega), n00]; exact h5, fun t ht => by rw [n 9 t (by omega) (by omega)]; exact h2 t ht, fun w h0 => ?_, fun t ht j hj => ?_, ?_, fun l hl j hj => ?_⟩
  · rw [n00] at h0
    have tw := (h3 w (by omega)).2.2
    rw [n 1 w (by omega) (by omega), n 4 w (by omega) (by omega), n 3 w (by omega) (by omega), n 8 (y 3 w) (by omega) (by omega), n (6 + y 3 w) (y 4 w) (by omega) (by omega)]
    exact h6 w (by omega) (pb w h0)
  · rw [n 8 t (by omega) (by omega)] at hj
    rw [n (6 + t) j (by omega) (by omega), n00, n 3 _ (by omega) (by omega), n 4 _ (by omega) (by omega)]
    obtain ⟨a1, a2, a3⟩ := h7 t ht j hj
    have tt : t = 0 ∨ t = 1 := by omega
    have j8 : j < 8 := by rcases tt with rfl | rfl <;> omega
    exact ⟨hb _ (h4 t ht j j8) a1, a2, a3⟩
  · rw [n17, n17, n17, n17, n17, n02, if_pos rfl]
  · rw [n17] at hj
    omega
theorem st_yard (N : Nat) (hN : 100 ≤ N) : hp_step (F_X8_yard N) (F_X9_yard N) := by
  rintro ⟨y, pu, yk, pk, fl, T, P, tp, pp, ls, lc⟩ ⟨hw, hw1⟩
  obtain ⟨w1, w2, w3, w4, w5, w6, w7⟩ := hw1
  have W0 : hp_W1 yk fl 0 P tp pp ls := ⟨w1, w2, by omega, fun j hj => absurd hj (by omega), w5, w6, w7⟩
  have kx : ∀ D, hp_X (y, pu, yk, pk, fl, T, P, tp, pp, ls, lc) D → F_X6_faultOfYard N D = some (match hp_yf tp T 0 0 0 with | (some w, _) => nI w | (none, M) => hp_oI (hp_yg tp (hp_pc M) T 0), D) := fun D hX => by
    rw [F_X6_faultOfYard_eq]
    exact hp_yfX N hN w3 hX.2.2.2.1 hX.2.2.2.2.1 w4 T 0 N 0 0 (by omega) (by omega) (by omega) (by omega)
  have km : ∀ D, hp_R (y, pu, yk, pk, fl, T, P, tp, pp, ls, lc) D → F_X9_yardFault N D = some (nI (match hp_yf tp T 0 0 0 with | (some w, _) => w | (none, M) => (match hp_yg tp (hp_pc M) T 0 with | some w => w | none => T)), D) := fun D hR => by
    rw [F_X9_yardFault_eq]
    exact hp_yfM N hN w3 hR.2.2.2.1 hR.2.2.2.2.1 w4 T 0 N 0 0 (by omega) (by omega) (by omega) (by omega)
  have bad : ∀ w, w < T → (∀ D, hp_X (y, pu, yk, pk, fl, T, P, tp, pp, ls, lc) D → F_X6_faultOfYard N D = some (nI w, D)) → (∀ D, hp_R (y, pu, yk, pk, fl, T, P, tp, pp, ls, lc) D → F_X9_yardFault N D = some (nI w, D)) → ∃ r q', hp_V q' ∧ hp_cx (F_X8_yard N) (y, pu, yk, pk, fl, T, P, tp, pp, ls, lc) r q' ∧ hp_cm (F_X9_yard N) (y, pu, yk, pk, fl, T, P, tp, pp, ls, lc) r q' := fun w hwT k1 k2 => by
    refine ⟨-nI 100 - nI w, (y, pu, yk, pk, fl, 0, P, tp, pp, ls, lc), ⟨hw, W0⟩, fun D hX => ?_, fun D hR => ?_⟩
    · refine ⟨hy_w D 37 1 (nI 0), ?_, ⟨hp_CY_fr hX.1 (fun c a b => hy_w_ne (by omega)), hp_C1_tape hX.2 (fun c a => hy_w_ne (by omega)) (hp_ws _ _ _ _) (fun j hj => absurd hj (by omega))⟩, fun c a b => hy_w_ne (by omega)⟩
      have k := k1 D hX
      clear k1 k2 kx km w2 w4 w6 w7 W0
      rw [F_X8_yard_eq]
      simp (disch := omega) only [hp_kN, nI_add, pk_mul, hp_isInN, hp_m1L, hp_l0, hp_l1, hp_l2, hp_l3, hp_l4, hp_l5, hp_l7, hp_l8, hp_l10, hp_l17, hp_l20, hp_l24, hp_l48, hp_l50, hp_l55, hp_l127, hp_lm1, hp_eqN, hp_ltN, hp_inN, hp_cl, if_pos, if_neg, if_true, if_false, Option.bind_some, k, hp_nne, F_X8_yard_24_eq]
    · refine ⟨hy_w D 67 5 (nI 0), ?_, ⟨hp_MY_fr hR.1 (hy_w_ne (by omega)), hp_M1_tape hR.2 (fun c a => hy_w_ne (by omega)) (fun j a => hp_wn (Or.inr (by omega))) (hp_ws _ _ _ _) (fun j hj => absurd hj (by omega))⟩, fun c a => hy_w_ne (by omega)⟩
      have k := k2 D hR
      have hT : D 67 5 = nI T := hR.2.2.2.1
      clear k1 k2 kx km w2 w4 w6 w7 W0
      rw [F_X9_yard_eq]
      simp (disch := omega) only [hp_kN, nI_add, pk_mul, hp_isInN, hp_m1L, hp_l0, hp_l1, hp_l2, hp_l3, hp_l4, hp_l5, hp_l7, hp_l8, hp_l10, hp_l17, hp_l20, hp_l24, hp_l48, hp_l50, hp_l55, hp_l127, hp_lm1, hp_eqN, hp_ltN, hp_inN, hp_cl, if_pos, if_neg, if_true, if_false, Option.bind_some, k, hT]
  cases e : hp_yf tp T 0 0 0 with
  | mk fo M =>
    rw [e] at kx km
    cases fo with
    | some w => exact bad w (by have := hp_yf_lt _ _ _ _ _ _ e; omega) kx km
    | none =>
      obtain ⟨hM, hbits⟩ := hp_yf_b _ _ _ _ _ (by omega) e
      cases e2 : hp_yg tp (hp_pc M) T 0 with
      | some w =>
        have hlt := hp_yg_lt _ _ _ e2
        exact bad w (by omega) (fun D hX => by
          have := kx D hX
          simp only [e2] at this
          exact this) (fun D hR => by
          have := km D hR
          simp only [e2] at this
          exact this)
      | none =>
        clear bad
        have hyg := hp_yg_n _ _ e2
        have hb : ∀ w, w < 8 → hp_bit M w = 1 → w < hp_pc M := fun w hw8 q => by
          rcases hbits w hw8 q with z | ⟨j, h1, h2, h3⟩
          · have : hp_bit 0 w = 0 := by unfold hp_bit; simp
            omega
          · rcases hyg j (by omega) (by omega) with z | z <;> omega
        have hI0 := hp_yI_0 hw
        obtain ⟨yb, eyb⟩ : ∃ yb, yb = hp_bl tp T 0 0 (hp_yw (hp_yw y 8 0 0) 8 1 0) := ⟨_, rfl⟩
        have e00 : hp_yw (hp_yw y 8 0 0) 8 1 0 8 0 + hp_yw (hp_yw y 8 0 0) 8 1 0 8 1 = 0 := by
          rw [hp_yw_n (Or.inr (by omega)), hp_yw_s, hp_yw_s]
        have hx : ∀ D, hp_X (y, pu, yk, pk, fl, T, P, tp, pp, ls, lc) D → ∃ D1, F_X7_becomeNew N D = (F_X7_becomeCleared N D1).bind (fun q1 => some q1) ∧ hp_CY 1 (hp_yw yb 0 0 (yb 8 0 + yb 8 1)) pu D1 ∧ (∀ q, (q = 0 ∨ 11 ≤ q) → D1 q = D q) ∧ hp_yI M yb := fun D hX => by
          have hC : hp_CY 1 (hp_yw (hp_yw (hp_yw y 8 0 0) 8 1 0) 0 0 (hp_yw (hp_yw y 8 0 0) 8 1 0 8 0 + hp_yw (hp_yw y 8 0 0) 8 1 0 8 1)) pu (hy_w (hy_w (hy_w D 1 0 (nI 0)) 9 0 (nI 0)) 9 1 (nI 0)) := by
            rw [e00]
            have c1 : hp_CY 1 (hp_yw y 0 0 0) pu (hy_w D 1 0 (nI 0)) := hp_CY_w 0 0 0 hX.1 (by omega) (by decide)
            have c2 : hp_CY 1 (hp_yw (hp_yw y 0 0 0) 8 0 0) pu (hy_w (hy_w D 1 0 (nI 0)) 9 0 (nI 0)) := hp_CY_w 8 0 0 c1 (by omega) (by decide)
            have c3 : hp_CY 1 (hp_yw (hp_yw (hp_yw y 0 0 0) 8 0 0) 8 1 0) pu (hy_w (hy_w (hy_w D 1 0 (nI 0)) 9 0 (nI 0)) 9 1 (nI 0)) := hp_CY_w 8 1 0 c2 (by omega) (by decide)
            have ee : hp_yw (hp_yw (hp_yw y 0 0 0) 8 0 0) 8 1 0 = hp_yw (hp_yw (hp_yw y 8 0 0) 8 1 0) 0 0 0 := by
              funext i j
              unfold hp_yw
              repeat' split
              all_goals first | rfl | omega
            rw [← ee]
            exact c3
          obtain ⟨D1, g1, g2, g3, g4⟩ := hp_blX N w3 hX.2.2.2.1 hX.2.2.2.2.1 w4 T 0 N _ 0 0 _ (by omega) (by omega) e (by omega) (by omega) hI0 hC (fun q hq => by rw [hy_w_ne (by omega), hy_w_ne (by omega), hy_w_ne (by omega)])
          rw [← eyb] at g2 g4
          refine ⟨D1, ?_, g2, g3, g4⟩
          rw [F_X7_becomeNew_eq]
          exact g1
        have hIb : hp_yI M yb := by
          have l : ∀ m i met bar z, hp_yf tp m i met bar = (none, M) → met < 256 → bar ≤ 1 → hp_yI met z → hp_yI M (hp_bl tp m i bar z) := by
            intro m
            induction m with
            | zero =>
              intro i met bar z h _ _ hz
              injection h with _ h
              subst h
              exact hz
            | succ m ih =>
              intro i met bar z h h256 hb1 hz
              unfold hp_yf at h
              unfold hp_bl
              by_cases q : tp i = 124
              · rw [if_pos q] at h
                rw [if_pos q]
                by_cases q2 : bar = 0
                · rw [if_pos q2] at h
                  exact ih _ _ _ _ h h256 (by omega) hz
                · rw [if_neg q2] at h
                  cases h
              · rw [if_neg q] at h
                rw [if_neg q]
                by_cases q2 : 97 ≤ tp i ∧ tp i < 105 ∧ hp_bit met (tp i - 97) ≠ 1
                · rw [if_pos q2] at h
                  exact ih _ _ _ _ h (hp_or8f h256 (by omega)).2.1 hb1 (hp_yI_s hz h256 (by omega) (by omega) q2.2.2).1
                · rw [if_neg q2] at h
                  cases h
          rw [eyb]
          exact l T 0 0 0 _ e (by omega) (by omega) hI0
        have hWF := hp_WF_new hIb hM hb
        have hn8 : yb 8 0 + yb 8 1 ≤ 8 := by
          rw [hIb.2.2.2.2.1]
          exact hp_pc8 hM
        refine ⟨nI (yb 8 0 + yb 8 1), (hp_clr (hp_yw yb 0 0 (yb 8 0 + yb 8 1)), 0, yk, pk, fl, 0, P, tp, pp, ls, lc), ⟨hWF, W0⟩, fun D hX => ?_, fun D hR => ?_⟩
        · obtain ⟨D1, g1, g2, g3, -⟩ := hx D hX
          have c1 := hp_clr_C g2
          rw [hp_clX N (by omega) D1, Option.bind_some] at g1
          obtain ⟨D2, eD2⟩ : ∃ D2, D2 = hy_w (hy_w (hy_w (hy_w (hy_w (hy_w (hy_w D1 18 0 0) 18 1 0) 18 2 0) 18 3 0) 18 4 0) 1 2 0) 1 3 0 := ⟨_, rfl⟩
          rw [← eD2] at g1 c1
          have hf : ∀ q, 19 ≤ q → D2 q = D q := fun q hq => by
            rw [eD2, hy_w_ne (by omega), hy_w_ne (by omega), hy_w_ne (by omega), hy_w_ne (by omega), hy_w_ne (by omega), hy_w_ne (by omega), hy_w_ne (by omega), g3 q (by omega)]
          have hf0 : D2 0 = D 0 := by
            rw [eD2, hy_w_ne (by omega), hy_w_ne (by omega), hy_w_ne (by omega), hy_w_ne (by omega), hy_w_ne (by omega), hy_w_ne (by omega), hy_w_ne (by omega), g3 0 (by omega)]
          have z : D2 1 0 = nI (yb 8 0 + yb 8 1) := by
            have := hp_yb c1 (i := 0) (j := 0) (by decide) (by omega)
            exact this
          have k := kx D hX
          simp only [e2] at k
          have k' : F_X6_faultOfYard N D = some (-nI 1, D) := k
          refine ⟨hy_w D2 37 1 (nI 0), ?_, ⟨hp_CY_fr c1 (fun c a b => hy_w_ne (by omega)), hp_C1_tape hX.2 (fun c a => by
            rw [hy_w_ne (by omega)]
            rcases a with rfl | a
            · exact hf0
            · exact hf c (by omega)) (hp_ws _ _ _ _) (fun j hj => absurd hj (by omega))⟩, fun c a b => by rw [hy_w_ne (by omega), hf c (by omega)]⟩
          have z2 : hy_w D2 37 1 (nI 0) 1 0 = nI (yb 8 0 + yb 8 1) := by rw [hp_wn (Or.inl (by omega)), z]
          rw [F_X8_yard_eq, k', Option.bind_some, if_pos (show -nI 1 = -1 from rfl), g1, Option.bind_some, F_X8_yard_24_eq, if_pos (show -nI 1 = -1 from rfl)]
          have z3 : hy_w D2 37 1 (0 : Int32) 1 0 = nI (yb 8 0 + yb 8 1) := z2
          rw [z3]
          rfl
        · have hT : D 67 5 = nI T := hR.2.2.2.1
          have h71 : ∀ j, j < T → D 71 j = nI (tp j) := hR.2.2.2.2.1
          have p80 : hp_pos 8 0 = 28 := by decide
          have p81 : hp_pos 8 1 = 29 := by decide
          have hM0 : hp_MY 68 (hp_yw (hp_yw y 8 0 0) 8 1 0) pu (hy_w (hy_w (hy_w D 67 5 (nI 0)) 68 28 (nI 0)) 68 29 (nI 0)) := by
            have a0 : hp_MY 68 y pu (hy_w D 67 5 (nI 0)) := hp_MY_fr hR.1 (hy_w_ne (by omega))
            have a1 := hp_MY_w 8 0 0 a0 (by omega) (by omega) (by decide)
            rw [p80] at a1
            have a2 := hp_MY_w 8 1 0 a1 (by omega) (by omega) (by decide)
            rw [p81] at a2
            exact a2
          obtain ⟨D1, g1, g2, g3⟩ := hp_blM N (D0 := hy_w D 67 5 (nI 0)) w3 (fun j hj => by rw [hy_w_ne (by omega)]; exact h71 j hj) w4 T 0 N _ 0 0 _ (by omega) (by omega) e (by omega) (by omega) hI0 hM0 (fun q hq => by rw [hy_w_ne hq, hy_w_ne hq])
          rw [← eyb] at g1 g2
          have p00 : hp_pos 0 0 = 0 := by decide
          have c0 := hp_MY_w 0 0 (yb 8 0 + yb 8 1) g2 (by omega) (by omega) (by decide)
          rw [p00] at c0
          have c1 := hp_clr_M c0
          rw [hp_clM N (by omega), Option.bind_some] at g1
          obtain ⟨D2, eD2⟩ : ∃ D2, D2 = hy_w (hy_w (hy_w (hy_w (hy_w (hy_w (hy_w (hy_w D1 68 0 (nI (yb 8 0 + yb 8 1))) 68 2 0) 68 3 0) 68 49 0) 68 50 0) 68 67 0) 68 68 0) 68 69 0 := ⟨_, rfl⟩
          rw [← eD2] at g1 c1
          have hf : ∀ q, q ≠ 68 → D2 q = hy_w D 67 5 (nI 0) q := fun q hq => by
            rw [eD2, hy_w_ne hq, hy_w_ne hq, hy_w_ne hq, hy_w_ne hq, hy_w_ne hq, hy_w_ne hq, hy_w_ne hq, hy_w_ne hq, g3 q hq]
          have z : D2 68 0 = nI (yb 8 0 + yb 8 1) := hp_mb c1 (i := 0) (j := 0) (by decide) (by omega) (by omega)
          have k := km D hR
          simp only [e2] at k
          have k' : F_X9_yardFault N D = some (nI T, D) := k
          refine ⟨D2, ?_, ⟨c1, hp_M1_tape hR.2 (fun c a => by rw [hf c (by omega), hy_w_ne (by omega)]) (fun j a => by rw [hf 67 (by omega), hp_wn (Or.inr (by omega))]) (by rw [hf 67 (by omega), hp_ws]) (fun j hj => absurd hj (by omega))⟩, fun c a => by rw [hf c (by omega), hy_w_ne (by omega)]⟩
          rw [F_X9_yard_eq, k', Option.bind_some]
          dsimp only
          rw [if_neg (by rw [hT, hp_ltN (by omega) (by omega)]; omega), hT]
          rw [z] at g1
          exact g1
