/-! ===== replay: the reference ===== -/
theorem hp_clM2 (N : Nat) (hN : 10 ≤ N) (D : hy_M) : ∃ D1, F_X9_clears N D = some D1 ∧ hp_LN hp_L0 D1 ∧ (∀ c, c ≠ 68 → D1 c = D c) ∧ ∀ p, p < 49 → p ≠ 2 → p ≠ 3 → D1 68 p = D 68 p := by
  refine ⟨_, hp_clM N hN D, fun l hl => ⟨?_, fun j hj => absurd hj (by show ¬ j < 0; omega)⟩, fun c a => ?_, fun p a b c => ?_⟩
  · have hb := hp_lp_b l hl
    show _ = nI 0
    have : l = 0 ∨ l = 1 ∨ l = 2 ∨ l = 3 ∨ l = 4 := by omega
    rcases this with rfl | rfl | rfl | rfl | rfl <;> simp [hp_lq, hp_w] <;> rfl
  · simp only [hy_w_ne a]
  · simp (disch := omega) only [hp_wn]
theorem hp_ru_s (N n : Nat) (a o : Int32) {L : hp_L} {D : hy_M} (h : hp_LN L D) (h8 : hp_tot L ≤ 8) {i v : Nat} (hi : i < 3) (hv : v < 8) : F_X9_replayed_5 N (n + 1) a o (nI v) (nI i) D = F_X9_replayed_5 N n a o (nI (v ||| hp_us L i)) (nI (i + 1)) D := by
  have hb := hp_lp_b i (by omega)
  have a1 := (h i (by omega)).1
  rw [show hp_lq i = 67 + i by omega] at a1
  have b := hp_tot_le (L := L) (l := i) (by omega)
  have hp : 2 ^ i < 8 := by
    have : i = 0 ∨ i = 1 ∨ i = 2 := by omega
    rcases this with rfl | rfl | rfl <;> decide
  clear h
  rw [F_X9_replayed_5_eq]
  unfold hp_us
  by_cases q : 0 < L.1 i
  · simp (disch := omega) only [hp_kN, nI_add, pk_mul, hp_isInN, hp_m1L, hp_l0, hp_l1, hp_l2, hp_l3, hp_l4, hp_l5, hp_l7, hp_l8, hp_l10, hp_l17, hp_l20, hp_l24, hp_l48, hp_l50, hp_l55, hp_l127, hp_lm1, hp_eqN, hp_ltN, hp_inN, hp_cl, if_pos, if_neg, if_true, if_false, Option.bind_some, a1, hp_shl, hp_orL]
  · simp (disch := omega) only [hp_kN, nI_add, pk_mul, hp_isInN, hp_m1L, hp_l0, hp_l1, hp_l2, hp_l3, hp_l4, hp_l5, hp_l7, hp_l8, hp_l10, hp_l17, hp_l20, hp_l24, hp_l48, hp_l50, hp_l55, hp_l127, hp_lm1, hp_eqN, hp_ltN, hp_inN, hp_cl, if_pos, if_neg, if_true, if_false, Option.bind_some, a1, hp_orL]
theorem hp_wtM (N : Nat) (hN : 10 ≤ N) {y : Nat → Nat → Nat} (hw : hp_WF y) {D : hy_M} (h30 : ∀ t, t < 2 → ∀ j, j < 8 → D 68 (30 + 8 * t + j) = nI (y (6 + t) j)) {L : hp_L} (h : hp_LN L D) (hO : hp_LO y L) (h8 : hp_tot L ≤ 8) {t : Nat} (ht : t < 2) : (F_X9_wrongOf N (nI t) D).bind (fun q5 => (if q5.1 < 0 then (some ((-5 : Int32), q5.2)) else ((F_X9_wrongOf N (nI t) q5.2).bind (fun q6 => (some (q6.1, q6.2)))))) = some (hp_w5 y L t, D) := by
  have b0 := hw.1
  have b := hp_tot_le (L := L) (l := 3 + t) (by omega)
  have hb := hp_lp_b (3 + t) (by omega)
  have a1 := (h (3 + t) (by omega)).1
  rw [show hp_lq (3 + t) = 49 + t by omega] at a1
  have k := hp_fwM N hN hw h30 ht a1 (by omega) (row := L.2 (3 + t)) (fun j hj => by
    have := (h (3 + t) (by omega)).2 j hj
    rw [show hp_lp (3 + t) = 51 + 8 * t by omega] at this
    exact this) (fun j hj => by have := (hO (3 + t) (by omega) j hj).1; omega)
  unfold hp_w5
  cases e : hp_fwT y (L.2 (3 + t)) t (L.1 (3 + t)) 0 with
  | none =>
    rw [e] at k
    have k' : F_X9_wrongOf N (nI t) D = some (-nI 1, D) := k
    rw [k', Option.bind_some]
    rfl
  | some w =>
    have := hp_fwT_lt _ _ _ e
    rw [e] at k
    have k' : F_X9_wrongOf N (nI t) D = some (nI w, D) := k
    clear h h30 hO
    simp (disch := omega) only [hp_kN, nI_add, pk_mul, hp_isInN, hp_m1L, hp_l0, hp_l1, hp_l2, hp_l3, hp_l4, hp_l5, hp_l7, hp_l8, hp_l10, hp_l17, hp_l20, hp_l24, hp_l48, hp_l50, hp_l55, hp_l127, hp_lm1, hp_eqN, hp_ltN, hp_inN, hp_cl, if_pos, if_neg, if_true, if_false, Option.bind_some, k']
    rfl
theorem hp_rAM (N : Nat) (hN : 10 ≤ N) {y : Nat → Nat → Nat} (hw : hp_WF y) {D : hy_M} (h30 : ∀ t, t < 2 → ∀ j, j < 8 → D 68 (30 + 8 * t + j) = nI (y (6 + t) j)) (h0 : D 68 0 = nI (y 0 0)) {L : hp_L} (h : hp_LN L D) (hO : hp_LO y L) (h8 : hp_tot L ≤ 8) {o : Option Nat} {r a : Nat} (ha : a < 6) (h13 : D 67 13 = nI (y 0 0 + r)) : F_X9_replayed N (nI a) (hp_o5 o) D = some (hp_rA y a (L, o, r), D) := by
  obtain ⟨n, rfl⟩ : ∃ n, N = n + 4 := ⟨N - 4, by omega⟩
  have u0 := hp_us_b L (i := 0) (by omega)
  have u1 := hp_us_b L (i := 1) (by omega)
  have v0 : (0 ||| hp_us L 0) < 8 := hp_or8 (by omega) u0
  have v1 : ((0 ||| hp_us L 0) ||| hp_us L 1) < 8 := hp_or8 v0 u1
  have k0 := hp_ouM (n + 4) h
  have k3 := hp_wtM (n + 4) hN hw h30 h hO h8 (t := 0) (by omega)
  have k4 := hp_wtM (n + 4) hN hw h30 h hO h8 (t := 1) (by omega)
  rw [F_X9_replayed_eq, show (0 : Int32) = nI 0 from rfl, hp_ru_s (n + 4) (n + 3) _ _ h h8 (by omega) (by omega), hp_ru_s (n + 4) (n + 2) _ _ h h8 (by omega) v0, hp_ru_s (n + 4) (n + 1) _ _ h h8 (by omega) v1, F_X9_replayed_5_eq]
  clear h hO h30
  have z3 : nI 3 - (3 : Int32) = nI 0 := rfl
  have z4 : nI 4 - (3 : Int32) = nI 1 := rfl
  have : a = 0 ∨ a = 1 ∨ a = 2 ∨ a = 3 ∨ a = 4 ∨ a = 5 := by omega
  rcases this with rfl | rfl | rfl | rfl | rfl | rfl
  · simp (disch := omega) only [hp_kN, nI_add, pk_mul, hp_isInN, hp_m1L, hp_l0, hp_l1, hp_l2, hp_l3, hp_l4, hp_l5, hp_l7, hp_l8, hp_l10, hp_l17, hp_l20, hp_l24, hp_l48, hp_l50, hp_l55, hp_l127, hp_lm1, hp_eqN, hp_ltN, hp_inN, hp_cl, if_pos, if_neg, if_true, if_false, Option.bind_some, k0]
    rfl
  · simp (disch := omega) only [hp_kN, nI_add, pk_mul, hp_isInN, hp_m1L, hp_l0, hp_l1, hp_l2, hp_l3, hp_l4, hp_l5, hp_l7, hp_l8, hp_l10, hp_l17, hp_l20, hp_l24, hp_l48, hp_l50, hp_l55, hp_l127, hp_lm1, hp_eqN, hp_ltN, hp_inN, hp_cl, if_pos, if_neg, if_true, if_false, Option.bind_some]
    rfl
  · simp (disch := omega) only [hp_kN, nI_add, pk_mul, hp_isInN, hp_m1L, hp_l0, hp_l1, hp_l2, hp_l3, hp_l4, hp_l5, hp_l7, hp_l8, hp_l10, hp_l17, hp_l20, hp_l24, hp_l48, hp_l50, hp_l55, hp_l127, hp_lm1, hp_eqN, hp_ltN, hp_inN, hp_cl, if_pos, if_neg, if_true, if_false, Option.bind_some]
    rfl
  · rw [if_neg (by decide), if_neg (by decide), if_neg (by decide), if_neg (by decide), if_pos (by decide), z3, k3]
    rfl
  · rw [if_neg (by decide), if_neg (by decide), if_neg (by decide), if_neg (by decide), if_neg (by decide), if_pos (by decide), z4, k4]
    rfl
  · simp (disch := omega) only [hp_kN, nI_add, pk_mul, hp_isInN, hp_m1L, hp_l0, hp_l1, hp_l2, hp_l3, hp_l4, hp_l5, hp_l7, hp_l8, hp_l10, hp_l17, hp_l20, hp_l24, hp_l48, hp_l50, hp_l55, hp_l127, hp_lm1, hp_eqN, hp_ltN, hp_inN, hp_cl, if_pos, if_neg, if_true, if_false, Option.bind_some, h13, h0, pk_sub, Nat.add_sub_cancel_left]
    rfl
section
variable {y : Nat → Nat → Nat} {pu : Int32} {yk : Nat → Nat → Nat} {pk : Int32} {fl T0 P : Nat} {tp pp : Nat → Nat} {ls : Nat → Int32} {lc : Nat → Nat → Int32}
theorem hp_rpM (N : Nat) (hN : 100 ≤ N) (hw : hp_WF y) {D0 : hy_M} (hR : hp_R (y, pu, yk, pk, fl, T0, P, tp, pp, ls, lc) D0) {T : Nat} (hT : T ≤ 20) (x71 : ∀ j, j < T → D0 71 j = nI (tp j)) (hok : ∀ j, j < T → 48 ≤ tp j ∧ tp j < 51) {a : Nat} (ha : a < 6) : ∀ m k n D L o r, k + m = T → m < n → hp_LN L D → hp_PM (P, pp) D → hp_LO y L → hp_tot L ≤ 8 → hp_fk D0 D → D 67 13 = nI (y 0 0 + r) → (∀ v, o = some v → v ≤ 100) → ∃ D1, F_X9_replay_82 N n (nI a) (nI T) (hp_o5 o) (nI k) D = some (hp_rA y a (hp_rp y tp m k (L, o, r)), D1) ∧ (∀ j, j < 94 → D1 68 j = D0 70 j) ∧ (∀ c, c ≠ 67 → c ≠ 68 → c ≠ 77 → D1 c = D0 c) ∧ (∀ j, j ≠ 13 → j ≠ 16 → D1 67 j = D0 67 j) ∧ hp_PM (P, pp) D1 := by
  have b0 := hw.1
  intro m
  induction m with
  | zero =>
    intro k n D L o r e hm h1 hQ hO h8 hf h13 ho
    obtain ⟨n, rfl⟩ : ∃ n', n = n' + 1 := ⟨n - 1, by omega⟩
    have e : k = T := by omega
    subst e
    obtain ⟨m00, m01, m02, m03, m4, m12, m20, m30, m28, m46, m70, m51, m67, m49⟩ := hp_Mf hw hR.1
    have k1 := hp_rAM N (by omega) hw (D := D) (o := o) (fun t ht j hj => by rw [hf.2.2 _ (by omega) (by omega) (by omega)]; exact m30 t ht j hj) (by rw [hf.2.2 _ (by omega) (by omega) (by omega)]; exact m00) h1 hO h8 ha h13
    obtain ⟨D3, e3, g1, g2⟩ := hp_mc_67_70_68 N hN D
    refine ⟨D3, ?_, fun j hj => by rw [g1 j hj, hf.1 70 (by omega) (by omega) (by omega)], fun c a b d => by rw [g2 c b, hf.1 c a b d], fun j a b => by rw [g2 67 (by omega), hf.2.1 j a b], ⟨by rw [g2 67 (by omega)]; exact hQ.1, fun j hj => by rw [g2 77 (by omega)]; exact hQ.2 j hj⟩⟩
    rw [F_X9_replay_82_eq, if_neg (by rw [hp_ltN (by omega) (by omega)]; omega), k1, Option.bind_some, e3, Option.bind_some]
    rfl
  | succ m ih =>
    intro k n D L o r e hm h1 hQ hO h8 hf h13 ho
    obtain ⟨n, rfl⟩ : ∃ n', n = n' + 1 := ⟨n - 1, by omega⟩
    have o1 := hok k (by omega)
    have y71 : D 71 k = nI (tp k) := by rw [hf.1 71 (by omega) (by omega) (by omega)]; exact x71 k (by omega)
    obtain ⟨t, et⟩ : ∃ t, t = tp k - 48 := ⟨_, rfl⟩
    have ht : t < 3 := by omega
    have h14 : D 67 14 = nI 0 := by rw [hf.2.1 14 (by omega) (by omega)]; exact hR.2.2.2.2.2.2.2.2
    obtain ⟨D1, e1, f1, f2, f3, f4, f5, f6⟩ := hp_tpM N (by omega) hw (s := 0) hR.1 hf h14 h1 hO h8 hQ ht (Or.inl rfl)
    have f2' : hp_PM (P, pp) D1 := by
      unfold hp_pulQ at f2
      rw [hp_plQ0] at f2
      exact f2
    obtain ⟨hO', ht'⟩ := hp_pul_w hw (y 2) ht hO
    have hf' := hp_fk_tr hf f6
    have kv := hp_toM N (by omega) hw hR.1 hf' f1 hO' (by omega)
    have h13' : D1 67 13 = nI (y 0 0 + (r + L.1 t)) := by rw [f3, h13, nI_add, Nat.add_assoc]
    show ∃ D1, F_X9_replay_82 N (n + 1) (nI a) (nI T) (hp_o5 o) (nI k) D = some (hp_rA y a (hp_rp y tp m (k + 1) (hp_rs y (tp k - 48) k (L, o, r))), D1) ∧ (∀ j, j < 94 → D1 68 j = D0 70 j) ∧ (∀ c, c ≠ 67 → c ≠ 68 → c ≠ 77 → D1 c = D0 c) ∧ (∀ j, j ≠ 13 → j ≠ 16 → D1 67 j = D0 67 j) ∧ hp_PM (P, pp) D1
    have et2 : nI (tp k) - nI 48 = nI t := by rw [pk_sub o1.1, et]
    rw [← et]
    cases o with
    | some v =>
      have hv := ho v rfl
      obtain ⟨D2, e2, g2⟩ := ih (k + 1) n D1 _ (some v) (r + L.1 t) (by omega) (by omega) f1 f2' hO' (by omega) hf' h13' ho
      refine ⟨D2, ?_, g2⟩
      have e2' : F_X9_replay_82 N n (nI a) (nI T) (nI v) (nI (k + 1)) D1 = some (hp_rA y a (hp_rp y tp m (k + 1) (hp_rs y t k (L, some v, r))), D2) := e2
      rw [F_X9_replay_82_eq]
      clear ih h1 hQ hO hf ho f1 f2 f2' f3 f4 f5 f6 hO' hf' g2 e2 hok x71 et kv h13 h13' h14
      unfold hp_o5
      simp (disch := omega) only [hp_kN, nI_add, pk_mul, hp_isInN, hp_m1L, hp_l0, hp_l1, hp_l2, hp_l3, hp_l4, hp_l5, hp_l7, hp_l8, hp_l10, hp_l17, hp_l20, hp_l24, hp_l48, hp_l50, hp_l55, hp_l127, hp_lm1, hp_eqN, hp_ltN, hp_inN, hp_cl, if_pos, if_neg, if_true, if_false, Option.bind_some, y71, et2, e1, e2']
    | none =>
      rcases hp_ov01 y (hp_pul y (y 2) t L).1 (hp_pul y (y 2) t L).2 with ov | ov
      · obtain ⟨D2, e2, g2⟩ := ih (k + 1) n D1 _ none (r + L.1 t) (by omega) (by omega) f1 f2' hO' (by omega) hf' h13' (fun v hv => by cases hv)
        refine ⟨D2, ?_, g2⟩
        rw [hp_rs0 ov]
        have e2' : F_X9_replay_82 N n (nI a) (nI T) (-nI 5) (nI (k + 1)) D1 = some (hp_rA y a (hp_rp y tp m (k + 1) (hp_pul y (y 2) t L, none, r + L.1 t)), D2) := e2
        rw [ov] at kv
        rw [F_X9_replay_82_eq]
        clear ih h1 hQ hO hf ho f1 f2 f2' f3 f4 f5 f6 hO' hf' g2 e2 hok x71 et ov h13 h13' h14
        unfold hp_o5
        simp (disch := omega) only [hp_kN, nI_add, pk_mul, hp_isInN, hp_m1L, hp_l0, hp_l1, hp_l2, hp_l3, hp_l4, hp_l5, hp_l7, hp_l8, hp_l10, hp_l17, hp_l20, hp_l24, hp_l48, hp_l50, hp_l55, hp_l127, hp_lm1, hp_eqN, hp_ltN, hp_inN, hp_cl, if_pos, if_neg, if_true, if_false, Option.bind_some, y71, et2, e1, hp_negl, kv, e2']
      · obtain ⟨D2, e2, g2⟩ := ih (k + 1) n D1 _ (some (k + 1)) (r + L.1 t) (by omega) (by omega) f1 f2' hO' (by omega) hf' h13' (fun v hv => by injection hv with hv; omega)
        refine ⟨D2, ?_, g2⟩
        rw [hp_rs1 ov]
        have e2' : F_X9_replay_82 N n (nI a) (nI T) (nI (k + 1)) (nI (k + 1)) D1 = some (hp_rA y a (hp_rp y tp m (k + 1) (hp_pul y (y 2) t L, some (k + 1), r + L.1 t)), D2) := e2
        rw [ov] at kv
        rw [F_X9_replay_82_eq]
        clear ih h1 hQ hO hf ho f1 f2 f2' f3 f4 f5 f6 hO' hf' g2 e2 hok x71 et ov h13 h13' h14
        unfold hp_o5
        simp (disch := omega) only [hp_kN, nI_add, pk_mul, hp_isInN, hp_m1L, hp_l0, hp_l1, hp_l2, hp_l3, hp_l4, hp_l5, hp_l7, hp_l8, hp_l10, hp_l17, hp_l20, hp_l24, hp_l48, hp_l50, hp_l55, hp_l127, hp_lm1, hp_eqN, hp_ltN, hp_inN, hp_cl, if_pos, if_neg, if_true, if_false, Option.bind_some, y71, et2, e1, hp_negl, kv, e2']
end
theorem hp_pfM (N : Nat) {T : Nat} {tp : Nat → Nat} {D : hy_M} (hT40 : T ≤ 40) (hT : D 67 5 = nI T) (htp : ∀ j, j < T → D 71 j = nI (tp j)) (htb : ∀ j, j < T → 1 ≤ tp j ∧ tp j ≤ 127) : ∀ m i n, i + m = T → m < n → F_X9_pullsFault_2 N n (nI i) D = some (nI (match hp_ff 3 20 tp m i with | some w => w | none => T), D) := by
  intro m
  induction m with
  | zero =>
    intro i n e hm
    obtain ⟨n, rfl⟩ : ∃ n', n = n' + 1 := ⟨n - 1, by omega⟩
    have e : i = T := by omega
    subst e
    rw [F_X9_pullsFault_2_eq]
    clear htp htb
    simp (disch := omega) only [hp_kN, nI_add, pk_mul, hp_isInN, hp_m1L, hp_l0, hp_l1, hp_l2, hp_l3, hp_l4, hp_l5, hp_l7, hp_l8, hp_l10, hp_l17, hp_l20, hp_l24, hp_l48, hp_l50, hp_l55, hp_l127, hp_lm1, hp_eqN, hp_ltN, hp_inN, hp_cl, if_pos, if_neg, if_true, if_false, Option.bind_some, hT]
    rfl
  | succ m ih =>
    intro i n e hm
    obtain ⟨n, rfl⟩ : ∃ n', n = n' + 1 := ⟨n - 1, by omega⟩
    have hi := ih (i + 1) n (by omega) (by omega)
    have t1 := htp i (by omega)
    have t2 := htb i (by omega)
    clear ih htp htb
    have e0 : hp_ff 3 20 tp (m + 1) i = if hp_fok 3 20 tp i then hp_ff 3 20 tp m (i + 1) else some i := rfl
    rw [F_X9_pullsFault_2_eq, e0]
    by_cases q : hp_fok 3 20 tp i
    · rw [if_pos q]
      obtain ⟨q1, q2, q3⟩ := q
      simp (disch := omega) only [hp_kN, nI_add, pk_mul, hp_isInN, hp_m1L, hp_l0, hp_l1, hp_l2, hp_l3, hp_l4, hp_l5, hp_l7, hp_l8, hp_l10, hp_l17, hp_l20, hp_l24, hp_l48, hp_l50, hp_l55, hp_l127, hp_lm1, hp_eqN, hp_ltN, hp_inN, hp_cl, if_pos, if_neg, if_true, if_false, Option.bind_some, hT, t1, hi]
    · rw [if_neg q]
      clear hi
      by_cases q1 : i < 20
      · have q3 : ¬ (48 ≤ tp i ∧ tp i < 51) := fun z => q ⟨q1, z.1, by omega⟩
        clear q
        simp (disch := omega) only [hp_kN, nI_add, pk_mul, hp_isInN, hp_m1L, hp_l0, hp_l1, hp_l2, hp_l3, hp_l4, hp_l5, hp_l7, hp_l8, hp_l10, hp_l17, hp_l20, hp_l24, hp_l48, hp_l50, hp_l55, hp_l127, hp_lm1, hp_eqN, hp_ltN, hp_inN, hp_cl, if_pos, if_neg, if_true, if_false, Option.bind_some, hT, t1]
      · clear q
        simp (disch := omega) only [hp_kN, nI_add, pk_mul, hp_isInN, hp_m1L, hp_l0, hp_l1, hp_l2, hp_l3, hp_l4, hp_l5, hp_l7, hp_l8, hp_l10, hp_l17, hp_l20, hp_l24, hp_l48, hp_l50, hp_l55, hp_l127, hp_lm1, hp_eqN, hp_ltN, hp_inN, hp_cl, if_pos, if_neg, if_true, if_false, Option.bind_some, hT]
theorem st_replay (N : Nat) (hN : 100 ≤ N) (a : Int32) : hp_step (F_X8_replay N a) (F_X9_replay N a) := by
  rintro ⟨y, pu, yk, pk, fl, T, P, tp, pp, ls, lc⟩ ⟨hw, hw1⟩
  obtain ⟨b0, b1, b2, b8, b17, b9⟩ := hp_Wb hw
  rcases hp_arg a with ⟨a0, a1, a2⟩ | ⟨k, hk, rfl⟩
  · refine ⟨-1, _, ⟨hw, hw1⟩, hp_qx0 fun D hX => ?_, hp_qm0 fun D hR => ?_⟩
    · rw [F_X8_replay_eq, if_pos a0]
    · rw [F_X9_replay_eq, hp_isIng N a2 0 _ (by decide)]
      rfl
  by_cases ha : k < 6
  case neg =>
    refine ⟨-1, _, ⟨hw, hw1⟩, hp_qx0 fun D hX => ?_, hp_qm0 fun D hR => ?_⟩
    · rw [F_X8_replay_eq]
      simp (disch := omega) only [hp_kN, nI_add, pk_mul, hp_isInN, hp_m1L, hp_l0, hp_l1, hp_l2, hp_l3, hp_l4, hp_l5, hp_l7, hp_l8, hp_l10, hp_l17, hp_l20, hp_l24, hp_l48, hp_l50, hp_l55, hp_l127, hp_lm1, hp_eqN, hp_ltN, hp_inN, hp_cl, if_pos, if_neg, if_true, if_false, Option.bind_some]
    · rw [F_X9_replay_eq]
      simp (disch := omega) only [hp_kN, nI_add, pk_mul, hp_isInN, hp_m1L, hp_l0, hp_l1, hp_l2, hp_l3, hp_l4, hp_l5, hp_l7, hp_l8, hp_l10, hp_l17, hp_l20, hp_l24, hp_l48, hp_l50, hp_l55, hp_l127, hp_lm1, hp_eqN, hp_ltN, hp_inN, hp_cl, if_pos, if_neg, if_true, if_false, Option.bind_some]
  obtain ⟨w1, w2, w3, w4, w5, w6, w7⟩ := hw1
  have W0 : hp_W1 yk fl 0 P tp pp ls := ⟨w1, w2, by omega, fun j hj => absurd hj (by omega), w5, w6, w7⟩
  have hm0 : ∀ D, hp_R (y, pu, yk, pk, fl, T, P, tp, pp, ls, lc) D → hp_R (y, pu, yk, pk, fl, 0, P, tp, pp, ls, lc) (hy_w D 67 5 (nI 0)) := fun D hR => ⟨hp_MY_fr hR.1 (hy_w_ne (by omega)), hp_M1_tape hR.2 (fun c a => hy_w_ne (by omega)) (fun j a => hp_wn (Or.inr (by omega))) (hp_ws _ _ _ _) (fun j hj => absurd hj (by omega))⟩
  have hx0 : ∀ D, hp_X (y, pu, yk, pk, fl, T, P, tp, pp, ls, lc) D → hp_X (y, pu, yk, pk, fl, 0, P, tp, pp, ls, lc) (hy_w D 37 1 (nI 0)) := fun D hX => ⟨hp_CY_fr hX.1 (fun c a b => hy_w_ne (by omega)), hp_C1_tape hX.2 (fun c a => hy_w_ne (by omega)) (hp_ws _ _ _ _) (fun j hj => absurd hj (by omega))⟩
  have kx : ∀ D, hp_X (y, pu, yk, pk, fl, T, P, tp, pp, ls, lc) D → F_X6_faultOfFigures N (nI 3) (nI 0) (nI 20) D = some (match hp_ff 3 20 tp T 0 with | some w => nI w | none => if T < 0 then nI T else -nI 1, D) := fun D hX => by
    rw [F_X6_faultOfFigures_eq]
    exact hp_ffX N (by omega) (by omega) (by omega) hX.2.2.2.1 w3 hX.2.2.2.2.1 w4 T 0 N (by omega) (by omega)
  have km : ∀ D, hp_R (y, pu, yk, pk, fl, T, P, tp, pp, ls, lc) D → F_X9_pullsFault N D = some (nI (match hp_ff 3 20 tp T 0 with | some w => w | none => T), D) := fun D hR => by
    rw [F_X9_pullsFault_eq]
    exact hp_pfM N w3 hR.2.2.2.1 hR.2.2.2.2.1 w4 T 0 N (by omega) (by omega)
  cases e : hp_ff 3 20 tp T 0 with
  | some w =>
    have s := hp_ff_s _ _ _ e
    have s2 := s.2.1
    refine ⟨-nI 100 - nI w, (y, pu, yk, pk, fl, 0, P, tp, pp, ls, lc), ⟨hw, W0⟩, fun D hX => ?_, fun D hR => ?_⟩
    · refine ⟨hy_w D 37 1 (nI 0), ?_, hx0 D hX, fun c a b => hy_w_ne (by omega)⟩
      have k1 := kx D hX
      rw [e] at k1
      have k1' : F_X6_faultOfFigures N (nI 3) (nI 0) (nI 20) D = some (nI w, D) := k1
      rw [F_X8_replay_eq]
      clear kx km w2 w4 w6 w7 W0 hm0 hx0 k1 s
      simp (disch := omega) only [hp_kN, nI_add, pk_mul, hp_isInN, hp_m1L, hp_l0, hp_l1, hp_l2, hp_l3, hp_l4, hp_l5, hp_l7, hp_l8, hp_l10, hp_l17, hp_l20, hp_l24, hp_l48, hp_l50, hp_l55, hp_l127, hp_lm1, hp_eqN, hp_ltN, hp_inN, hp_cl, if_pos, if_neg, if_true, if_false, Option.bind_some, k1', hp_nne, F_X8_replay_40_eq]
    · refine ⟨hy_w D 67 5 (nI 0), ?_, hm0 D hR, fun c a => hy_w_ne (by omega)⟩
      have k1 := km D hR
      rw [e] at k1
      have k1' : F_X9_pullsFault N D = some (nI w, D) := k1
      have hT : D 67 5 = nI T := hR.2.2.2.1
      rw [F_X9_replay_eq]
      clear kx km w2 w4 w6 w7 W0 hm0 hx0 k1 s
      simp (disch := omega) only [hp_kN, nI_add, pk_mul, hp_isInN, hp_m1L, hp_l0, hp_l1, hp_l2, hp_l3, hp_l4, hp_l5, hp_l7, hp_l8, hp_l10, hp_l17, hp_l20, hp_l24, hp_l48, hp_l50, hp_l55, hp_l127, hp_lm1, hp_eqN, hp_ltN, hp_inN, hp_cl, if_pos, if_neg, if_true, if_false, Option.bind_some, k1', hT]
  | none =>
    have hok := hp_ff_n _ _ e
    have hT20 : T ≤ 20 := by
      by_cases q : T = 0
      · omega
      · have := (hok (T - 1) (by omega) (by omega)).1
        omega
    have hok2 : ∀ j, j < T → 48 ≤ tp j ∧ tp j < 51 := fun j hj => by
      have := hok j (by omega) (by omega)
      exact ⟨this.2.1, by omega⟩
    clear hok
    obtain ⟨hO, htt⟩ := hp_H_w hw (y 2)
    obtain ⟨o0, eo⟩ : ∃ o : Option Nat, o = if hp_ov y (hp_H y (y 2)).1 (hp_H y (y 2)).2 = 1 then some 0 else none := ⟨_, rfl⟩
    have ho : ∀ v, o0 = some v → v ≤ 100 := fun v hv => by
      rw [eo] at hv
      split at hv
      · injection hv with hv
        omega
      · cases hv
    refine ⟨hp_rA y k (hp_rp y tp T 0 (hp_H y (y 2), o0, 0)), (y, pu, yk, pk, fl, 0, P, tp, pp, ls, lc), ⟨hw, W0⟩, fun D hX => ?_, fun D hR0 => ?_⟩
    · have k1 := kx D hX
      rw [e] at k1
      have k1' : F_X6_faultOfFigures N (nI 3) (nI 0) (nI 20) D = some (-nI 1, D) := k1
      obtain ⟨D1, e1, f1, f2⟩ := hp_thX N (by omega) hw hX (D1 := D) (fun _ _ => rfl)
      have kv := hp_toX N (by omega) hw hX (fun q hq => f2 q (by omega)) f1 hO (by omega)
      obtain ⟨D2, e2, g2⟩ := hp_rpX N (by omega) hw hX hT20 hok2 ha T 0 N D1 (hp_H y (y 2)) o0 0 (by omega) (by omega) f1 hO (by omega) f2 ho
      have hX2 : hp_X (y, pu, yk, pk, fl, T, P, tp, pp, ls, lc) D2 := hp_X_sc hX (fun c hc => g2 c (by omega))
      refine ⟨hy_w D2 37 1 (nI 0), ?_, hx0 D2 hX2, fun c a b => by rw [hy_w_ne (by omega), g2 c (by omega)]⟩
      rw [F_X8_replay_eq]
      clear kx km w2 w4 w6 w7 W0 hm0 hx0 k1 f1 f2 g2 hO hok2 ho hX2
      rcases hp_ov01 y (hp_H y (y 2)).1 (hp_H y (y 2)).2 with ov | ov
      · rw [if_neg (by omega)] at eo
        subst eo
        rw [ov] at kv
        have e2' : F_X8_replayed_44 N N (nI k) (-nI 5) (nI 0) (nI 0) D1 = some (hp_rA y k (hp_rp y tp T 0 (hp_H y (y 2), none, 0)), D2) := e2
        have e3 : F_X8_replayed N (nI k) D = some (hp_rA y k (hp_rp y tp T 0 (hp_H y (y 2), none, 0)), D2) := by
          rw [F_X8_replayed_eq]
          clear e2 ov
          simp (disch := omega) only [hp_kN, nI_add, pk_mul, hp_isInN, hp_m1L, hp_l0, hp_l1, hp_l2, hp_l3, hp_l4, hp_l5, hp_l7, hp_l8, hp_l10, hp_l17, hp_l20, hp_l24, hp_l48, hp_l50, hp_l55, hp_l127, hp_lm1, hp_eqN, hp_ltN, hp_inN, hp_cl, if_pos, if_neg, if_true, if_false, Option.bind_some, e1, kv, F_X8_replayed_38_eq, e2']
        clear e2 e2' ov kv
        simp (disch := omega) only [hp_kN, nI_add, pk_mul, hp_isInN, hp_m1L, hp_l0, hp_l1, hp_l2, hp_l3, hp_l4, hp_l5, hp_l7, hp_l8, hp_l10, hp_l17, hp_l20, hp_l24, hp_l48, hp_l50, hp_l55, hp_l127, hp_lm1, hp_eqN, hp_ltN, hp_inN, hp_cl, if_pos, if_neg, if_true, if_false, Option.bind_some, k1', e3, F_X8_replay_40_eq, eq_self]
      · rw [if_pos ov] at eo
        subst eo
        rw [ov] at kv
        have e2' : F_X8_replayed_44 N N (nI k) (nI 0) (nI 0) (nI 0) D1 = some (hp_rA y k (hp_rp y tp T 0 (hp_H y (y 2), some 0, 0)), D2) := e2
        have e3 : F_X8_replayed N (nI k) D = some (hp_rA y k (hp_rp y tp T 0 (hp_H y (y 2), some 0, 0)), D2) := by
          rw [F_X8_replayed_eq]
          clear e2 ov
          simp (disch := omega) only [hp_kN, nI_add, pk_mul, hp_isInN, hp_m1L, hp_l0, hp_l1, hp_l2, hp_l3, hp_l4, hp_l5, hp_l7, hp_l8, hp_l10, hp_l17, hp_l20, hp_l24, hp_l48, hp_l50, hp_l55, hp_l127, hp_lm1, hp_eqN, hp_ltN, hp_inN, hp_cl, if_pos, if_neg, if_true, if_false, Option.bind_some, e1, kv, F_X8_replayed_38_eq, e2']
        clear e2 e2' ov kv
        simp (disch := omega) only [hp_kN, nI_add, pk_mul, hp_isInN, hp_m1L, hp_l0, hp_l1, hp_l2, hp_l3, hp_l4, hp_l5, hp_l7, hp_l8, hp_l10, hp_l17, hp_l20, hp_l24, hp_l48, hp_l50, hp_l55, hp_l127, hp_lm1, hp_eqN, hp_ltN, hp_inN, hp_cl, if_pos, if_neg, if_true, if_false, Option.bind_some, k1', e3, F_X8_replay_40_eq, eq_self]
    · have k1 := km D hR0
      rw [e] at k1
      have k1' : F_X9_pullsFault N D = some (nI T, D) := k1
      have hT : D 67 5 = nI T := hR0.2.2.2.1
      have h71 : ∀ j, j < T → D 71 j = nI (tp j) := hR0.2.2.2.2.1
      have hRw := hm0 D hR0
      obtain ⟨D1, e1, f1, f2⟩ := hp_mc N hN (hy_w D 67 5 (nI 0))
      have hR := hp_R_sm hRw (hp_sm70 f2)
      obtain ⟨D2, e2, g1, g2, g3⟩ := hp_clM2 N (by omega) D1
      obtain ⟨D3, eD3⟩ : ∃ D3, D3 = hy_w D2 67 13 (nI 0) := ⟨_, rfl⟩
      have hf : hp_fk D1 D3 := by
        rw [eD3]
        exact ⟨fun q a b _ => by rw [hy_w_ne a, g2 q b], fun j a _ => by rw [hp_wn (Or.inr a), g2 67 (by omega)], fun p a b c => by rw [hp_wn (Or.inl (by omega)), g3 p a b c]⟩
      have q13 : D3 67 13 = nI 0 := by rw [eD3, hp_ws]
      have hQ : hp_PM (P, pp) D3 := by
        rw [eD3]
        exact ⟨by rw [hp_wn (Or.inr (by omega)), g2 67 (by omega)]; exact hR.2.2.2.2.2.1, fun j hj => by rw [hy_w_ne (by omega), g2 77 (by omega)]; exact hR.2.2.2.2.2.2.1 j hj⟩
      obtain ⟨D4, e4, k1, k2, k3, k4, k5, k6⟩ := hp_thM N (by omega) hw (s := 0) hR.1 hf (by rw [hf.2.1 14 (by omega) (by omega)]; exact hR.2.2.2.2.2.2.2.2) (hp_LN_fr g1 (by rw [eD3]; exact hy_w_ne (by omega))) hQ (Or.inl rfl)
      rw [hp_huQ0] at k2
      have hf4 := hp_fk_tr hf k6
      have kv := hp_toM N (by omega) hw hR.1 hf4 k1 hO (by omega)
      obtain ⟨D5, e5, r1, r2, r3, r4⟩ := hp_rpM N hN hw hR hT20 (fun j hj => by rw [f2 71 (by omega), hy_w_ne (by omega)]; exact h71 j hj) hok2 ha T 0 N D4 (hp_H y (y 2)) o0 0 (by omega) (by omega) k1 k2 hO (by omega) hf4 (by rw [k3, q13, nI_add, Nat.zero_add]; rfl) ho
      refine ⟨D5, ?_, hp_R_bk hRw (fun j hj => by rw [r1 j hj, f1 j hj]) (fun c a b d g => by rw [r2 c a b g, f2 c d]) (by rw [r3 3 (by omega) (by omega), f2 67 (by omega)]) (by rw [r3 14 (by omega) (by omega), f2 67 (by omega)]) (Nat.le_refl 0) (by rw [r3 5 (by omega) (by omega), f2 67 (by omega), hp_ws]) r4, fun c a => by rw [r2 c (by omega) (by omega) (by omega), f2 c (by omega), hy_w_ne (by omega)]⟩
      rw [eD3] at e4
      rw [F_X9_replay_eq]
      clear kx km w2 w4 w6 w7 W0 hm0 hx0 k1 f1 f2 g1 g2 g3 hO hok2 ho hR hRw hf hQ k2 k3 k4 k5 k6 hf4 r1 r2 r3 r4 h71 q13 eD3 hR0
      rcases hp_ov01 y (hp_H y (y 2)).1 (hp_H y (y 2)).2 with ov | ov
      · rw [if_neg (by omega)] at eo
        subst eo
        rw [ov] at kv
        have e5' : F_X9_replay_82 N N (nI k) (nI T) (-nI 5) (nI 0) D4 = some (hp_rA y k (hp_rp y tp T 0 (hp_H y (y 2), none, 0)), D5) := e5
        clear e5 ov
        simp (disch := omega) only [hp_kN, nI_add, pk_mul, hp_isInN, hp_m1L, hp_l0, hp_l1, hp_l2, hp_l3, hp_l4, hp_l5, hp_l7, hp_l8, hp_l10, hp_l17, hp_l20, hp_l24, hp_l48, hp_l50, hp_l55, hp_l127, hp_lm1, hp_eqN, hp_ltN, hp_inN, hp_cl, if_pos, if_neg, if_true, if_false, Option.bind_some, k1', hT, e1, e2, e4, kv, e5']
      · rw [if_pos ov] at eo
        subst eo
        rw [ov] at kv
        have e5' : F_X9_replay_82 N N (nI k) (nI T) (nI 0) (nI 0) D4 = some (hp_rA y k (hp_rp y tp T 0 (hp_H y (y 2), some 0, 0)), D5) := e5
        clear e5 ov
        simp (disch := omega) only [hp_kN, nI_add, pk_mul, hp_isInN, hp_m1L, hp_l0, hp_l1, hp_l2, hp_l3, hp_l4, hp_l5, hp_l7, hp_l8, hp_l10, hp_l17, hp_l20, hp_l24, hp_l48, hp_l50, hp_l55, hp_l127, hp_lm1, hp_eqN, hp_ltN, hp_inN, hp_cl, if_pos, if_neg, if_true, if_false, Option.bind_some, k1', hT, e1, e2, e4, kv, e5']
