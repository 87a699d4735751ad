/-! ===== replay ===== -/
def hp_o5 : Option Nat → Int32
  | none => -nI 5
  | some v => nI v
abbrev hp_S : Type := hp_L × Option Nat × Nat
def hp_rs (y : Nat → Nat → Nat) (t k : Nat) : hp_S → hp_S
  | (L, some v, r) => (hp_pul y (y 2) t L, some v, r + L.1 t)
  | (L, none, r) => (hp_pul y (y 2) t L, (if hp_ov y (hp_pul y (y 2) t L).1 (hp_pul y (y 2) t L).2 = 1 then some (k + 1) else none), r + L.1 t)
def hp_rp (y : Nat → Nat → Nat) (tp : Nat → Nat) : Nat → Nat → hp_S → hp_S
  | 0, _, S => S
  | m + 1, k, S => hp_rp y tp m (k + 1) (hp_rs y (tp k - 48) k S)
def hp_us (L : hp_L) (i : Nat) : Nat := if 0 < L.1 i then 2 ^ i else 0
def hp_use (L : hp_L) : Nat := (((0 ||| hp_us L 0) ||| hp_us L 1) ||| hp_us L 2)
def hp_w5 (y : Nat → Nat → Nat) (L : hp_L) (t : Nat) : Int32 := hp_o5 (hp_fwT y (L.2 (3 + t)) t (L.1 (3 + t)) 0)
def hp_rA (y : Nat → Nat → Nat) (a : Nat) (S : hp_S) : Int32 := if a = 0 then nI (S.1.1 3 + S.1.1 4) else if a = 1 then hp_o5 S.2.1 else if a = 2 then nI (hp_use S.1) else if a = 3 then hp_w5 y S.1 0 else if a = 4 then hp_w5 y S.1 1 else nI S.2.2
theorem hp_us_b (L : hp_L) {i : Nat} (h : i < 3) : hp_us L i < 8 := by
  unfold hp_us
  have : i = 0 ∨ i = 1 ∨ i = 2 := by omega
  rcases this with rfl | rfl | rfl <;> split <;> decide
theorem hp_tu_s (N n : Nat) {L : hp_L} {D : hy_M} (h : hp_LX L.1 L.2 D) (h8 : hp_tot L ≤ 8) {i v : Nat} (hi : i < 3) (hv : v < 8) : F_X2_tracksInUse_4 N (n + 1) (nI v) (nI i) D = F_X2_tracksInUse_4 N n (nI (v ||| hp_us L i)) (nI (i + 1)) D := by
  have a := h.1 i (by omega)
  have b := hp_tot_le (L := L) (l := i) (by omega)
  have hp : 2 ^ i < 8 := by
    have : i = 0 ∨ i = 1 ∨ i = 2 := by omega
    rcases this with rfl | rfl | rfl <;> decide
  clear h
  rw [F_X2_tracksInUse_4_eq]
  unfold hp_us
  by_cases q : 0 < L.1 i
  · simp (disch := omega) only [hp_kN, nI_add, pk_mul, hp_isInN, hp_m1L, hp_l0, hp_l1, hp_l2, hp_l3, hp_l4, hp_l5, hp_l7, hp_l8, hp_l10, hp_l17, hp_l20, hp_l24, hp_l48, hp_l50, hp_l55, hp_l127, hp_lm1, hp_eqN, hp_ltN, hp_inN, hp_cl, if_pos, if_neg, if_true, if_false, Option.bind_some, a, hp_shl, hp_orL]
  · simp (disch := omega) only [hp_kN, nI_add, pk_mul, hp_isInN, hp_m1L, hp_l0, hp_l1, hp_l2, hp_l3, hp_l4, hp_l5, hp_l7, hp_l8, hp_l10, hp_l17, hp_l20, hp_l24, hp_l48, hp_l50, hp_l55, hp_l127, hp_lm1, hp_eqN, hp_ltN, hp_inN, hp_cl, if_pos, if_neg, if_true, if_false, Option.bind_some, a, Nat.or_zero]
theorem hp_or8 {a b : Nat} (ha : a < 8) (hb : b < 8) : a ||| b < 8 := (hp_orI ha hb).2
theorem hp_tuX (N : Nat) (hN : 10 ≤ N) {L : hp_L} {D : hy_M} (h : hp_LX L.1 L.2 D) (h8 : hp_tot L ≤ 8) : F_X2_tracksInUse N D = some (nI (hp_use L), D) := by
  obtain ⟨n, rfl⟩ : ∃ n, N = n + 4 := ⟨N - 4, by omega⟩
  have u0 := hp_us_b L (i := 0) (by omega)
  have u1 := hp_us_b L (i := 1) (by omega)
  have v0 : (0 ||| hp_us L 0) < 8 := hp_or8 (by omega) u0
  have v1 : ((0 ||| hp_us L 0) ||| hp_us L 1) < 8 := hp_or8 v0 u1
  rw [F_X2_tracksInUse_eq, show (0 : Int32) = nI 0 from rfl, hp_tu_s (n + 4) (n + 3) h h8 (by omega) (by omega), hp_tu_s (n + 4) (n + 2) h h8 (by omega) v0, hp_tu_s (n + 4) (n + 1) h h8 (by omega) v1, F_X2_tracksInUse_4_eq]
  clear h
  simp (disch := omega) only [hp_kN, nI_add, pk_mul, hp_isInN, hp_m1L, hp_l0, hp_l1, hp_l2, hp_l3, hp_l4, hp_l5, hp_l7, hp_l8, hp_l10, hp_l17, hp_l20, hp_l24, hp_l48, hp_l50, hp_l55, hp_l127, hp_lm1, hp_eqN, hp_ltN, hp_inN, hp_cl, if_pos, if_neg, if_true, if_false, Option.bind_some]
  rfl
theorem hp_wtX (N : Nat) (hN : 10 ≤ N) {y : Nat → Nat → Nat} (hw : hp_WF y) {D : hy_M} (h6 : ∀ t, t < 2 → ∀ j, j < 8 → D (7 + t) j = nI (y (6 + t) j)) {L : hp_L} (h : hp_LX L.1 L.2 D) (hO : hp_LO y L) (h8 : hp_tot L ≤ 8) {t : Nat} (ht : t < 2) : F_X8_wrongInThought N (nI t) D = some (hp_w5 y L t, D) := by
  have b0 := hw.1
  have b := hp_tot_le (L := L) (l := 3 + t) (by omega)
  have k := hp_fwX_1_58 N hN hw h6 ht (h.1 (3 + t) (by omega)) (by omega) (h.2 (3 + t) (by omega)) (fun j hj => by have := (hO (3 + t) (by omega) j hj).1; omega)
  rw [F_X8_wrongInThought_eq]
  unfold hp_w5
  cases e : hp_fwT y (L.2 (3 + t)) t (L.1 (3 + t)) 0 with
  | none =>
    rw [e] at k
    have k' : F_X7_firstWrong_1_58 N (nI t) D = some (-nI 1, D) := k
    rw [k', Option.bind_some]
    rfl
  | some w =>
    have := hp_fwT_lt _ _ _ e
    rw [e] at k
    have k' : F_X7_firstWrong_1_58 N (nI t) D = some (nI w, D) := k
    clear h h6 hO
    simp (disch := omega) only [hp_kN, nI_add, pk_mul, hp_isInN, hp_m1L, hp_l0, hp_l1, hp_l2, hp_l3, hp_l4, hp_l5, hp_l7, hp_l8, hp_l10, hp_l17, hp_l20, hp_l24, hp_l48, hp_l50, hp_l55, hp_l127, hp_lm1, hp_eqN, hp_ltN, hp_inN, hp_cl, if_pos, if_neg, if_true, if_false, Option.bind_some, k', hp_nne]
    rfl
theorem hp_figX (N : Nat) {k T : Nat} {tp : Nat → Nat} {D : hy_M} (hT : T ≤ 40) (htp : ∀ j, j < T → D 38 j = nI (tp j)) (hk : k < T) (h48 : 48 ≤ tp k) : F_X6_figureAt N (nI k) D = some (nI (tp k - 48), D) := by
  have a := htp k hk
  rw [F_X6_figureAt_eq]
  clear htp
  simp (disch := omega) only [hp_kN, nI_add, pk_mul, hp_isInN, hp_m1L, hp_l0, hp_l1, hp_l2, hp_l3, hp_l4, hp_l5, hp_l7, hp_l8, hp_l10, hp_l17, hp_l20, hp_l24, hp_l48, hp_l50, hp_l55, hp_l127, hp_lm1, hp_eqN, hp_ltN, hp_inN, hp_cl, if_pos, if_neg, if_true, if_false, Option.bind_some, a, pk_sub]
theorem hp_rs1 {y : Nat → Nat → Nat} {t k r : Nat} {L : hp_L} (h : hp_ov y (hp_pul y (y 2) t L).1 (hp_pul y (y 2) t L).2 = 1) : hp_rs y t k (L, none, r) = (hp_pul y (y 2) t L, some (k + 1), r + L.1 t) := by
  show (hp_pul y (y 2) t L, (if hp_ov y (hp_pul y (y 2) t L).1 (hp_pul y (y 2) t L).2 = 1 then some (k + 1) else none), r + L.1 t) = _
  rw [if_pos h]
theorem hp_rs0 {y : Nat → Nat → Nat} {t k r : Nat} {L : hp_L} (h : hp_ov y (hp_pul y (y 2) t L).1 (hp_pul y (y 2) t L).2 = 0) : hp_rs y t k (L, none, r) = (hp_pul y (y 2) t L, none, r + L.1 t) := by
  show (hp_pul y (y 2) t L, (if hp_ov y (hp_pul y (y 2) t L).1 (hp_pul y (y 2) t L).2 = 1 then some (k + 1) else none), r + L.1 t) = _
  rw [if_neg (by omega)]
section
variable {y : Nat → Nat → Nat} {pu : Int32} {yk : Nat → Nat → Nat} {pk : Int32} {fl T P : Nat} {tp pp : Nat → Nat} {ls : Nat → Int32} {lc : Nat → Nat → Int32}
theorem hp_rpX (N : Nat) (hN : 10 ≤ N) (hw : hp_WF y) {D0 : hy_M} (hX : hp_X (y, pu, yk, pk, fl, T, P, tp, pp, ls, lc) D0) (hT : T ≤ 20) (hok : ∀ j, j < T → 48 ≤ tp j ∧ tp j < 51) {a : Nat} (ha : a < 6) : ∀ m k n D L o r, k + m = T → m < n → hp_LX L.1 L.2 D → hp_LO y L → hp_tot L ≤ 8 → (∀ q, ¬ (60 ≤ q ∧ q < 66) → D q = D0 q) → (∀ v, o = some v → v ≤ 100) → ∃ D1, F_X8_replayed_44 N n (nI a) (hp_o5 o) (nI r) (nI k) D = some (hp_rA y a (hp_rp y tp m k (L, o, r)), D1) ∧ ∀ q, ¬ (60 ≤ q ∧ q < 66) → D1 q = D0 q := by
  have b0 := hw.1
  have x37 : D0 37 1 = nI T := hX.2.2.2.1
  have x38 : ∀ j, j < T → D0 38 j = nI (tp j) := hX.2.2.2.2.1
  intro m
  induction m with
  | zero =>
    intro k n D L o r e hm h1 hO h8 hf ho
    obtain ⟨n, rfl⟩ : ∃ n', n = n' + 1 := ⟨n - 1, by omega⟩
    have e : k = T := by omega
    subst e
    have y37 : D 37 1 = nI k := by rw [hf 37 (by omega)]; exact x37
    refine ⟨D, ?_, hf⟩
    obtain ⟨x00, x01, x02, x03, x1, x2, x3, x4, x6, x8, x9, x12, x17⟩ := hp_Xf hw hX.1
    have y6 : ∀ t, t < 2 → ∀ j, j < 8 → D (7 + t) j = nI (y (6 + t) j) := fun t ht j hj => by rw [hf (7 + t) (by omega)]; exact x6 t ht j hj
    have k0 := hp_coX58 N (h1.1 3 (by omega)) (h1.1 4 (by omega))
    have k2 := hp_tuX N hN h1 h8
    have k3 := hp_wtX N hN hw y6 h1 hO h8 (t := 0) (by omega)
    have k4 := hp_wtX N hN hw y6 h1 hO h8 (t := 1) (by omega)
    rw [F_X8_replayed_44_eq]
    clear h1 hO hf ho y6 x6 x38 hok x1 x2 x3 x4 x8 x9 x12 x17
    have : a = 0 ∨ a = 1 ∨ a = 2 ∨ a = 3 ∨ a = 4 ∨ a = 5 := by omega
    rcases this with rfl | rfl | rfl | rfl | rfl | rfl
    · simp (disch := omega) only [hp_kN, nI_add, pk_mul, hp_isInN, hp_m1L, hp_l0, hp_l1, hp_l2, hp_l3, hp_l4, hp_l5, hp_l7, hp_l8, hp_l10, hp_l17, hp_l20, hp_l24, hp_l48, hp_l50, hp_l55, hp_l127, hp_lm1, hp_eqN, hp_ltN, hp_inN, hp_cl, if_pos, if_neg, if_true, if_false, Option.bind_some, y37, k0]
      rfl
    · simp (disch := omega) only [hp_kN, nI_add, pk_mul, hp_isInN, hp_m1L, hp_l0, hp_l1, hp_l2, hp_l3, hp_l4, hp_l5, hp_l7, hp_l8, hp_l10, hp_l17, hp_l20, hp_l24, hp_l48, hp_l50, hp_l55, hp_l127, hp_lm1, hp_eqN, hp_ltN, hp_inN, hp_cl, if_pos, if_neg, if_true, if_false, Option.bind_some, y37]
      rfl
    · simp (disch := omega) only [hp_kN, nI_add, pk_mul, hp_isInN, hp_m1L, hp_l0, hp_l1, hp_l2, hp_l3, hp_l4, hp_l5, hp_l7, hp_l8, hp_l10, hp_l17, hp_l20, hp_l24, hp_l48, hp_l50, hp_l55, hp_l127, hp_lm1, hp_eqN, hp_ltN, hp_inN, hp_cl, if_pos, if_neg, if_true, if_false, Option.bind_some, y37, k2]
      rfl
    · simp (disch := omega) only [hp_kN, nI_add, pk_mul, hp_isInN, hp_m1L, hp_l0, hp_l1, hp_l2, hp_l3, hp_l4, hp_l5, hp_l7, hp_l8, hp_l10, hp_l17, hp_l20, hp_l24, hp_l48, hp_l50, hp_l55, hp_l127, hp_lm1, hp_eqN, hp_ltN, hp_inN, hp_cl, if_pos, if_neg, if_true, if_false, Option.bind_some, y37, k3]
      rfl
    · simp (disch := omega) only [hp_kN, nI_add, pk_mul, hp_isInN, hp_m1L, hp_l0, hp_l1, hp_l2, hp_l3, hp_l4, hp_l5, hp_l7, hp_l8, hp_l10, hp_l17, hp_l20, hp_l24, hp_l48, hp_l50, hp_l55, hp_l127, hp_lm1, hp_eqN, hp_ltN, hp_inN, hp_cl, if_pos, if_neg, if_true, if_false, Option.bind_some, y37, k4]
      rfl
    · simp (disch := omega) only [hp_kN, nI_add, pk_mul, hp_isInN, hp_m1L, hp_l0, hp_l1, hp_l2, hp_l3, hp_l4, hp_l5, hp_l7, hp_l8, hp_l10, hp_l17, hp_l20, hp_l24, hp_l48, hp_l50, hp_l55, hp_l127, hp_lm1, hp_eqN, hp_ltN, hp_inN, hp_cl, if_pos, if_neg, if_true, if_false, Option.bind_some, y37]
      rfl
  | succ m ih =>
    intro k n D L o r e hm h1 hO h8 hf ho
    obtain ⟨n, rfl⟩ : ∃ n', n = n' + 1 := ⟨n - 1, by omega⟩
    have y37 : D 37 1 = nI T := by rw [hf 37 (by omega)]; exact x37
    have o1 := hok k (by omega)
    have kf := hp_figX N (D := D) (T := T) (k := k) (by omega) (fun j hj => by rw [hf 38 (by omega)]; exact x38 j hj) (by omega) o1.1
    obtain ⟨t, et⟩ : ∃ t, t = tp k - 48 := ⟨_, rfl⟩
    have ht : t < 3 := by omega
    obtain ⟨D1, e1, f1, f2⟩ := hp_tpX N hN hw hX (fun q hq => hf q (by omega)) h1 hO h8 ht
    obtain ⟨hO', ht'⟩ := hp_pul_w hw (y 2) ht hO
    have hf' : ∀ q, ¬ (60 ≤ q ∧ q < 66) → D1 q = D0 q := fun q hq => by rw [f2 q hq, hf q hq]
    have kv := hp_toX N hN hw hX (fun q hq => hf' q (by omega)) f1 hO' (by omega)
    show ∃ D1, F_X8_replayed_44 N (n + 1) (nI a) (hp_o5 o) (nI r) (nI k) D = some (hp_rA y a (hp_rp y tp m (k + 1) (hp_rs y (tp k - 48) k (L, o, r))), D1) ∧ ∀ q, ¬ (60 ≤ q ∧ q < 66) → D1 q = D0 q
    rw [← et]
    rw [← et] at kf
    cases o with
    | some v =>
      have hv := ho v rfl
      obtain ⟨D2, e2, g2⟩ := ih (k + 1) n D1 _ (some v) (r + L.1 t) (by omega) (by omega) f1 hO' (by omega) hf' ho
      refine ⟨D2, ?_, g2⟩
      have e2' : F_X8_replayed_44 N n (nI a) (nI v) (nI (r + L.1 t)) (nI (k + 1)) D1 = some (hp_rA y a (hp_rp y tp m (k + 1) (hp_rs y t k (L, some v, r))), D2) := e2
      rw [F_X8_replayed_44_eq]
      clear ih h1 hO hf ho f1 f2 hO' hf' g2 e2 hok x38 et kv
      show (if nI k < D 37 1 then _ else _) = _
      unfold hp_o5
      simp (disch := omega) only [hp_kN, nI_add, pk_mul, hp_isInN, hp_m1L, hp_l0, hp_l1, hp_l2, hp_l3, hp_l4, hp_l5, hp_l7, hp_l8, hp_l10, hp_l17, hp_l20, hp_l24, hp_l48, hp_l50, hp_l55, hp_l127, hp_lm1, hp_eqN, hp_ltN, hp_inN, hp_cl, if_pos, if_neg, if_true, if_false, Option.bind_some, y37, kf, e1, hp_nne, e2']
    | none =>
      rcases hp_ov01 y (hp_pul y (y 2) t L).1 (hp_pul y (y 2) t L).2 with ov | ov
      · obtain ⟨D2, e2, g2⟩ := ih (k + 1) n D1 _ none (r + L.1 t) (by omega) (by omega) f1 hO' (by omega) hf' (fun v hv => by cases hv)
        refine ⟨D2, ?_, g2⟩
        rw [hp_rs0 ov]
        have e2' : F_X8_replayed_44 N n (nI a) (-nI 5) (nI (r + L.1 t)) (nI (k + 1)) D1 = some (hp_rA y a (hp_rp y tp m (k + 1) (hp_pul y (y 2) t L, none, r + L.1 t)), D2) := e2
        rw [ov] at kv
        rw [F_X8_replayed_44_eq]
        clear ih h1 hO hf ho f1 f2 hO' hf' g2 e2 hok x38 et ov
        unfold hp_o5
        simp (disch := omega) only [hp_kN, nI_add, pk_mul, hp_isInN, hp_m1L, hp_l0, hp_l1, hp_l2, hp_l3, hp_l4, hp_l5, hp_l7, hp_l8, hp_l10, hp_l17, hp_l20, hp_l24, hp_l48, hp_l50, hp_l55, hp_l127, hp_lm1, hp_eqN, hp_ltN, hp_inN, hp_cl, if_pos, if_neg, if_true, if_false, Option.bind_some, y37, kf, e1, kv, e2', eq_self]
      · obtain ⟨D2, e2, g2⟩ := ih (k + 1) n D1 _ (some (k + 1)) (r + L.1 t) (by omega) (by omega) f1 hO' (by omega) hf' (fun v hv => by injection hv with hv; omega)
        refine ⟨D2, ?_, g2⟩
        rw [hp_rs1 ov]
        have e2' : F_X8_replayed_44 N n (nI a) (nI (k + 1)) (nI (r + L.1 t)) (nI (k + 1)) D1 = some (hp_rA y a (hp_rp y tp m (k + 1) (hp_pul y (y 2) t L, some (k + 1), r + L.1 t)), D2) := e2
        rw [ov] at kv
        rw [F_X8_replayed_44_eq]
        clear ih h1 hO hf ho f1 f2 hO' hf' g2 e2 hok x38 et ov
        unfold hp_o5
        simp (disch := omega) only [hp_kN, nI_add, pk_mul, hp_isInN, hp_m1L, hp_l0, hp_l1, hp_l2, hp_l3, hp_l4, hp_l5, hp_l7, hp_l8, hp_l10, hp_l17, hp_l20, hp_l24, hp_l48, hp_l50, hp_l55, hp_l127, hp_lm1, hp_eqN, hp_ltN, hp_inN, hp_cl, if_pos, if_neg, if_true, if_false, Option.bind_some, y37, kf, e1, kv, e2', eq_self]
end
