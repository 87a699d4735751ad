/-! ===== the memory's rows ===== -/
theorem hy_oc_spec {c ci k : Nat} {r : Bool} (h : hy_oc c ci k r = true) : ∃ rs, hy_sh c = (2, ci, rs) ∧ ((r = false ∧ rs[k]? = some none) ∨ (r = true ∧ ∃ q, rs[k]? = some (some q) ∧ hy_pr c k = q)) := by
  unfold hy_oc at h
  split at h
  · rename_i ci' rs hsh
    simp only [Bool.and_eq_true, Nat.beq_eq] at h
    obtain ⟨rfl, h⟩ := h
    refine ⟨rs, hsh, ?_⟩
    split at h
    · rename_i q hq
      refine Or.inr ⟨h, q, hq, ?_⟩
      unfold hy_pr
      rw [hsh, List.getD_eq_getElem?_getD, hq]
      rfl
    · rename_i hq
      exact Or.inl ⟨by simpa using h, hq⟩
    · cases h
  · cases h
theorem hy_cl_spec {c ci : Nat} (h : hy_cl c ci = true) : ∃ rs, hy_sh c = (2, ci, rs) := by
  unfold hy_cl at h
  split at h
  · rename_i ci' rs hsh
    simp only [Nat.beq_eq] at h
    subst h
    exact ⟨rs, hsh⟩
  · cases h
theorem hy_wl_spec {r : Nat} (h : 0 < hy_wl r) : ∃ rs, hy_sh r = (0, hy_wl r, rs) := by
  unfold hy_wl at h ⊢
  split at h
  · rename_i n rs hsh
    exact ⟨rs, by rw [hsh]⟩
  · omega
theorem hy_al_spec {r : Nat} (h : 0 < hy_al r) : (∃ rs, hy_sh r = (0, hy_al r, rs)) ∨ (r = 1000 ∧ hy_al r = 8) := by
  unfold hy_al at h ⊢
  split at h
  · rename_i n rs hsh
    exact Or.inl ⟨rs, by rw [hsh]⟩
  · right
    cases hb : Nat.beq r 1000 with
    | false => rw [hb] at h; simp at h
    | true =>
      have e : r = 1000 := Nat.eq_of_beq_eq_true hb
      subst e
      exact ⟨rfl, by decide +kernel⟩
theorem hy_rl_spec {r : Nat} (h : 0 < hy_rl r) : ∃ rs, hy_sh r = (1, hy_rl r, rs) := by
  unfold hy_rl at h ⊢
  split at h
  · rename_i n rs hsh
    exact ⟨rs, by rw [hsh]⟩
  · omega
theorem hy_in_pos {j : Int32} {n : Nat} (h : hy_in j n = true) : j.toNatClampNeg < n := by
  simp only [hy_in, Bool.and_eq_true, Nat.ble_eq] at h
  omega
theorem hy_E_0 {G : hy_G} {D : hy_M} {c n : Nat} {rs : List (Option Nat)} (h : hy_sh c = (0, n, rs)) : hy_E G D c = .inl (G.2.2.2.1, n, .inl (D c)) := by
  unfold hy_E; rw [h]; rfl
theorem hy_E_1 {G : hy_G} {D : hy_M} {c n : Nat} {rs : List (Option Nat)} (h : hy_sh c = (1, n, rs)) : hy_E G D c = .inl (G.2.2.2.2, n, .inr (.inr (.inr (.inr (fun j => if j < n then some (G.1 ((rs.getD j none).getD 0)) else none))))) := by
  unfold hy_E; rw [h]; rfl
theorem hy_E_2 {G : hy_G} {D : hy_M} {c n : Nat} {rs : List (Option Nat)} (h : hy_sh c = (2, n, rs)) : hy_E G D c = .inr (n, hy_fs G.1 D c 0 rs) := by
  unfold hy_E; rw [h]; rfl
theorem hy_HR_put {G : hy_G} {D D' : hy_M} {c : Nat} {e : va_E} {H H1 : Heap} (hH : hy_HR G D H) (hc : c < 81) (he : hy_E G D' c = e) (ho : ∀ c', c' ≠ c → D' c' = D c') (hP : va_P (G.2.1, G.2.2.1) vwCl ((hy_ws G D).set c (G.1 c, e)) H1) : hy_HR G D' H1 := by
  rw [hy_ws_set (D' := D') hc he (fun c' _ h => hy_E_same (ho c' h))] at hP
  exact ⟨hP, fun j hj => by rw [ho 1000 (by omega)]; exact hH.2 j hj⟩
/-- a class's words, by its number -/
def hy_cls (ci : Nat) (C : String) (T : u_T) (N : Nat) (ty : Nat → FieldType) : Prop := vwCl[ci]? = some (C, T, N) ∧ (∀ w ∈ u_ws C T N, w ∈ hy_WT) ∧ (∀ k, k < N → parseFieldDescriptor (T k).2.2.1 = some (ty k)) ∧ ∀ a, a < N → ∀ b, b < N → a ≠ b → (T a).2.1 ≠ (T b).2.1
/-- a pool's entry that names field k of class ci -/
def hy_fl (own : String) (index ci k : Nat) : Prop := ∃ C T N ty, hy_cls ci C T N ty ∧ k < N ∧ Cond.fieldLink own index (T k).1 (T k).2.1 (T k).2.2.1 ∈ hy_WT
/-- .. that may be written, of a type -/
def hy_fp (own : String) (index ci k : Nat) (t : FieldType) : Prop := ∃ C T N ty, hy_cls ci C T N ty ∧ k < N ∧ Cond.fieldLink own index (T k).1 (T k).2.1 (T k).2.2.1 ∈ hy_WT ∧ (T k).2.2.2 = false ∧ ty k = t
section HM
variable {G : hy_G} {x : hy_X} {own : String} {cc : ByteArray} {nL fr lo pc : Nat} {β : Type} {b : β} {f g : hy_C β}
theorem hs_getI (X : hy_Cx G x own cc nL fr lo) {index ci q : Nat} (w : hy_fl own index ci q) (d : hy_dq cc pc (.getfield index) 3 = true) (k : hy_Sn G x nL (pc + 3) b f) : hy_Sn G x nL pc b (o_getI ci q f) := by
  intro L S D ls H locs hL hH hS h
  obtain ⟨p, l, e, R, s, m, args, below, meth, c, cells, slots, Q⟩ := x
  obtain ⟨hx, hb, hml, hown, hts, hlk, hK, hfr, hlo, hce, hsl⟩ := X
  unfold o_getI at h
  split at h
  · rename_i o S'
    cases hok : hy_oc o ci q false with
    | false => rw [hok] at h; cases h
    | true =>
      rw [hok] at h
      obtain ⟨rs, hsh, ⟨-, hrs⟩ | ⟨hf, -⟩⟩ := hy_oc_spec hok
      · obtain ⟨C, T, N, ty, ⟨hc, hu, -⟩, hk, hw⟩ := w
        have hlt := hy_sh_lt hsh (by omega)
        exact va_get hx hb hts hu hown hK.1 hH.1 o (by rw [hy_ws_get hlt, hy_E_2 hsh]) hc q hk (hts _ hw) (fun _ h9 => h9) (v := .int (D o q)) (by rw [hy_fs_get, hrs]; simp) (hy_dqs d) (k _ _ _ _ _ _ hL hH hS h)
      · cases hf
  · cases h
theorem hs_getR (X : hy_Cx G x own cc nL fr lo) {index ci q : Nat} (w : hy_fl own index ci q) (d : hy_dq cc pc (.getfield index) 3 = true) (k : hy_Sn G x nL (pc + 3) b f) : hy_Sn G x nL pc b (o_getR ci q f) := by
  intro L S D ls H locs hL hH hS h
  obtain ⟨p, l, e, R, s, m, args, below, meth, c, cells, slots, Q⟩ := x
  obtain ⟨hx, hb, hml, hown, hts, hlk, hK, hfr, hlo, hce, hsl⟩ := X
  unfold o_getR at h
  split at h
  · rename_i o S'
    cases hok : hy_oc o ci q true with
    | false => rw [hok] at h; cases h
    | true =>
      rw [hok] at h
      obtain ⟨rs, hsh, ⟨hf, -⟩ | ⟨-, r, hr, hp⟩⟩ := hy_oc_spec hok
      · cases hf
      · obtain ⟨C, T, N, ty, ⟨hc, hu, -⟩, hk, hw⟩ := w
        have hlt := hy_sh_lt hsh (by omega)
        exact va_get hx hb hts hu hown hK.1 hH.1 o (by rw [hy_ws_get hlt, hy_E_2 hsh]) hc q hk (hts _ hw) (fun _ h9 => h9) (v := .ref (G.1 (hy_pr o q))) (by rw [hy_fs_get, hr, hp]; rfl) (hy_dqs d) (k _ _ _ _ _ _ hL hH hS h)
  · cases h
theorem hs_putI (X : hy_Cx G x own cc nL fr lo) {index ci q : Nat} (w : hy_fp own index ci q .int) (d : hy_dq cc pc (.putfield index) 3 = true) (k : hy_Sn G x nL (pc + 3) b f) : hy_Sn G x nL pc b (o_putI ci q f) := by
  intro L S D ls H locs hL hH hS h
  obtain ⟨p, l, e, R, s, m, args, below, meth, c, cells, slots, Q⟩ := x
  obtain ⟨hx, hb, hml, hown, hts, hlk, hK, hfr, hlo, hce, hsl⟩ := X
  unfold o_putI at h
  split at h
  · rename_i v o S'
    cases hok : hy_oc o ci q false with
    | false => rw [hok] at h; cases h
    | true =>
      rw [hok] at h
      dsimp only [cond_true] at h
      obtain ⟨rs, hsh, ⟨-, hrs⟩ | ⟨hf, -⟩⟩ := hy_oc_spec hok
      · obtain ⟨C, T, N, ty, ⟨hc, hu, hty, hnm⟩, hk, hw, hfin, ht⟩ := w
        have hlt := hy_sh_lt hsh (by omega)
        exact va_put hx hb hts hu ty hty hnm hown hK.1 hH.1 (hy_D hK.2.2.2.2.2 D) hS o (fs := hy_fs G.1 D o 0 rs) (by rw [hy_ws_get hlt, hy_E_2 hsh]) hc q hk (hts _ hw) (fun _ h9 => h9) hfin (ty := .int) (v := .int v) (by rw [hty q hk, ht]) rfl rfl (by rw [hy_fs_len]; exact (List.getElem?_eq_some_iff.mp hrs).1) (hy_dqs d) (fun H1 locs1 hP1 hD1 hS1 => k _ _ _ _ _ _ hL (hy_HR_put (D' := hy_w D o q v) hH hlt (by rw [hy_E_2 hsh, hy_fs_set hrs]) (fun c' h9 => hy_w_ne h9) hP1) hS1 h)
      · cases hf
  · cases h
theorem hs_putZ (X : hy_Cx G x own cc nL fr lo) {index ci q : Nat} (w : hy_fp own index ci q .boolean) (d : hy_dq cc pc (.putfield index) 3 = true) (k : hy_Sn G x nL (pc + 3) b f) : hy_Sn G x nL pc b (o_putZ ci q f) := by
  intro L S D ls H locs hL hH hS h
  obtain ⟨p, l, e, R, s, m, args, below, meth, c, cells, slots, Q⟩ := x
  obtain ⟨hx, hb, hml, hown, hts, hlk, hK, hfr, hlo, hce, hsl⟩ := X
  unfold o_putZ at h
  split at h
  · rename_i v o S'
    cases hok : hy_oc o ci q false with
    | false => rw [hok] at h; cases h
    | true =>
      rw [hok] at h
      dsimp only [cond_true] at h
      obtain ⟨rs, hsh, ⟨-, hrs⟩ | ⟨hf, -⟩⟩ := hy_oc_spec hok
      · obtain ⟨C, T, N, ty, ⟨hc, hu, hty, hnm⟩, hk, hw, hfin, ht⟩ := w
        have hlt := hy_sh_lt hsh (by omega)
        by_cases hv : v = 0 ∨ v = 1
        · rw [if_pos hv] at h
          have hn : narrow .boolean (.int v) = .int v := by rcases hv with rfl | rfl <;> rfl
          have hfit : fits .boolean (.int v) = true := by rcases hv with rfl | rfl <;> rfl
          exact va_put hx hb hts hu ty hty hnm hown hK.1 hH.1 (hy_D hK.2.2.2.2.2 D) hS o (fs := hy_fs G.1 D o 0 rs) (by rw [hy_ws_get hlt, hy_E_2 hsh]) hc q hk (hts _ hw) (fun _ h9 => h9) hfin (ty := .boolean) (v := .int v) (by rw [hty q hk, ht]) hn hfit (by rw [hy_fs_len]; exact (List.getElem?_eq_some_iff.mp hrs).1) (hy_dqs d) (fun H1 locs1 hP1 hD1 hS1 => k _ _ _ _ _ _ hL (hy_HR_put (D' := hy_w D o q v) hH hlt (by rw [hy_E_2 hsh, hy_fs_set hrs]) (fun c' h9 => hy_w_ne h9) hP1) hS1 h)
        · rw [if_neg hv] at h
          cases h
      · cases hf
  · cases h
theorem hs_iald (X : hy_Cx G x own cc nL fr lo) (d : hy_dq cc pc .iaload 1 = true) (k : hy_Sn G x nL (pc + 1) b f) : hy_Sn G x nL pc b (o_iald f) := by
  intro L S D ls H locs hL hH hS h
  obtain ⟨p, l, e, R, s, m, args, below, meth, c, cells, slots, Q⟩ := x
  obtain ⟨hx, hb, hml, hown, hts, hlk, hK, hfr, hlo, hce, hsl⟩ := X
  unfold o_iald at h
  split at h
  · rename_i j r S'
    by_cases hi : hy_in j (hy_al r) = true
    · rw [if_pos hi] at h
      rcases hy_al_spec (Nat.lt_of_le_of_lt (Nat.zero_le _) (hy_in_pos hi)) with ⟨rs, hsh⟩ | ⟨rfl, h8⟩
      · have hlt := hy_sh_lt hsh (by omega)
        exact va_iald hx hb hK.1 hH.1 r 0 (by rw [hy_ws_get hlt, hy_E_0 hsh]) rfl (hy_in_vp hi) (hy_dqs d) (k _ _ _ _ _ _ hL hH hS h)
      · rw [h8] at hi
        exact va_ti hx hb hK.2.2.1 hS (hy_in_vp hi) (by rw [← hH.2 _ (hy_in_pos hi)]; rfl) (hy_dqs d) (k _ _ _ _ _ _ hL hH hS h)
    · rw [if_neg hi] at h
      cases h
  · cases h
theorem hs_iast (X : hy_Cx G x own cc nL fr lo) (d : hy_dq cc pc .iastore 1 = true) (k : hy_Sn G x nL (pc + 1) b f) : hy_Sn G x nL pc b (o_iast f) := by
  intro L S D ls H locs hL hH hS h
  obtain ⟨p, l, e, R, s, m, args, below, meth, c, cells, slots, Q⟩ := x
  obtain ⟨hx, hb, hml, hown, hts, hlk, hK, hfr, hlo, hce, hsl⟩ := X
  unfold o_iast at h
  split at h
  · rename_i v j r S'
    by_cases hi : hy_in j (hy_wl r) = true
    · rw [if_pos hi] at h
      obtain ⟨rs, hsh⟩ := hy_wl_spec (Nat.lt_of_le_of_lt (Nat.zero_le _) (hy_in_pos hi))
      have hlt := hy_sh_lt hsh (by omega)
      exact va_iast hx hb hK.1 hH.1 (hy_D hK.2.2.2.2.2 D) hS r 0 (by rw [hy_ws_get hlt, hy_E_0 hsh]) rfl (hy_in_vp hi) (hy_dqs d) (fun H1 locs1 hP1 hD1 hS1 => k _ _ _ _ _ _ hL (hy_HR_put (D' := hy_w D r j.toNatClampNeg v) hH hlt (by rw [hy_E_0 hsh, hy_w_same]) (fun c' h9 => hy_w_ne h9) hP1) hS1 h)
    · rw [if_neg hi] at h
      cases h
  · cases h
theorem hs_aald (X : hy_Cx G x own cc nL fr lo) (d : hy_dq cc pc .aaload 1 = true) (k : hy_Sn G x nL (pc + 1) b f) : hy_Sn G x nL pc b (o_aald f) := by
  intro L S D ls H locs hL hH hS h
  obtain ⟨p, l, e, R, s, m, args, below, meth, c, cells, slots, Q⟩ := x
  obtain ⟨hx, hb, hml, hown, hts, hlk, hK, hfr, hlo, hce, hsl⟩ := X
  unfold o_aald at h
  split at h
  · rename_i j r S'
    by_cases hi : hy_in j (hy_rl r) = true
    · rw [if_pos hi] at h
      obtain ⟨rs, hsh⟩ := hy_rl_spec (Nat.lt_of_le_of_lt (Nat.zero_le _) (hy_in_pos hi))
      have hlt := hy_sh_lt hsh (by omega)
      have hcell := hH.1 r _ (hy_ws_get hlt)
      rw [hy_E_1 hsh] at hcell
      have hjl := hy_in_pos hi
      refine W.aald (v := .ref (G.1 (hy_pr r j.toNatClampNeg))) (ty := .array .int) hx hb hcell ((hK.1.2 1 _ rfl).1 (hy_rl r) _) rfl (fun q => by cases q) (by show ¬ (j < 0 ∨ (arrV _ _ _).slots.size ≤ _); rw [arrV_size]; exact hy_in_vp hi) ?_ rfl rfl (hy_dqs d) (k _ _ _ _ _ _ hL hH hS h)
      show (arrV _ _ _).slots[_]? = _
      rw [arrV_read _ _ hjl]
      simp [hjl, va_rf, hy_pr, hsh]
    · rw [if_neg hi] at h
      cases h
  · cases h
theorem hs_gets (X : hy_Cx G x own cc nL fr lo) {index : Nat} (w : Cond.fieldLink own index "HumpYard" "AS_THEY_COME" "[I" ∈ hy_WT) (d : hy_dq cc pc (.getstatic index) 3 = true) (k : hy_Sn G x nL (pc + 3) b f) : hy_Sn G x nL pc b (o_gets f) := by
  intro L S D ls H locs hL hH hS h
  obtain ⟨p, l, e, R, s, m, args, below, meth, c, cells, slots, Q⟩ := x
  obtain ⟨hx, hb, hml, hown, hts, hlk, hK, hfr, hlo, hce, hsl⟩ := X
  exact va_gets hx hb hK.2.1 hS hown (hts _ w) (fun _ h9 => h9) (hy_dqs d) (k _ _ _ _ _ _ hL hH hS h)
theorem hs_getsY (X : hy_Cx G x "HumpYard$Yard" cc nL fr lo) (d : hy_dq cc pc (.getstatic 101) 3 = true) (k : hy_Sn G x nL (pc + 3) b f) : hy_Sn G x nL pc b (o_gets f) := by
  intro L S D ls H locs hL hH hS h
  obtain ⟨p, l, e, R, s, m, args, below, meth, c, cells, slots, Q⟩ := x
  obtain ⟨hx, hb, hml, hown, hts, hlk, hK, hfr, hlo, hce, hsl⟩ := X
  exact va_getsN hx hb hK.2.1 hS hown (va_Nw.use rfl hK.2.2.2.1) (fun _ h9 => h9) (hy_dqs d) (k _ _ _ _ _ _ hL hH hS h)
theorem hs_getsR (X : hy_Cx G x "HumpYard$Renumbering" cc nL fr lo) (d : hy_dq cc pc (.getstatic 28) 3 = true) (k : hy_Sn G x nL (pc + 3) b f) : hy_Sn G x nL pc b (o_gets f) := by
  intro L S D ls H locs hL hH hS h
  obtain ⟨p, l, e, R, s, m, args, below, meth, c, cells, slots, Q⟩ := x
  obtain ⟨hx, hb, hml, hown, hts, hlk, hK, hfr, hlo, hce, hsl⟩ := X
  exact va_getsN hx hb hK.2.1 hS hown (va_Nw.use rfl hK.2.2.2.2.1) (fun _ h9 => h9) (hy_dqs d) (k _ _ _ _ _ _ hL hH hS h)
theorem hy_cat_sum (ad : Nat → Nat) : ∀ S : List Value, ((S.map (hy_v ad)).map fun v => v.category).sum = hy_cat S
  | [] => rfl
  | v :: S => by
    simp only [List.map_cons, List.sum_cons, hy_cat, hy_v_cat]
    rw [hy_cat_sum ad S]
theorem hy_rng_spec {p n : Int32} {k : Nat} (h : hy_rng p n k = true) : ¬ p < 0 ∧ ¬ n < 0 ∧ p.toNatClampNeg + n.toNatClampNeg ≤ k ∧ 0 < k := by
  simp only [hy_rng, Bool.and_eq_true, Bool.not_eq_true', decide_eq_false_iff_not, Nat.ble_eq] at h
  exact ⟨h.1.1.1, h.1.1.2, h.1.2, h.2⟩
theorem hs_acpy (X : hy_Cx G x own cc nL fr lo) {index : Nat} (w1 : Cond.methodLink own index arraycopyName ∈ hy_WT) (w2 : Cond.native arraycopyName ∈ hy_WT) (w3 : Cond.static arraycopyName ∈ hy_WT) (w4 : Cond.initialized "java/lang/System" ∈ hy_WT) (h1 : 1 ≤ fr) (h2 : 26 ≤ lo) (d : hy_dq cc pc (.invokestatic index) 3 = true) (k : hy_Sn G x nL (pc + 3) b f) : hy_Sn G x nL pc b (o_acpy f) := by
  intro L S D ls H locs hL hH hS h
  obtain ⟨p, l, e, R, s, m, args, below, meth, c, cells, slots, Q⟩ := x
  obtain ⟨hx, hb, hml, hown, hts, hlk, hK, hfr, hlo, hce, hsl⟩ := X
  unfold o_acpy at h
  split at h
  · rename_i n dp a1 sp a0 S'
    cases hca : Nat.ble (hy_cat S') 8 with
    | false => rw [hca] at h; cases h
    | true =>
      rw [hca] at h
      dsimp only [cond_true] at h
      by_cases hi : hy_rng sp n (hy_wl a0) = true ∧ hy_rng dp n (hy_wl a1) = true
      · rw [if_pos hi] at h
        obtain ⟨r1, r2, r3, hz0⟩ := hy_rng_spec hi.1
        obtain ⟨r4, -, r6, hz1⟩ := hy_rng_spec hi.2
        obtain ⟨rs0, hsh0⟩ := hy_wl_spec hz0
        obtain ⟨rs1, hsh1⟩ := hy_wl_spec hz1
        have hlt0 := hy_sh_lt hsh0 (by omega)
        have hlt1 := hy_sh_lt hsh1 (by omega)
        refine va_copyi hx hb (hml.trans hL.1.symm) hown (hts _ w1) (hts _ w2) (hts _ w3) (hts _ w4) hK.1 hH.1 (hy_D hK.2.2.2.2.2 D) hS a0 a1 0 0 (ty := .int) (by rw [hy_ws_get hlt0, hy_E_0 hsh0]) (by rw [hy_ws_get hlt1, hy_E_0 hsh1]) rfl rfl rfl r1 r4 r2 r3 r6 (fun _ _ => rfl) (Nat.le_trans h1 hfr) ?_ (hy_dqs d) (fun H1 locs1 hP1 hD1 hS1 => k _ _ _ _ _ _ hL (hy_HR_put (D' := hy_cp D a0 a1 sp.toNatClampNeg dp.toNatClampNeg n.toNatClampNeg) hH hlt1 (by rw [hy_E_0 hsh1]; simp [hy_cp]) (fun c' h9 => by simp [hy_cp, h9]) hP1) hS1 h)
        have e1 := hy_cat_sum G.1 S'
        have e2 := Nat.le_of_ble_eq_true hca
        have e3 : nativeFrameWords "java/lang/System" "arraycopy" 5 = 7 := by decide +kernel
        rw [e3]
        have e4 : 26 ≤ R.locals := Nat.le_trans h2 hlo
        omega
      · rw [if_neg hi] at h
        cases h
  · cases h
end HM
/-! ===== methods and calls ===== -/
def hy_Pc (G : hy_G) (a : List Value) (D : hy_M) : Array Value → State → Prop := fun v U => v = (a.map (hy_v G.1)).toArray ∧ hy_HR G D U.heap ∧ hy_K G U
def hy_Qi (G : hy_G) (r : Int32) (D : hy_M) : Array Value → State → Outcome → State → Prop := fun _ st o t => o = .returned (some (.int r)) ∧ hy_HR G D t.heap ∧ va_F (hy_A G) st t
def hy_Ql (G : hy_G) (r : Int64) (D : hy_M) : Array Value → State → Outcome → State → Prop := fun _ st o t => o = .returned (some (.long r)) ∧ hy_HR G D t.heap ∧ va_F (hy_A G) st t
def hy_Qv (G : hy_G) (D : hy_M) : Array Value → State → Outcome → State → Prop := fun _ st o t => o = .returned none ∧ hy_HR G D t.heap ∧ va_F (hy_A G) st t
abbrev hy_rm (fr lo : Nat) : Room := { frames := fr, cells := 0, slots := 0, locals := lo }
def hy_Mi (l : Launch) (G : hy_G) (y : MethodName) (cc : ByteArray) (nL : Nat) (rt : FieldType) (fr lo : Nat) (g : List Value → hy_M → Option (Int32 × hy_M)) : Prop := ∀ (a : List Value) (D D' : hy_M) (r : Int32), g a D = some (r, D') → Met l y (Cond.code y cc nL (some rt) :: hy_WT) (hy_rm fr lo) (hy_Pc G a D) (hy_Qi G r D') 0 0 (hy_A G)
def hy_Ml (l : Launch) (G : hy_G) (y : MethodName) (cc : ByteArray) (nL fr lo : Nat) (g : List Value → hy_M → Option (Int64 × hy_M)) : Prop := ∀ (a : List Value) (D D' : hy_M) (r : Int64), g a D = some (r, D') → Met l y (Cond.code y cc nL (some .long) :: hy_WT) (hy_rm fr lo) (hy_Pc G a D) (hy_Ql G r D') 0 0 (hy_A G)
def hy_Mv (l : Launch) (G : hy_G) (y : MethodName) (cc : ByteArray) (nL fr lo : Nat) (g : List Value → hy_M → Option hy_M) : Prop := ∀ (a : List Value) (D D' : hy_M), g a D = some D' → Met l y (Cond.code y cc nL none :: hy_WT) (hy_rm fr lo) (hy_Pc G a D) (hy_Qv G D') 0 0 (hy_A G)
theorem hy_K.moved {G : hy_G} {s U : State} {H : Heap} {locs : List Loc} (h : hy_K G s) (hS : va_S (hy_A G) s.heap H locs) (hU : U.heap = H) (hW : s.WarmedH U.vm) : hy_K G U := by
  obtain ⟨h1, h2, h3, h4, h5, h6⟩ := h
  subst hU
  exact ⟨va_K.moved hW.alike h1, va_Z.moved hW.alike (va_Z.kept h2 hS.2.1), va_T.moved hW.alike (va_T.kept h3 hS.2.1), va_Nw.warmF hW h4, va_Nw.warmF hW h5, h6⟩
theorem hy_blind (G : hy_G) (a : List Value) (D : hy_M) : FrameBlind (hy_Pc G a D) := by
  intro v U g mk q
  obtain ⟨q1, q2, k1, k2, k3, k4, k5, k6⟩ := q
  refine ⟨q1, q2, va_K.moved (u := U) (U := U.calling g mk v) (Vm.Alike.refl U.vm) k1, va_Z.moved (u := U) (U := U.calling g mk v) (Vm.Alike.refl U.vm) k2, va_T.moved (u := U) (U := U.calling g mk v) (Vm.Alike.refl U.vm) k3, va_Nw.same rfl rfl k4, va_Nw.same rfl rfl k5, k6⟩
theorem hy_pre {G : hy_G} {s : State} {H : Heap} {locs : List Loc} {a : List Value} {D : hy_M} (hK : hy_K G s) (hH : hy_HR G D H) (hS : va_S (hy_A G) s.heap H locs) : ∀ U : State, U.heap = H → s.WarmedH U.vm → hy_Pc G a D (a.map (hy_v G.1)).toArray U := fun U hU hW => ⟨rfl, by rw [hU]; exact hH, hK.moved hS hU hW⟩
theorem hy_good {w : Cond} (h : w ∈ hy_WT) : GoodIn hy_WT (w :: hy_WT) := by
  intro z hz
  rcases List.mem_cons.mp hz with rfl | hz
  · exact ⟨h, good_of_word (List.mem_filter.mp h).2⟩
  · exact ⟨hz, good_of_word (List.mem_filter.mp hz).2⟩
/-- behind a call -/
theorem hy_after {p : Program} {l : Launch} {e : Env} {R : Room} {s : State} {m : MethodId} {args : Array Value} {below : List Frame} {meth : Method} {c : Code} {H : Heap} {locs : List Loc} {cells slots pc : Nat} {Q : State → Prop} {ls : Array Slot} {st0 rest : List Value} {G : hy_G} {D : hy_M} {v0 : Option Value} {Qa : State → Outcome → State → Prop}
    (hr : va_Run p l e R s m args below meth c H locs cells slots 0 0 (F0 m pc ls st0) rest Qa (hy_A G)) (hQ : ∀ st o t, Qa st o t → o = .returned v0 ∧ hy_HR G D t.heap ∧ va_F (hy_A G) st t) (hS : va_S (hy_A G) s.heap H locs)
    (kk : ∀ (H1 : Heap) (locs1 : List Loc), hy_HR G D H1 → va_S (hy_A G) s.heap H1 locs1 → W p l e R s m args below meth c H1 locs1 cells slots Q (F0 m (pc + 3) ls (v0.toList ++ rest))) : W p l e R s m args below meth c H locs cells slots Q (F0 m pc ls st0) := by
  intro T hT X
  obtain ⟨v, st₀, t, T', L, h0, X', hL, e1, e2, hq, st⟩ := hr T hT X
  obtain ⟨hv, hH, hz, hk⟩ := hQ _ _ _ hq
  cases hv
  rw [h0] at hz hk
  obtain ⟨t2, a1, b1⟩ := kk T'.heap (locs ++ L) (by rw [e1]; exact hH) ⟨Nat.le_trans hS.1 (by rw [e1]; exact hz), fun q h1 h2 => by rw [e1, hk q (Nat.lt_of_lt_of_le h1 hS.1) h2]; exact hS.2.1 q h1 h2, fun q hq => by
      rcases List.mem_append.mp hq with h | h
      · exact hS.2.2 q h
      · exact hL q h⟩ T' rfl X'
  exact ⟨t2, st t2 a1, b1⟩
theorem hy_pop_spec : ∀ {n : Nat} {acc S a S' : List Value}, hy_pop n acc S = some (a, S') → ∃ q : List Value, q.length = n ∧ a = q.reverse ++ acc ∧ S = q ++ S' := by
  intro n
  induction n with
  | zero => intro acc S a S' h; simp only [hy_pop, Option.some.injEq, Prod.mk.injEq] at h; exact ⟨[], rfl, by simp [h.1], by simp [h.2]⟩
  | succ n ih =>
    intro acc S a S' h
    cases S with
    | nil => simp [hy_pop] at h
    | cons v S =>
      simp only [hy_pop] at h
      obtain ⟨q, h1, h2, h3⟩ := ih h
      exact ⟨v :: q, by simp [h1], by simp [h2], by simp [h3]⟩
theorem hy_pop0 {n : Nat} {S a S' : List Value} (h : hy_pop n [] S = some (a, S')) : a.length = n ∧ S = a.reverse ++ S' := by
  obtain ⟨q, h1, h2, h3⟩ := hy_pop_spec h
  simp only [List.append_nil] at h2
  subst h2
  exact ⟨by simp [h1], by simp [h3]⟩
/-- a static callee's words -/
def hy_ys (y : MethodName) (cc : ByteArray) (nL n : Nat) (rt : Option FieldType) : Prop := Cond.static y ∈ hy_WT ∧ Cond.initialized y.cls ∈ hy_WT ∧ Cond.code y cc nL rt ∈ hy_WT ∧ (y.cls ≠ "java/lang/invoke/MethodHandle" ∧ y.cls ≠ "java/lang/invoke/VarHandle" ∧ (parseMethodDescriptor y.desc).map (fun d => d.parameters.length) = some n)
/-- an instance callee's words -/
def hy_yv (y : MethodName) (cc : ByteArray) (nL n ci : Nat) (rt : Option FieldType) : Prop := Cond.instanceMethod y ∈ hy_WT ∧ Cond.selects y.cls y y ∈ hy_WT ∧ Cond.initialized y.cls ∈ hy_WT ∧ Cond.code y cc nL rt ∈ hy_WT ∧ (y.cls ≠ "java/lang/invoke/MethodHandle" ∧ y.cls ≠ "java/lang/invoke/VarHandle" ∧ (parseMethodDescriptor y.desc).map (fun d => d.parameters.length) = some n) ∧ ∃ q : vw_C, vwCl[ci]? = some q ∧ q.1 = y.cls
theorem hy_goodS {own : String} {index : Nat} {y : MethodName} {cc : ByteArray} {nL : Nat} {rt : Option FieldType} (w : Cond.methodLink own index y ∈ hy_WT) (h1 : Cond.static y ∈ hy_WT) (h2 : Cond.initialized y.cls ∈ hy_WT) (h3 : Cond.code y cc nL rt ∈ hy_WT) : GoodIn hy_WT (va_wsS own index y (Cond.code y cc nL rt :: hy_WT)) := by
  intro z hz
  unfold va_wsS at hz
  rcases List.mem_append.mp hz with hz | hz
  · have hz' : z ∈ hy_WT := by
      simp only [List.mem_cons, List.not_mem_nil, or_false] at hz
      rcases hz with rfl | rfl | rfl <;> assumption
    exact ⟨hz', good_of_word (List.mem_filter.mp hz').2⟩
  · exact hy_good h3 z hz
theorem hy_goodV {own : String} {index : Nat} {y : MethodName} {cc : ByteArray} {nL : Nat} {rt : Option FieldType} (w : Cond.methodLink own index y ∈ hy_WT) (h0 : Cond.instanceMethod y ∈ hy_WT) (h1 : Cond.selects y.cls y y ∈ hy_WT) (h2 : Cond.initialized y.cls ∈ hy_WT) (h3 : Cond.code y cc nL rt ∈ hy_WT) : GoodIn hy_WT (wsV own index y.cls y (Cond.code y cc nL rt :: hy_WT)) := by
  intro z hz
  unfold wsV at hz
  rcases List.mem_append.mp hz with hz | hz
  · have hz' : z ∈ hy_WT := by
      simp only [List.mem_cons, List.not_mem_nil, or_false] at hz
      rcases hz with rfl | rfl | rfl | rfl <;> assumption
    exact ⟨hz', good_of_word (List.mem_filter.mp hz').2⟩
  · exact hy_good h3 z hz
section HC
variable {G : hy_G} {x : hy_X} {own : String} {cc : ByteArray} {nL fr lo pc : Nat} {β : Type} {b : β} {f g : hy_C β} {y : MethodName} {c' : ByteArray} {nL' fr' lo' n index ci : Nat} {rt : FieldType}
theorem hs_cali (X : hy_Cx G x own cc nL fr lo) {u : List Value → hy_M → Option (Int32 × hy_M)} (M : ∀ l, hy_Mi l G y c' nL' rt fr' lo' u) (Y : hy_ys y c' nL' n (some rt)) (w : Cond.methodLink own index y ∈ hy_WT) (d : hy_dq cc pc (.invokestatic index) 3 = true) (h1 : fr' + 1 ≤ fr) (h2 : 19 + nL' + lo' ≤ lo) (k : hy_Sn G x nL (pc + 3) b f) : hy_Sn G x nL pc b (o_cali n u f) := by
  intro L S D ls H locs hL hH hS h
  obtain ⟨p, l, e, R, s, m, args, below, meth, c, cells, slots, Q⟩ := x
  obtain ⟨hx, hb, hml, hown, hts, hlk, hK, hfr, hlo, hce, hsl⟩ := X
  unfold o_cali at h
  split at h
  · rename_i a S' hp
    cases hca : Nat.ble (hy_cat S') 8 with
    | false => rw [hca] at h; cases h
    | true =>
      rw [hca] at h
      dsimp only [cond_true] at h
      obtain ⟨⟨r, D1⟩, he, hf2⟩ := Option.bind_eq_some_iff.mp h
      obtain ⟨y1, y2, y3, y4⟩ := Y
      obtain ⟨p1, p2⟩ := hy_pop0 hp
      subst p2
      have cw := va_cwS (R := R) (rm := hy_rm fr' lo') n hts (hy_goodS w y1 y2 y3) rfl rfl rfl y4 ⟨Nat.le_trans h1 hfr, by show 8 + (nL' + 11) + lo' ≤ R.locals; omega⟩
      have e1 := hy_cat_sum G.1 S'
      have e2 := Nat.le_of_ble_eq_true hca
      exact hy_after (va_runS (As := a.map (hy_v G.1)) (rest := S'.map (hy_v G.1)) ⟨hx, hb, hml, hown, hts⟩ (M l a D D1 r he) cw ⟨hy_blind G a D, hy_pre hK hH hS⟩ rfl (by simp [p1]) hL.1 (by simp) (lv_room (by omega)) (hy_dqs d) ⟨hce, hsl⟩) (v0 := some (.int r)) (fun _ _ _ q => q) hS (fun H1 locs1 hH1 hS1 => k _ (.int r :: S') _ _ _ _ hL hH1 hS1 hf2)
  · cases h
theorem hs_vali (X : hy_Cx G x own cc nL fr lo) {u : List Value → hy_M → Option (Int32 × hy_M)} (M : ∀ l, hy_Mi l G y c' nL' rt fr' lo' u) (Y : hy_yv y c' nL' n ci (some rt)) (w : Cond.methodLink own index y ∈ hy_WT) (d : hy_dq cc pc (.invokevirtual index) 3 = true) (h1 : fr' + 1 ≤ fr) (h2 : 19 + nL' + lo' ≤ lo) (k : hy_Sn G x nL (pc + 3) b f) : hy_Sn G x nL pc b (o_vali ci (n + 1) u f) := by
  intro L S D ls H locs hL hH hS h
  obtain ⟨p, l, e, R, s, m, args, below, meth, c, cells, slots, Q⟩ := x
  obtain ⟨hx, hb, hml, hown, hts, hlk, hK, hfr, hlo, hce, hsl⟩ := X
  unfold o_vali at h
  split at h
  · rename_i a S' hp
    cases hca : hy_rc ci a && Nat.ble (hy_cat S') 8 with
    | false => rw [hca] at h; cases h
    | true =>
      rw [hca] at h
      dsimp only [cond_true] at h
      obtain ⟨⟨r, D1⟩, he, hf2⟩ := Option.bind_eq_some_iff.mp h
      obtain ⟨y0, y1, y2, y3, y4, qc, y5, y6⟩ := Y
      obtain ⟨p1, p2⟩ := hy_pop0 hp
      subst p2
      simp only [Bool.and_eq_true] at hca
      unfold hy_rc at hca
      split at hca
      · rename_i o As
        obtain ⟨rs, hsh⟩ := hy_cl_spec hca.1
        have hlt := hy_sh_lt hsh (by omega)
        have cw := cwV (R := R) (rm := hy_rm fr' lo') n hts (hy_goodV w y0 y1 y2 y3) rfl rfl rfl ⟨rfl, y4⟩ ⟨Nat.le_trans h1 hfr, by show 8 + (nL' + 11) + lo' ≤ R.locals; omega⟩
        have e1 := hy_cat_sum G.1 S'
        have e2 := Nat.le_of_ble_eq_true hca.2
        have hrc := va_recv hK.1 hH.1 (ci := ci) (q0 := o) y5 (by rw [hy_ws_get hlt, hy_E_2 hsh])
        rw [y6] at hrc
        exact hy_after (va_runV (As := As.map (hy_v G.1)) (rest := S'.map (hy_v G.1)) ⟨hx, hb, hml, hown, hts⟩ (M l (.ref o :: As) D D1 r he) cw ⟨hy_blind G (.ref o :: As) D, hrc, hy_pre hK hH hS⟩ rfl (by simpa using p1) hL.1 (by simp [hy_v]) (lv_room (by omega)) (hy_dqs d) ⟨hce, hsl⟩) (v0 := some (.int r)) (fun _ _ _ q => q) hS (fun H1 locs1 hH1 hS1 => k _ (.int r :: S') _ _ _ _ hL hH1 hS1 hf2)
      · exact absurd hca.1 (by simp)
  · cases h
theorem hs_call (X : hy_Cx G x own cc nL fr lo) {u : List Value → hy_M → Option (Int64 × hy_M)} (M : ∀ l, hy_Ml l G y c' nL' fr' lo' u) (Y : hy_ys y c' nL' n (some .long)) (w : Cond.methodLink own index y ∈ hy_WT) (d : hy_dq cc pc (.invokestatic index) 3 = true) (h1 : fr' + 1 ≤ fr) (h2 : 19 + nL' + lo' ≤ lo) (k : hy_Sn G x nL (pc + 3) b f) : hy_Sn G x nL pc b (o_call n u f) := by
  intro L S D ls H locs hL hH hS h
  obtain ⟨p, l, e, R, s, m, args, below, meth, c, cells, slots, Q⟩ := x
  obtain ⟨hx, hb, hml, hown, hts, hlk, hK, hfr, hlo, hce, hsl⟩ := X
  unfold o_call at h
  split at h
  · rename_i a S' hp
    cases hca : Nat.ble (hy_cat S') 8 with
    | false => rw [hca] at h; cases h
    | true =>
      rw [hca] at h
      dsimp only [cond_true] at h
      obtain ⟨⟨r, D1⟩, he, hf2⟩ := Option.bind_eq_some_iff.mp h
      obtain ⟨y1, y2, y3, y4⟩ := Y
      obtain ⟨p1, p2⟩ := hy_pop0 hp
      subst p2
      have cw := va_cwS (R := R) (rm := hy_rm fr' lo') n hts (hy_goodS w y1 y2 y3) rfl rfl rfl y4 ⟨Nat.le_trans h1 hfr, by show 8 + (nL' + 11) + lo' ≤ R.locals; omega⟩
      have e1 := hy_cat_sum G.1 S'
      have e2 := Nat.le_of_ble_eq_true hca
      exact hy_after (va_runS (As := a.map (hy_v G.1)) (rest := S'.map (hy_v G.1)) ⟨hx, hb, hml, hown, hts⟩ (M l a D D1 r he) cw ⟨hy_blind G a D, hy_pre hK hH hS⟩ rfl (by simp [p1]) hL.1 (by simp) (lv_room (by omega)) (hy_dqs d) ⟨hce, hsl⟩) (v0 := some (.long r)) (fun _ _ _ q => q) hS (fun H1 locs1 hH1 hS1 => k _ (.long r :: S') _ _ _ _ hL hH1 hS1 hf2)
  · cases h
theorem hs_vall (X : hy_Cx G x own cc nL fr lo) {u : List Value → hy_M → Option (Int64 × hy_M)} (M : ∀ l, hy_Ml l G y c' nL' fr' lo' u) (Y : hy_yv y c' nL' n ci (some .long)) (w : Cond.methodLink own index y ∈ hy_WT) (d : hy_dq cc pc (.invokevirtual index) 3 = true) (h1 : fr' + 1 ≤ fr) (h2 : 19 + nL' + lo' ≤ lo) (k : hy_Sn G x nL (pc + 3) b f) : hy_Sn G x nL pc b (o_vall ci (n + 1) u f) := by
  intro L S D ls H locs hL hH hS h
  obtain ⟨p, l, e, R, s, m, args, below, meth, c, cells, slots, Q⟩ := x
  obtain ⟨hx, hb, hml, hown, hts, hlk, hK, hfr, hlo, hce, hsl⟩ := X
  unfold o_vall at h
  split at h
  · rename_i a S' hp
    cases hca : hy_rc ci a && Nat.ble (hy_cat S') 8 with
    | false => rw [hca] at h; cases h
    | true =>
      rw [hca] at h
      dsimp only [cond_true] at h
      obtain ⟨⟨r, D1⟩, he, hf2⟩ := Option.bind_eq_some_iff.mp h
      obtain ⟨y0, y1, y2, y3, y4, qc, y5, y6⟩ := Y
      obtain ⟨p1, p2⟩ := hy_pop0 hp
      subst p2
      simp only [Bool.and_eq_true] at hca
      unfold hy_rc at hca
      split at hca
      · rename_i o As
        obtain ⟨rs, hsh⟩ := hy_cl_spec hca.1
        have hlt := hy_sh_lt hsh (by omega)
        have cw := cwV (R := R) (rm := hy_rm fr' lo') n hts (hy_goodV w y0 y1 y2 y3) rfl rfl rfl ⟨rfl, y4⟩ ⟨Nat.le_trans h1 hfr, by show 8 + (nL' + 11) + lo' ≤ R.locals; omega⟩
        have e1 := hy_cat_sum G.1 S'
        have e2 := Nat.le_of_ble_eq_true hca.2
        have hrc := va_recv hK.1 hH.1 (ci := ci) (q0 := o) y5 (by rw [hy_ws_get hlt, hy_E_2 hsh])
        rw [y6] at hrc
        exact hy_after (va_runV (As := As.map (hy_v G.1)) (rest := S'.map (hy_v G.1)) ⟨hx, hb, hml, hown, hts⟩ (M l (.ref o :: As) D D1 r he) cw ⟨hy_blind G (.ref o :: As) D, hrc, hy_pre hK hH hS⟩ rfl (by simpa using p1) hL.1 (by simp [hy_v]) (lv_room (by omega)) (hy_dqs d) ⟨hce, hsl⟩) (v0 := some (.long r)) (fun _ _ _ q => q) hS (fun H1 locs1 hH1 hS1 => k _ (.long r :: S') _ _ _ _ hL hH1 hS1 hf2)
      · exact absurd hca.1 (by simp)
  · cases h
theorem hs_calv (X : hy_Cx G x own cc nL fr lo) {u : List Value → hy_M → Option hy_M} (M : ∀ l, hy_Mv l G y c' nL' fr' lo' u) (Y : hy_ys y c' nL' n (none)) (w : Cond.methodLink own index y ∈ hy_WT) (d : hy_dq cc pc (.invokestatic index) 3 = true) (h1 : fr' + 1 ≤ fr) (h2 : 19 + nL' + lo' ≤ lo) (k : hy_Sn G x nL (pc + 3) b f) : hy_Sn G x nL pc b (o_calv n u f) := by
  intro L S D ls H locs hL hH hS h
  obtain ⟨p, l, e, R, s, m, args, below, meth, c, cells, slots, Q⟩ := x
  obtain ⟨hx, hb, hml, hown, hts, hlk, hK, hfr, hlo, hce, hsl⟩ := X
  unfold o_calv at h
  split at h
  · rename_i a S' hp
    cases hca : Nat.ble (hy_cat S') 8 with
    | false => rw [hca] at h; cases h
    | true =>
      rw [hca] at h
      dsimp only [cond_true] at h
      obtain ⟨D1, he, hf2⟩ := Option.bind_eq_some_iff.mp h
      obtain ⟨y1, y2, y3, y4⟩ := Y
      obtain ⟨p1, p2⟩ := hy_pop0 hp
      subst p2
      have cw := va_cwS (R := R) (rm := hy_rm fr' lo') n hts (hy_goodS w y1 y2 y3) rfl rfl rfl y4 ⟨Nat.le_trans h1 hfr, by show 8 + (nL' + 11) + lo' ≤ R.locals; omega⟩
      have e1 := hy_cat_sum G.1 S'
      have e2 := Nat.le_of_ble_eq_true hca
      exact hy_after (va_runS (As := a.map (hy_v G.1)) (rest := S'.map (hy_v G.1)) ⟨hx, hb, hml, hown, hts⟩ (M l a D D1 he) cw ⟨hy_blind G a D, hy_pre hK hH hS⟩ rfl (by simp [p1]) hL.1 (by simp) (lv_room (by omega)) (hy_dqs d) ⟨hce, hsl⟩) (v0 := none) (fun _ _ _ q => q) hS (fun H1 locs1 hH1 hS1 => k _ ( S') _ _ _ _ hL hH1 hS1 hf2)
  · cases h
theorem hs_valv (X : hy_Cx G x own cc nL fr lo) {u : List Value → hy_M → Option hy_M} (M : ∀ l, hy_Mv l G y c' nL' fr' lo' u) (Y : hy_yv y c' nL' n ci (none)) (w : Cond.methodLink own index y ∈ hy_WT) (d : hy_dq cc pc (.invokevirtual index) 3 = true) (h1 : fr' + 1 ≤ fr) (h2 : 19 + nL' + lo' ≤ lo) (k : hy_Sn G x nL (pc + 3) b f) : hy_Sn G x nL pc b (o_valv ci (n + 1) u f) := by
  intro L S D ls H locs hL hH hS h
  obtain ⟨p, l, e, R, s, m, args, below, meth, c, cells, slots, Q⟩ := x
  obtain ⟨hx, hb, hml, hown, hts, hlk, hK, hfr, hlo, hce, hsl⟩ := X
  unfold o_valv at h
  split at h
  · rename_i a S' hp
    cases hca : hy_rc ci a && Nat.ble (hy_cat S') 8 with
    | false => rw [hca] at h; cases h
    | true =>
      rw [hca] at h
      dsimp only [cond_true] at h
      obtain ⟨D1, he, hf2⟩ := Option.bind_eq_some_iff.mp h
      obtain ⟨y0, y1, y2, y3, y4, qc, y5, y6⟩ := Y
      obtain ⟨p1, p2⟩ := hy_pop0 hp
      subst p2
      simp only [Bool.and_eq_true] at hca
      unfold hy_rc at hca
      split at hca
      · rename_i o As
        obtain ⟨rs, hsh⟩ := hy_cl_spec hca.1
        have hlt := hy_sh_lt hsh (by omega)
        have cw := cwV (R := R) (rm := hy_rm fr' lo') n hts (hy_goodV w y0 y1 y2 y3) rfl rfl rfl ⟨rfl, y4⟩ ⟨Nat.le_trans h1 hfr, by show 8 + (nL' + 11) + lo' ≤ R.locals; omega⟩
        have e1 := hy_cat_sum G.1 S'
        have e2 := Nat.le_of_ble_eq_true hca.2
        have hrc := va_recv hK.1 hH.1 (ci := ci) (q0 := o) y5 (by rw [hy_ws_get hlt, hy_E_2 hsh])
        rw [y6] at hrc
        exact hy_after (va_runV (As := As.map (hy_v G.1)) (rest := S'.map (hy_v G.1)) ⟨hx, hb, hml, hown, hts⟩ (M l (.ref o :: As) D D1 he) cw ⟨hy_blind G (.ref o :: As) D, hrc, hy_pre hK hH hS⟩ rfl (by simpa using p1) hL.1 (by simp [hy_v]) (lv_room (by omega)) (hy_dqs d) ⟨hce, hsl⟩) (v0 := none) (fun _ _ _ q => q) hS (fun H1 locs1 hH1 hS1 => k _ ( S') _ _ _ _ hL hH1 hS1 hf2)
      · exact absurd hca.1 (by simp)
  · cases h
end HC
