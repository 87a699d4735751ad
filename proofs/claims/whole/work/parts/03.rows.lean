theorem hy_lget_lset {i : Nat} {v : Value} : ∀ {j : Nat} {w : Value} {L : hy_L} (_ : hy_lget j (hy_lset i v L) = some w), (j = i ∧ w = v) ∨ (j ≠ i ∧ hy_lget j L = some w) := by
  induction i with
  | zero =>
    intro j w L h
    cases L with
    | nil => simp [hy_lset, hy_lget] at h
    | cons a L =>
      cases j with
      | zero => simp [hy_lset, hy_lget] at h; exact Or.inl ⟨rfl, h.symm⟩
      | succ j => simp [hy_lset, hy_lget] at h; exact Or.inr ⟨by omega, by simpa [hy_lget] using h⟩
  | succ i ih =>
    intro j w L h
    cases L with
    | nil => simp [hy_lset, hy_lget] at h
    | cons a L =>
      cases j with
      | zero => simp [hy_lset, hy_lget] at h; exact Or.inr ⟨by omega, by simpa [hy_lget] using h⟩
      | succ j =>
        simp [hy_lset, hy_lget] at h
        rcases ih h with ⟨q1, q2⟩ | ⟨q1, q2⟩
        · exact Or.inl ⟨by omega, q2⟩
        · exact Or.inr ⟨by omega, by simpa [hy_lget] using q2⟩
theorem hy_lget_lkill {i : Nat} : ∀ {j : Nat} {w : Value} {L : hy_L} (_ : hy_lget j (hy_lkill i L) = some w), j ≠ i ∧ hy_lget j L = some w := by
  induction i with
  | zero =>
    intro j w L h
    cases L with
    | nil => simp [hy_lkill, hy_lget] at h
    | cons a L =>
      cases j with
      | zero => simp [hy_lkill, hy_lget] at h
      | succ j => simp [hy_lkill, hy_lget] at h; exact ⟨by omega, by simpa [hy_lget] using h⟩
  | succ i ih =>
    intro j w L h
    cases L with
    | nil => simp [hy_lkill, hy_lget] at h
    | cons a L =>
      cases j with
      | zero => simp [hy_lkill, hy_lget] at h; exact ⟨by omega, by simpa [hy_lget] using h⟩
      | succ j =>
        simp [hy_lkill, hy_lget] at h
        obtain ⟨q1, q2⟩ := ih h
        exact ⟨by omega, by simpa [hy_lget] using q2⟩
theorem hy_lget_mk : ∀ {m : List Bool} {L : hy_L} {j : Nat} {w : Value} (_ : hy_lget j (hy_mk m L) = some w), hy_lget j L = some w := by
  intro m L
  induction L generalizing m with
  | nil => intro j w h; cases m <;> simp [hy_mk, hy_lget] at h
  | cons a L ih =>
    intro j w h
    cases m with
    | nil =>
      cases j with
      | zero => simp [hy_mk, hy_lget] at h
      | succ j => simp [hy_mk, hy_lget] at h; simpa [hy_lget] using ih h
    | cons q m =>
      cases q <;> cases j with
      | zero => simp [hy_mk, hy_lget] at h <;> first | (simpa [hy_lget] using h) | trivial
      | succ j => simp [hy_mk, hy_lget] at h; simpa [hy_lget] using ih h
theorem hy_v_cat (ad : Nat → Nat) (v : Value) : (hy_v ad v).category = v.category := by cases v <;> rfl
/-- what is known of the locals, as a list -/
def hy_kn (ad : Nat → Nat) (n : Nat) (L : hy_L) : List (Nat × Value) := (List.range n).filterMap (fun i => (hy_lget i L).map (fun v => (i, hy_v ad v)))
theorem hy_kn_in {ad : Nat → Nat} {n j : Nat} {L : hy_L} {v : Value} (hj : j < n) (h : hy_lget j L = some v) : (j, hy_v ad v) ∈ hy_kn ad n L := by
  refine List.mem_filterMap.mpr ⟨j, List.mem_range.mpr hj, ?_⟩
  rw [h]
  rfl
theorem hy_LR_has {ad : Nat → Nat} {n : Nat} {L : hy_L} {ls : Array Slot} (h : hy_LR ad n L ls) : lv_has ls n (hy_kn ad n L) := by
  refine ⟨h.1, h.2.1, fun q hq => ?_⟩
  obtain ⟨i, -, hi⟩ := List.mem_filterMap.mp hq
  cases hg : hy_lget i L with
  | none => rw [hg] at hi; cases hi
  | some v =>
    rw [hg] at hi
    cases hi
    exact h.2.2 i v hg
theorem hy_LR_lt {ad : Nat → Nat} {n : Nat} {L : hy_L} {ls : Array Slot} (h : hy_LR ad n L ls) {j : Nat} {v : Value} (hj : hy_lget j L = some v) : j < n := by
  have := (Array.getElem?_eq_some_iff.mp (h.2.2 j v hj)).1
  rw [h.1] at this
  exact this
theorem hy_ok1_cat {i j : Nat} {L : hy_L} {v : Value} (h : hy_ok1 i L = true) (hj : hy_lget j L = some v) (e : j + 1 = i) : ¬ v.category = 2 := by
  subst e
  simp only [hy_ok1, hj, Bool.not_eq_true'] at h
  cases v <;> simp_all [hy_isL, Value.category]
theorem hy_LR_st1 {ad : Nat → Nat} {n i : Nat} {L : hy_L} {ls ls' : Array Slot} {v : Value} (h : hy_LR ad n L ls) (hok : hy_ok1 i L = true)
    (h' : lv_has ls' n ((i, hy_v ad v) :: (hy_kn ad n L).filter (fun q => !(q.1 == i) && !(q.1 + 1 == i && q.2.category == 2)))) : hy_LR ad n (hy_lset i v L) ls' := by
  refine ⟨h'.1, h'.2.1, fun j w hj => ?_⟩
  rcases hy_lget_lset hj with ⟨rfl, rfl⟩ | ⟨h1, h2⟩
  · exact h'.2.2 _ List.mem_cons_self
  · refine h'.2.2 (j, hy_v ad w) (List.mem_cons_of_mem _ (List.mem_filter.mpr ⟨hy_kn_in (hy_LR_lt h h2) h2, ?_⟩))
    simp only [Bool.and_eq_true, Bool.not_eq_true', beq_eq_false_iff_ne, ne_eq, Bool.and_eq_false_iff]
    refine ⟨h1, ?_⟩
    by_cases e : j + 1 = i
    · right
      rw [hy_v_cat]
      exact hy_ok1_cat hok h2 e
    · exact Or.inl e
theorem hy_LR_st2 {ad : Nat → Nat} {n i : Nat} {L : hy_L} {ls ls' : Array Slot} {v : Value} (h : hy_LR ad n L ls) (hok : hy_ok1 i L = true)
    (h' : lv_has ls' n ((i, hy_v ad v) :: (hy_kn ad n L).filter (fun q => !(q.1 == i) && (!(q.1 == i + 1) && !(q.1 + 1 == i && q.2.category == 2))))) : hy_LR ad n (hy_lkill (i + 1) (hy_lset i v L)) ls' := by
  refine ⟨h'.1, h'.2.1, fun j w hj => ?_⟩
  obtain ⟨h0, hj⟩ := hy_lget_lkill hj
  rcases hy_lget_lset hj with ⟨rfl, rfl⟩ | ⟨h1, h2⟩
  · exact h'.2.2 _ List.mem_cons_self
  · refine h'.2.2 (j, hy_v ad w) (List.mem_cons_of_mem _ (List.mem_filter.mpr ⟨hy_kn_in (hy_LR_lt h h2) h2, ?_⟩))
    simp only [Bool.and_eq_true, Bool.not_eq_true', beq_eq_false_iff_ne, ne_eq, Bool.and_eq_false_iff]
    refine ⟨h1, h0, ?_⟩
    by_cases e : j + 1 = i
    · right
      rw [hy_v_cat]
      exact hy_ok1_cat hok h2 e
    · exact Or.inl e
section HS
variable {G : hy_G} {x : hy_X} {own : String} {cc : ByteArray} {nL fr lo pc : Nat} {β : Type} {b : β} {f g : hy_C β}
theorem hs_fail : hy_Sn G x nL pc b (o_fail : hy_C β) := fun L S D ls H locs hL hH hS h => by cases h
theorem hs_mask {mk : List Bool} (k : hy_Sn G x nL pc b f) : hy_Sn G x nL pc b (o_mask mk f) := fun L S D ls H locs hL hH hS h => k _ S D ls H locs ⟨hL.1, hL.2.1, fun i v hi => hL.2.2 i v (hy_lget_mk hi)⟩ hH hS h
theorem hs_iconst (X : hy_Cx G x own cc nL fr lo) {n : Int} {v : Int32} (d : hy_dq cc pc (.iconst n) 1 = true) (hv : Int32.ofInt n = v) (k : hy_Sn G x nL (pc + 1) b f) : hy_Sn G x nL pc b (o_push (.int v) f) := by
  intro L S D ls H locs hL hH hS h
  obtain ⟨p, l, e, R, s, m, args, below, meth, c, cells, slots, Q⟩ := x
  obtain ⟨hx, hb, hml, hown, hts, hlk, hK, hfr, hlo, hce, hsl⟩ := X
  exact lv_iconst hx hb (hy_dqs d) hv (k L (.int v :: S) D ls H locs hL hH hS h)
theorem hs_bipush (X : hy_Cx G x own cc nL fr lo) {n : Int} {v : Int32} (d : hy_dq cc pc (.bipush n) 2 = true) (hv : (Int8.ofInt n).toInt32 = v) (k : hy_Sn G x nL (pc + 2) b f) : hy_Sn G x nL pc b (o_push (.int v) f) := by
  intro L S D ls H locs hL hH hS h
  obtain ⟨p, l, e, R, s, m, args, below, meth, c, cells, slots, Q⟩ := x
  obtain ⟨hx, hb, hml, hown, hts, hlk, hK, hfr, hlo, hce, hsl⟩ := X
  exact lv_bipush hx hb (hy_dqs d) hv (k L (.int v :: S) D ls H locs hL hH hS h)
theorem hs_sipush (X : hy_Cx G x own cc nL fr lo) {n : Int} {v : Int32} (d : hy_dq cc pc (.sipush n) 3 = true) (hv : (Int16.ofInt n).toInt32 = v) (k : hy_Sn G x nL (pc + 3) b f) : hy_Sn G x nL pc b (o_push (.int v) f) := by
  intro L S D ls H locs hL hH hS h
  obtain ⟨p, l, e, R, s, m, args, below, meth, c, cells, slots, Q⟩ := x
  obtain ⟨hx, hb, hml, hown, hts, hlk, hK, hfr, hlo, hce, hsl⟩ := X
  exact lv_sipush hx hb (hy_dqs d) hv (k L (.int v :: S) D ls H locs hL hH hS h)
theorem hs_lconst (X : hy_Cx G x own cc nL fr lo) {n : Fin 2} {v : Int64} (d : hy_dq cc pc (.lconst n) 1 = true) (hv : Int64.ofNat (n : Nat) = v) (k : hy_Sn G x nL (pc + 1) b f) : hy_Sn G x nL pc b (o_push (.long v) f) := by
  intro L S D ls H locs hL hH hS h
  obtain ⟨p, l, e, R, s, m, args, below, meth, c, cells, slots, Q⟩ := x
  obtain ⟨hx, hb, hml, hown, hts, hlk, hK, hfr, hlo, hce, hsl⟩ := X
  exact lv_lconst hx hb (hy_dqs d) hv (k L (.long v :: S) D ls H locs hL hH hS h)
theorem hs_ldc (X : hy_Cx G x own cc nL fr lo) {index : Nat} {v : Int32} (d : hy_dq cc pc (.ldc index) 2 = true) (w : Cond.constant own index v ∈ hy_WT) (k : hy_Sn G x nL (pc + 2) b f) : hy_Sn G x nL pc b (o_push (.int v) f) := by
  intro L S D ls H locs hL hH hS h
  obtain ⟨p, l, e, R, s, m, args, below, meth, c, cells, slots, Q⟩ := x
  obtain ⟨hx, hb, hml, hown, hts, hlk, hK, hfr, hlo, hce, hsl⟩ := X
  exact lv_ldc hx hb hown (hts _ w) (hy_dqs d) (k L (.int v :: S) D ls H locs hL hH hS h)
theorem hs_ldc_w (X : hy_Cx G x own cc nL fr lo) {index : Nat} {v : Int32} (d : hy_dq cc pc (.ldc_w index) 3 = true) (w : Cond.constant own index v ∈ hy_WT) (k : hy_Sn G x nL (pc + 3) b f) : hy_Sn G x nL pc b (o_push (.int v) f) := by
  intro L S D ls H locs hL hH hS h
  obtain ⟨p, l, e, R, s, m, args, below, meth, c, cells, slots, Q⟩ := x
  obtain ⟨hx, hb, hml, hown, hts, hlk, hK, hfr, hlo, hce, hsl⟩ := X
  exact lv_ldcw hx hb hown (hts _ w) (hy_dqs d) (k L (.int v :: S) D ls H locs hL hH hS h)
theorem hs_ldc2 (X : hy_Cx G x own cc nL fr lo) {index : Nat} {v : Int64} (d : hy_dq cc pc (.ldc2_w index) 3 = true) (w : Cond.constantLong own index v ∈ hy_WT) (k : hy_Sn G x nL (pc + 3) b f) : hy_Sn G x nL pc b (o_push (.long v) f) := by
  intro L S D ls H locs hL hH hS h
  obtain ⟨p, l, e, R, s, m, args, below, meth, c, cells, slots, Q⟩ := x
  obtain ⟨hx, hb, hml, hown, hts, hlk, hK, hfr, hlo, hce, hsl⟩ := X
  exact lv_ldc2 hx hb hown (hts _ w) (hy_dqs d) (k L (.long v :: S) D ls H locs hL hH hS h)
theorem hs_iload (X : hy_Cx G x own cc nL fr lo) {i : Nat} (d : hy_dq cc pc (.iload i) 2 = true) (k : hy_Sn G x nL (pc + 2) b f) : hy_Sn G x nL pc b (o_iload i f) := by
  intro L S D ls H locs hL hH hS h
  obtain ⟨p, l, e, R, s, m, args, below, meth, c, cells, slots, Q⟩ := x
  obtain ⟨hx, hb, hml, hown, hts, hlk, hK, hfr, hlo, hce, hsl⟩ := X
  unfold o_iload at h
  split at h
  · rename_i v hv
    exact lv_iload hx hb (hy_dqs d) (hL.2.2 i _ hv) (k L (.int v :: S) D ls H locs hL hH hS h)
  · cases h
theorem hs_iload_n (X : hy_Cx G x own cc nL fr lo) {i : Nat} {q : Fin 4} (d : hy_dq cc pc (.iload_n q) 1 = true) (hi : (q : Nat) = i) (k : hy_Sn G x nL (pc + 1) b f) : hy_Sn G x nL pc b (o_iload i f) := by
  intro L S D ls H locs hL hH hS h
  obtain ⟨p, l, e, R, s, m, args, below, meth, c, cells, slots, Q⟩ := x
  obtain ⟨hx, hb, hml, hown, hts, hlk, hK, hfr, hlo, hce, hsl⟩ := X
  unfold o_iload at h
  split at h
  · rename_i v hv
    exact lv_iload_n hx hb (hy_dqs d) hi (hL.2.2 i _ hv) (k L (.int v :: S) D ls H locs hL hH hS h)
  · cases h
theorem hs_lload (X : hy_Cx G x own cc nL fr lo) {i : Nat} (d : hy_dq cc pc (.lload i) 2 = true) (k : hy_Sn G x nL (pc + 2) b f) : hy_Sn G x nL pc b (o_lload i f) := by
  intro L S D ls H locs hL hH hS h
  obtain ⟨p, l, e, R, s, m, args, below, meth, c, cells, slots, Q⟩ := x
  obtain ⟨hx, hb, hml, hown, hts, hlk, hK, hfr, hlo, hce, hsl⟩ := X
  unfold o_lload at h
  split at h
  · rename_i v hv
    exact lv_lload hx hb (hy_dqs d) (hL.2.2 i _ hv) (k L (.long v :: S) D ls H locs hL hH hS h)
  · cases h
theorem hs_lload_n (X : hy_Cx G x own cc nL fr lo) {i : Nat} {q : Fin 4} (d : hy_dq cc pc (.lload_n q) 1 = true) (hi : (q : Nat) = i) (k : hy_Sn G x nL (pc + 1) b f) : hy_Sn G x nL pc b (o_lload i f) := by
  intro L S D ls H locs hL hH hS h
  obtain ⟨p, l, e, R, s, m, args, below, meth, c, cells, slots, Q⟩ := x
  obtain ⟨hx, hb, hml, hown, hts, hlk, hK, hfr, hlo, hce, hsl⟩ := X
  unfold o_lload at h
  split at h
  · rename_i v hv
    exact lv_lload_n hx hb (hy_dqs d) hi (hL.2.2 i _ hv) (k L (.long v :: S) D ls H locs hL hH hS h)
  · cases h
theorem hs_aload (X : hy_Cx G x own cc nL fr lo) {i : Nat} (d : hy_dq cc pc (.aload i) 2 = true) (k : hy_Sn G x nL (pc + 2) b f) : hy_Sn G x nL pc b (o_aload i f) := by
  intro L S D ls H locs hL hH hS h
  obtain ⟨p, l, e, R, s, m, args, below, meth, c, cells, slots, Q⟩ := x
  obtain ⟨hx, hb, hml, hown, hts, hlk, hK, hfr, hlo, hce, hsl⟩ := X
  unfold o_aload at h
  split at h
  · rename_i v hv
    exact lv_aload hx hb (hy_dqs d) (hL.2.2 i _ hv) (k L (.ref v :: S) D ls H locs hL hH hS h)
  · cases h
theorem hs_aload_n (X : hy_Cx G x own cc nL fr lo) {i : Nat} {q : Fin 4} (d : hy_dq cc pc (.aload_n q) 1 = true) (hi : (q : Nat) = i) (k : hy_Sn G x nL (pc + 1) b f) : hy_Sn G x nL pc b (o_aload i f) := by
  intro L S D ls H locs hL hH hS h
  obtain ⟨p, l, e, R, s, m, args, below, meth, c, cells, slots, Q⟩ := x
  obtain ⟨hx, hb, hml, hown, hts, hlk, hK, hfr, hlo, hce, hsl⟩ := X
  unfold o_aload at h
  split at h
  · rename_i v hv
    exact lv_aload_n hx hb (hy_dqs d) hi (hL.2.2 i _ hv) (k L (.ref v :: S) D ls H locs hL hH hS h)
  · cases h
theorem hs_istore (X : hy_Cx G x own cc nL fr lo) {i : Nat} (d : hy_dq cc pc (.istore i) 2 = true) (hn : i < nL) (k : hy_Sn G x nL (pc + 2) b f) : hy_Sn G x nL pc b (o_istore i f) := by
  intro L S D ls H locs hL hH hS h
  obtain ⟨p, l, e, R, s, m, args, below, meth, c, cells, slots, Q⟩ := x
  obtain ⟨hx, hb, hml, hown, hts, hlk, hK, hfr, hlo, hce, hsl⟩ := X
  unfold o_istore at h
  split at h
  · rename_i v S'
    cases hok : hy_ok1 i L with
    | false => rw [hok] at h; cases h
    | true =>
      rw [hok] at h
      exact lv_istore hx hb (hy_dqs d) (hy_LR_has hL) hn rfl (fun ls' h' => k _ S' D ls' H locs (hy_LR_st1 (v := .int v) hL hok h') hH hS h)
  · cases h
theorem hs_istore_n (X : hy_Cx G x own cc nL fr lo) {i : Nat} {q : Fin 4} (d : hy_dq cc pc (.istore_n q) 1 = true) (hi : (q : Nat) = i) (hn : i < nL) (k : hy_Sn G x nL (pc + 1) b f) : hy_Sn G x nL pc b (o_istore i f) := by
  intro L S D ls H locs hL hH hS h
  obtain ⟨p, l, e, R, s, m, args, below, meth, c, cells, slots, Q⟩ := x
  obtain ⟨hx, hb, hml, hown, hts, hlk, hK, hfr, hlo, hce, hsl⟩ := X
  unfold o_istore at h
  split at h
  · rename_i v S'
    cases hok : hy_ok1 i L with
    | false => rw [hok] at h; cases h
    | true =>
      rw [hok] at h
      exact lv_istore_n hx hb (hy_dqs d) hi (hy_LR_has hL) hn rfl (fun ls' h' => k _ S' D ls' H locs (hy_LR_st1 (v := .int v) hL hok h') hH hS h)
  · cases h
theorem hs_astore (X : hy_Cx G x own cc nL fr lo) {i : Nat} (d : hy_dq cc pc (.astore i) 2 = true) (hn : i < nL) (k : hy_Sn G x nL (pc + 2) b f) : hy_Sn G x nL pc b (o_astore i f) := by
  intro L S D ls H locs hL hH hS h
  obtain ⟨p, l, e, R, s, m, args, below, meth, c, cells, slots, Q⟩ := x
  obtain ⟨hx, hb, hml, hown, hts, hlk, hK, hfr, hlo, hce, hsl⟩ := X
  unfold o_astore at h
  split at h
  · rename_i v S'
    cases hok : hy_ok1 i L with
    | false => rw [hok] at h; cases h
    | true =>
      rw [hok] at h
      exact lv_astore hx hb (hy_dqs d) (hy_LR_has hL) hn rfl (fun ls' h' => k _ S' D ls' H locs (hy_LR_st1 (v := .ref v) hL hok h') hH hS h)
  · cases h
theorem hs_astore_n (X : hy_Cx G x own cc nL fr lo) {i : Nat} {q : Fin 4} (d : hy_dq cc pc (.astore_n q) 1 = true) (hi : (q : Nat) = i) (hn : i < nL) (k : hy_Sn G x nL (pc + 1) b f) : hy_Sn G x nL pc b (o_astore i f) := by
  intro L S D ls H locs hL hH hS h
  obtain ⟨p, l, e, R, s, m, args, below, meth, c, cells, slots, Q⟩ := x
  obtain ⟨hx, hb, hml, hown, hts, hlk, hK, hfr, hlo, hce, hsl⟩ := X
  unfold o_astore at h
  split at h
  · rename_i v S'
    cases hok : hy_ok1 i L with
    | false => rw [hok] at h; cases h
    | true =>
      rw [hok] at h
      exact lv_astore_n hx hb (hy_dqs d) hi (hy_LR_has hL) hn rfl (fun ls' h' => k _ S' D ls' H locs (hy_LR_st1 (v := .ref v) hL hok h') hH hS h)
  · cases h
theorem hs_lstore (X : hy_Cx G x own cc nL fr lo) {i : Nat} (d : hy_dq cc pc (.lstore i) 2 = true) (hn : i + 1 < nL) (k : hy_Sn G x nL (pc + 2) b f) : hy_Sn G x nL pc b (o_lstore i f) := by
  intro L S D ls H locs hL hH hS h
  obtain ⟨p, l, e, R, s, m, args, below, meth, c, cells, slots, Q⟩ := x
  obtain ⟨hx, hb, hml, hown, hts, hlk, hK, hfr, hlo, hce, hsl⟩ := X
  unfold o_lstore at h
  split at h
  · rename_i v S'
    cases hok : hy_ok1 i L with
    | false => rw [hok] at h; cases h
    | true =>
      rw [hok] at h
      exact lv_lstore hx hb (hy_dqs d) (hy_LR_has hL) hn rfl (fun ls' h' => k _ S' D ls' H locs (hy_LR_st2 (v := .long v) hL hok h') hH hS h)
  · cases h
theorem hs_lstore_n (X : hy_Cx G x own cc nL fr lo) {i : Nat} {q : Fin 4} (d : hy_dq cc pc (.lstore_n q) 1 = true) (hi : (q : Nat) = i) (hn : i + 1 < nL) (k : hy_Sn G x nL (pc + 1) b f) : hy_Sn G x nL pc b (o_lstore i f) := by
  intro L S D ls H locs hL hH hS h
  obtain ⟨p, l, e, R, s, m, args, below, meth, c, cells, slots, Q⟩ := x
  obtain ⟨hx, hb, hml, hown, hts, hlk, hK, hfr, hlo, hce, hsl⟩ := X
  unfold o_lstore at h
  split at h
  · rename_i v S'
    cases hok : hy_ok1 i L with
    | false => rw [hok] at h; cases h
    | true =>
      rw [hok] at h
      exact lv_lstore_n hx hb (hy_dqs d) hi (hy_LR_has hL) hn rfl (fun ls' h' => k _ S' D ls' H locs (hy_LR_st2 (v := .long v) hL hok h') hH hS h)
  · cases h
theorem hs_iinc (X : hy_Cx G x own cc nL fr lo) {i : Nat} {n : Int} {z : Int32} (d : hy_dq cc pc (.iinc i n) 3 = true) (hz : Int32.ofInt n = z) (hn : i < nL) (k : hy_Sn G x nL (pc + 3) b f) : hy_Sn G x nL pc b (o_iinc i z f) := by
  intro L S D ls H locs hL hH hS h
  obtain ⟨p, l, e, R, s, m, args, below, meth, c, cells, slots, Q⟩ := x
  obtain ⟨hx, hb, hml, hown, hts, hlk, hK, hfr, hlo, hce, hsl⟩ := X
  unfold o_iinc at h
  split at h
  · rename_i v hv
    cases hok : hy_ok1 i L with
    | false => rw [hok] at h; cases h
    | true =>
      rw [hok] at h
      obtain ⟨q, hq⟩ := List.getElem?_of_mem (hy_kn_in (ad := G.1) hn hv)
      exact lv_iinc hx hb (hy_dqs d) (hy_LR_has hL) hq (by rw [hz]) hn rfl (fun ls' h' => k _ S D ls' H locs (hy_LR_st1 (v := .int (v + z)) hL hok h') hH hS h)
  · cases h
theorem hs_iadd (X : hy_Cx G x own cc nL fr lo) (d : hy_dq cc pc .iadd 1 = true) (k : hy_Sn G x nL (pc + 1) b f) : hy_Sn G x nL pc b (o_i2 (fun a c => a + c) f) := by
  intro L S D ls H locs hL hH hS h
  obtain ⟨p, l, e, R, s, m, args, below, meth, c, cells, slots, Q⟩ := x
  obtain ⟨hx, hb, hml, hown, hts, hlk, hK, hfr, hlo, hce, hsl⟩ := X
  unfold o_i2 at h
  split at h
  · exact lv_iadd hx hb (hy_dqs d) (k _ _ _ _ _ _ hL hH hS h)
  · cases h
theorem hs_isub (X : hy_Cx G x own cc nL fr lo) (d : hy_dq cc pc .isub 1 = true) (k : hy_Sn G x nL (pc + 1) b f) : hy_Sn G x nL pc b (o_i2 (fun a c => a - c) f) := by
  intro L S D ls H locs hL hH hS h
  obtain ⟨p, l, e, R, s, m, args, below, meth, c, cells, slots, Q⟩ := x
  obtain ⟨hx, hb, hml, hown, hts, hlk, hK, hfr, hlo, hce, hsl⟩ := X
  unfold o_i2 at h
  split at h
  · exact lv_isub hx hb (hy_dqs d) (k _ _ _ _ _ _ hL hH hS h)
  · cases h
theorem hs_imul (X : hy_Cx G x own cc nL fr lo) (d : hy_dq cc pc .imul 1 = true) (k : hy_Sn G x nL (pc + 1) b f) : hy_Sn G x nL pc b (o_i2 (fun a c => a * c) f) := by
  intro L S D ls H locs hL hH hS h
  obtain ⟨p, l, e, R, s, m, args, below, meth, c, cells, slots, Q⟩ := x
  obtain ⟨hx, hb, hml, hown, hts, hlk, hK, hfr, hlo, hce, hsl⟩ := X
  unfold o_i2 at h
  split at h
  · exact lv_imul hx hb (hy_dqs d) (k _ _ _ _ _ _ hL hH hS h)
  · cases h
theorem hs_iand (X : hy_Cx G x own cc nL fr lo) (d : hy_dq cc pc .iand 1 = true) (k : hy_Sn G x nL (pc + 1) b f) : hy_Sn G x nL pc b (o_i2 (fun a c => a &&& c) f) := by
  intro L S D ls H locs hL hH hS h
  obtain ⟨p, l, e, R, s, m, args, below, meth, c, cells, slots, Q⟩ := x
  obtain ⟨hx, hb, hml, hown, hts, hlk, hK, hfr, hlo, hce, hsl⟩ := X
  unfold o_i2 at h
  split at h
  · exact lv_iand hx hb (hy_dqs d) (k _ _ _ _ _ _ hL hH hS h)
  · cases h
theorem hs_ior (X : hy_Cx G x own cc nL fr lo) (d : hy_dq cc pc .ior 1 = true) (k : hy_Sn G x nL (pc + 1) b f) : hy_Sn G x nL pc b (o_i2 (fun a c => a ||| c) f) := by
  intro L S D ls H locs hL hH hS h
  obtain ⟨p, l, e, R, s, m, args, below, meth, c, cells, slots, Q⟩ := x
  obtain ⟨hx, hb, hml, hown, hts, hlk, hK, hfr, hlo, hce, hsl⟩ := X
  unfold o_i2 at h
  split at h
  · exact lv_ior hx hb (hy_dqs d) (k _ _ _ _ _ _ hL hH hS h)
  · cases h
theorem hs_ishl (X : hy_Cx G x own cc nL fr lo) (d : hy_dq cc pc .ishl 1 = true) (k : hy_Sn G x nL (pc + 1) b f) : hy_Sn G x nL pc b (o_i2 (fun a c => a <<< (c &&& 31)) f) := by
  intro L S D ls H locs hL hH hS h
  obtain ⟨p, l, e, R, s, m, args, below, meth, c, cells, slots, Q⟩ := x
  obtain ⟨hx, hb, hml, hown, hts, hlk, hK, hfr, hlo, hce, hsl⟩ := X
  unfold o_i2 at h
  split at h
  · exact lv_ishl hx hb (hy_dqs d) (k _ _ _ _ _ _ hL hH hS h)
  · cases h
theorem hs_ishr (X : hy_Cx G x own cc nL fr lo) (d : hy_dq cc pc .ishr 1 = true) (k : hy_Sn G x nL (pc + 1) b f) : hy_Sn G x nL pc b (o_i2 (fun a c => a >>> (c &&& 31)) f) := by
  intro L S D ls H locs hL hH hS h
  obtain ⟨p, l, e, R, s, m, args, below, meth, c, cells, slots, Q⟩ := x
  obtain ⟨hx, hb, hml, hown, hts, hlk, hK, hfr, hlo, hce, hsl⟩ := X
  unfold o_i2 at h
  split at h
  · exact lv_ishr hx hb (hy_dqs d) (k _ _ _ _ _ _ hL hH hS h)
  · cases h
theorem hs_iushr (X : hy_Cx G x own cc nL fr lo) (d : hy_dq cc pc .iushr 1 = true) (k : hy_Sn G x nL (pc + 1) b f) : hy_Sn G x nL pc b (o_i2 (fun a c => (a.toUInt32 >>> (c.toUInt32 &&& Int32.toUInt32 31)).toInt32) f) := by
  intro L S D ls H locs hL hH hS h
  obtain ⟨p, l, e, R, s, m, args, below, meth, c, cells, slots, Q⟩ := x
  obtain ⟨hx, hb, hml, hown, hts, hlk, hK, hfr, hlo, hce, hsl⟩ := X
  unfold o_i2 at h
  split at h
  · exact lv_iushr hx hb (hy_dqs d) rfl (k _ _ _ _ _ _ hL hH hS h)
  · cases h
theorem hs_idiv (X : hy_Cx G x own cc nL fr lo) (d : hy_dq cc pc .idiv 1 = true) (k : hy_Sn G x nL (pc + 1) b f) : hy_Sn G x nL pc b (o_idiv f) := by
  intro L S D ls H locs hL hH hS h
  obtain ⟨p, l, e, R, s, m, args, below, meth, c, cells, slots, Q⟩ := x
  obtain ⟨hx, hb, hml, hown, hts, hlk, hK, hfr, hlo, hce, hsl⟩ := X
  unfold o_idiv at h
  split at h
  · rename_i y z S'
    by_cases hy : y = 0
    · rw [if_pos hy] at h
      cases h
    · rw [if_neg hy] at h
      exact lv_idiv hx hb (hy_dqs d) hy (k _ _ _ _ _ _ hL hH hS h)
  · cases h
theorem hs_irem (X : hy_Cx G x own cc nL fr lo) (d : hy_dq cc pc .irem 1 = true) (k : hy_Sn G x nL (pc + 1) b f) : hy_Sn G x nL pc b (o_irem f) := by
  intro L S D ls H locs hL hH hS h
  obtain ⟨p, l, e, R, s, m, args, below, meth, c, cells, slots, Q⟩ := x
  obtain ⟨hx, hb, hml, hown, hts, hlk, hK, hfr, hlo, hce, hsl⟩ := X
  unfold o_irem at h
  split at h
  · rename_i y z S'
    by_cases hy : y = 0
    · rw [if_pos hy] at h
      cases h
    · rw [if_neg hy] at h
      exact lv_irem hx hb (hy_dqs d) hy (k _ _ _ _ _ _ hL hH hS h)
  · cases h
theorem hs_ldiv (X : hy_Cx G x own cc nL fr lo) (d : hy_dq cc pc .ldiv 1 = true) (k : hy_Sn G x nL (pc + 1) b f) : hy_Sn G x nL pc b (o_ldiv f) := by
  intro L S D ls H locs hL hH hS h
  obtain ⟨p, l, e, R, s, m, args, below, meth, c, cells, slots, Q⟩ := x
  obtain ⟨hx, hb, hml, hown, hts, hlk, hK, hfr, hlo, hce, hsl⟩ := X
  unfold o_ldiv at h
  split at h
  · rename_i y z S'
    by_cases hy : y = 0
    · rw [if_pos hy] at h
      cases h
    · rw [if_neg hy] at h
      exact lv_ldiv hx hb (hy_dqs d) hy (k _ _ _ _ _ _ hL hH hS h)
  · cases h
theorem hs_lrem (X : hy_Cx G x own cc nL fr lo) (d : hy_dq cc pc .lrem 1 = true) (k : hy_Sn G x nL (pc + 1) b f) : hy_Sn G x nL pc b (o_lrem f) := by
  intro L S D ls H locs hL hH hS h
  obtain ⟨p, l, e, R, s, m, args, below, meth, c, cells, slots, Q⟩ := x
  obtain ⟨hx, hb, hml, hown, hts, hlk, hK, hfr, hlo, hce, hsl⟩ := X
  unfold o_lrem at h
  split at h
  · rename_i y z S'
    by_cases hy : y = 0
    · rw [if_pos hy] at h
      cases h
    · rw [if_neg hy] at h
      exact lv_lrem hx hb (hy_dqs d) hy (k _ _ _ _ _ _ hL hH hS h)
  · cases h
theorem hs_ineg (X : hy_Cx G x own cc nL fr lo) (d : hy_dq cc pc .ineg 1 = true) (k : hy_Sn G x nL (pc + 1) b f) : hy_Sn G x nL pc b (o_ineg f) := by
  intro L S D ls H locs hL hH hS h
  obtain ⟨p, l, e, R, s, m, args, below, meth, c, cells, slots, Q⟩ := x
  obtain ⟨hx, hb, hml, hown, hts, hlk, hK, hfr, hlo, hce, hsl⟩ := X
  unfold o_ineg at h
  split at h
  · exact lv_ineg hx hb (hy_dqs d) (k _ _ _ _ _ _ hL hH hS h)
  · cases h
theorem hs_i2l (X : hy_Cx G x own cc nL fr lo) (d : hy_dq cc pc .i2l 1 = true) (k : hy_Sn G x nL (pc + 1) b f) : hy_Sn G x nL pc b (o_i2l f) := by
  intro L S D ls H locs hL hH hS h
  obtain ⟨p, l, e, R, s, m, args, below, meth, c, cells, slots, Q⟩ := x
  obtain ⟨hx, hb, hml, hown, hts, hlk, hK, hfr, hlo, hce, hsl⟩ := X
  unfold o_i2l at h
  split at h
  · exact lv_i2l hx hb (hy_dqs d) rfl (k _ _ _ _ _ _ hL hH hS h)
  · cases h
theorem hs_lcmp (X : hy_Cx G x own cc nL fr lo) (d : hy_dq cc pc .lcmp 1 = true) (k : hy_Sn G x nL (pc + 1) b f) : hy_Sn G x nL pc b (o_lcmp f) := by
  intro L S D ls H locs hL hH hS h
  obtain ⟨p, l, e, R, s, m, args, below, meth, c, cells, slots, Q⟩ := x
  obtain ⟨hx, hb, hml, hown, hts, hlk, hK, hfr, hlo, hce, hsl⟩ := X
  unfold o_lcmp at h
  split at h
  · exact W.lcmp hx hb (hy_dqs d) (k _ _ _ _ _ _ hL hH hS h)
  · cases h
theorem hs_dup (X : hy_Cx G x own cc nL fr lo) (d : hy_dq cc pc .dup 1 = true) (k : hy_Sn G x nL (pc + 1) b f) : hy_Sn G x nL pc b (o_dup f) := by
  intro L S D ls H locs hL hH hS h
  obtain ⟨p, l, e, R, s, m, args, below, meth, c, cells, slots, Q⟩ := x
  obtain ⟨hx, hb, hml, hown, hts, hlk, hK, hfr, hlo, hce, hsl⟩ := X
  unfold o_dup at h
  split at h
  · exact lv_dup hx hb (hy_dqs d) rfl (k _ _ _ _ _ _ hL hH hS h)
  · exact lv_dup hx hb (hy_dqs d) rfl (k _ _ _ _ _ _ hL hH hS h)
  · cases h
theorem hs_dup2 (X : hy_Cx G x own cc nL fr lo) (d : hy_dq cc pc .dup2 1 = true) (k : hy_Sn G x nL (pc + 1) b f) : hy_Sn G x nL pc b (o_dup2 f) := by
  intro L S D ls H locs hL hH hS h
  obtain ⟨p, l, e, R, s, m, args, below, meth, c, cells, slots, Q⟩ := x
  obtain ⟨hx, hb, hml, hown, hts, hlk, hK, hfr, hlo, hce, hsl⟩ := X
  unfold o_dup2 at h
  split at h
  · exact lv_dup2_11 hx hb (hy_dqs d) rfl rfl (k _ _ _ _ _ _ hL hH hS h)
  · cases h
theorem hs_pop (X : hy_Cx G x own cc nL fr lo) (d : hy_dq cc pc .pop 1 = true) (k : hy_Sn G x nL (pc + 1) b f) : hy_Sn G x nL pc b (o_pop f) := by
  intro L S D ls H locs hL hH hS h
  obtain ⟨p, l, e, R, s, m, args, below, meth, c, cells, slots, Q⟩ := x
  obtain ⟨hx, hb, hml, hown, hts, hlk, hK, hfr, hlo, hce, hsl⟩ := X
  unfold o_pop at h
  split at h
  · exact lv_pop hx hb (hy_dqs d) rfl (k _ _ _ _ _ _ hL hH hS h)
  · cases h
theorem hs_goto (X : hy_Cx G x own cc nL fr lo) {off : Int} {tgt : Nat} (d : hy_dq cc pc (.goto off) 3 = true) (ht : (pc : Int) + off = (tgt : Int)) (k : hy_Sn G x nL tgt b f) : hy_Sn G x nL pc b f := by
  intro L S D ls H locs hL hH hS h
  obtain ⟨p, l, e, R, s, m, args, below, meth, c, cells, slots, Q⟩ := x
  obtain ⟨hx, hb, hml, hown, hts, hlk, hK, hfr, hlo, hce, hsl⟩ := X
  exact lv_goto hx hb (hy_dqs d) ht (k _ _ _ _ _ _ hL hH hS h)
theorem hs_ceq (X : hy_Cx G x own cc nL fr lo) {off : Int} {tgt : Nat} (d : hy_dq cc pc (.if_icmp .eq off) 3 = true) (ht : (pc : Int) + off = (tgt : Int)) (k1 : hy_Sn G x nL tgt b f) (k2 : hy_Sn G x nL (pc + 3) b g) : hy_Sn G x nL pc b (o_ceq f g) := by
  intro L S D ls H locs hL hH hS h
  obtain ⟨p, l, e, R, s, m, args, below, meth, c, cells, slots, Q⟩ := x
  obtain ⟨hx, hb, hml, hown, hts, hlk, hK, hfr, hlo, hce, hsl⟩ := X
  unfold o_ceq at h
  split at h
  · exact lv_icmp_eq hx hb (hy_dqs d) ht (fun q => k1 _ _ _ _ _ _ hL hH hS (by rw [if_pos q] at h; exact h)) (fun q => k2 _ _ _ _ _ _ hL hH hS (by rw [if_neg q] at h; exact h))
  · cases h
theorem hs_cne (X : hy_Cx G x own cc nL fr lo) {off : Int} {tgt : Nat} (d : hy_dq cc pc (.if_icmp .ne off) 3 = true) (ht : (pc : Int) + off = (tgt : Int)) (k1 : hy_Sn G x nL (pc + 3) b f) (k2 : hy_Sn G x nL tgt b g) : hy_Sn G x nL pc b (o_ceq f g) := by
  intro L S D ls H locs hL hH hS h
  obtain ⟨p, l, e, R, s, m, args, below, meth, c, cells, slots, Q⟩ := x
  obtain ⟨hx, hb, hml, hown, hts, hlk, hK, hfr, hlo, hce, hsl⟩ := X
  unfold o_ceq at h
  split at h
  · exact lv_icmp_ne hx hb (hy_dqs d) ht (fun q => k2 _ _ _ _ _ _ hL hH hS (by rw [if_neg q] at h; exact h)) (fun q => k1 _ _ _ _ _ _ hL hH hS (by rw [if_pos q] at h; exact h))
  · cases h
theorem hs_clt (X : hy_Cx G x own cc nL fr lo) {off : Int} {tgt : Nat} (d : hy_dq cc pc (.if_icmp .lt off) 3 = true) (ht : (pc : Int) + off = (tgt : Int)) (k1 : hy_Sn G x nL tgt b f) (k2 : hy_Sn G x nL (pc + 3) b g) : hy_Sn G x nL pc b (o_clt f g) := by
  intro L S D ls H locs hL hH hS h
  obtain ⟨p, l, e, R, s, m, args, below, meth, c, cells, slots, Q⟩ := x
  obtain ⟨hx, hb, hml, hown, hts, hlk, hK, hfr, hlo, hce, hsl⟩ := X
  unfold o_clt at h
  split at h
  · exact lv_icmp_lt hx hb (hy_dqs d) ht (fun q => k1 _ _ _ _ _ _ hL hH hS (by rw [if_pos q] at h; exact h)) (fun q => k2 _ _ _ _ _ _ hL hH hS (by rw [if_neg q] at h; exact h))
  · cases h
theorem hs_cge (X : hy_Cx G x own cc nL fr lo) {off : Int} {tgt : Nat} (d : hy_dq cc pc (.if_icmp .ge off) 3 = true) (ht : (pc : Int) + off = (tgt : Int)) (k1 : hy_Sn G x nL (pc + 3) b f) (k2 : hy_Sn G x nL tgt b g) : hy_Sn G x nL pc b (o_clt f g) := by
  intro L S D ls H locs hL hH hS h
  obtain ⟨p, l, e, R, s, m, args, below, meth, c, cells, slots, Q⟩ := x
  obtain ⟨hx, hb, hml, hown, hts, hlk, hK, hfr, hlo, hce, hsl⟩ := X
  unfold o_clt at h
  split at h
  · exact lv_icmp_ge hx hb (hy_dqs d) ht (fun q => k2 _ _ _ _ _ _ hL hH hS (by rw [if_neg (Int32.not_lt.mpr q)] at h; exact h)) (fun q => k1 _ _ _ _ _ _ hL hH hS (by rw [if_pos (Int32.not_le.mp q)] at h; exact h))
  · cases h
theorem hs_cgt (X : hy_Cx G x own cc nL fr lo) {off : Int} {tgt : Nat} (d : hy_dq cc pc (.if_icmp .gt off) 3 = true) (ht : (pc : Int) + off = (tgt : Int)) (k1 : hy_Sn G x nL tgt b f) (k2 : hy_Sn G x nL (pc + 3) b g) : hy_Sn G x nL pc b (o_cgt f g) := by
  intro L S D ls H locs hL hH hS h
  obtain ⟨p, l, e, R, s, m, args, below, meth, c, cells, slots, Q⟩ := x
  obtain ⟨hx, hb, hml, hown, hts, hlk, hK, hfr, hlo, hce, hsl⟩ := X
  unfold o_cgt at h
  split at h
  · exact lv_icmp_gt hx hb (hy_dqs d) ht (fun q => k1 _ _ _ _ _ _ hL hH hS (by rw [if_pos q] at h; exact h)) (fun q => k2 _ _ _ _ _ _ hL hH hS (by rw [if_neg q] at h; exact h))
  · cases h
theorem hs_cle (X : hy_Cx G x own cc nL fr lo) {off : Int} {tgt : Nat} (d : hy_dq cc pc (.if_icmp .le off) 3 = true) (ht : (pc : Int) + off = (tgt : Int)) (k1 : hy_Sn G x nL (pc + 3) b f) (k2 : hy_Sn G x nL tgt b g) : hy_Sn G x nL pc b (o_cgt f g) := by
  intro L S D ls H locs hL hH hS h
  obtain ⟨p, l, e, R, s, m, args, below, meth, c, cells, slots, Q⟩ := x
  obtain ⟨hx, hb, hml, hown, hts, hlk, hK, hfr, hlo, hce, hsl⟩ := X
  unfold o_cgt at h
  split at h
  · exact lv_icmp_le hx hb (hy_dqs d) ht (fun q => k2 _ _ _ _ _ _ hL hH hS (by rw [if_neg (Int32.not_lt.mpr q)] at h; exact h)) (fun q => k1 _ _ _ _ _ _ hL hH hS (by rw [if_pos (Int32.not_le.mp q)] at h; exact h))
  · cases h
theorem hs_zeq (X : hy_Cx G x own cc nL fr lo) {off : Int} {tgt : Nat} (d : hy_dq cc pc (.ifCond .eq off) 3 = true) (ht : (pc : Int) + off = (tgt : Int)) (k1 : hy_Sn G x nL tgt b f) (k2 : hy_Sn G x nL (pc + 3) b g) : hy_Sn G x nL pc b (o_zeq f g) := by
  intro L S D ls H locs hL hH hS h
  obtain ⟨p, l, e, R, s, m, args, below, meth, c, cells, slots, Q⟩ := x
  obtain ⟨hx, hb, hml, hown, hts, hlk, hK, hfr, hlo, hce, hsl⟩ := X
  unfold o_zeq at h
  split at h
  · exact lv_if_eq hx hb (hy_dqs d) ht (fun q => k1 _ _ _ _ _ _ hL hH hS (by rw [if_pos q] at h; exact h)) (fun q => k2 _ _ _ _ _ _ hL hH hS (by rw [if_neg q] at h; exact h))
  · cases h
theorem hs_zne (X : hy_Cx G x own cc nL fr lo) {off : Int} {tgt : Nat} (d : hy_dq cc pc (.ifCond .ne off) 3 = true) (ht : (pc : Int) + off = (tgt : Int)) (k1 : hy_Sn G x nL (pc + 3) b f) (k2 : hy_Sn G x nL tgt b g) : hy_Sn G x nL pc b (o_zeq f g) := by
  intro L S D ls H locs hL hH hS h
  obtain ⟨p, l, e, R, s, m, args, below, meth, c, cells, slots, Q⟩ := x
  obtain ⟨hx, hb, hml, hown, hts, hlk, hK, hfr, hlo, hce, hsl⟩ := X
  unfold o_zeq at h
  split at h
  · exact lv_if_ne hx hb (hy_dqs d) ht (fun q => k2 _ _ _ _ _ _ hL hH hS (by rw [if_neg q] at h; exact h)) (fun q => k1 _ _ _ _ _ _ hL hH hS (by rw [if_pos q] at h; exact h))
  · cases h
theorem hs_zlt (X : hy_Cx G x own cc nL fr lo) {off : Int} {tgt : Nat} (d : hy_dq cc pc (.ifCond .lt off) 3 = true) (ht : (pc : Int) + off = (tgt : Int)) (k1 : hy_Sn G x nL tgt b f) (k2 : hy_Sn G x nL (pc + 3) b g) : hy_Sn G x nL pc b (o_zlt f g) := by
  intro L S D ls H locs hL hH hS h
  obtain ⟨p, l, e, R, s, m, args, below, meth, c, cells, slots, Q⟩ := x
  obtain ⟨hx, hb, hml, hown, hts, hlk, hK, hfr, hlo, hce, hsl⟩ := X
  unfold o_zlt at h
  split at h
  · exact lv_if_lt hx hb (hy_dqs d) ht (fun q => k1 _ _ _ _ _ _ hL hH hS (by rw [if_pos q] at h; exact h)) (fun q => k2 _ _ _ _ _ _ hL hH hS (by rw [if_neg q] at h; exact h))
  · cases h
theorem hs_zge (X : hy_Cx G x own cc nL fr lo) {off : Int} {tgt : Nat} (d : hy_dq cc pc (.ifCond .ge off) 3 = true) (ht : (pc : Int) + off = (tgt : Int)) (k1 : hy_Sn G x nL (pc + 3) b f) (k2 : hy_Sn G x nL tgt b g) : hy_Sn G x nL pc b (o_zlt f g) := by
  intro L S D ls H locs hL hH hS h
  obtain ⟨p, l, e, R, s, m, args, below, meth, c, cells, slots, Q⟩ := x
  obtain ⟨hx, hb, hml, hown, hts, hlk, hK, hfr, hlo, hce, hsl⟩ := X
  unfold o_zlt at h
  split at h
  · exact lv_if_ge hx hb (hy_dqs d) ht (fun q => k2 _ _ _ _ _ _ hL hH hS (by rw [if_neg (Int32.not_lt.mpr q)] at h; exact h)) (fun q => k1 _ _ _ _ _ _ hL hH hS (by rw [if_pos (Int32.not_le.mp q)] at h; exact h))
  · cases h
theorem hs_zgt (X : hy_Cx G x own cc nL fr lo) {off : Int} {tgt : Nat} (d : hy_dq cc pc (.ifCond .gt off) 3 = true) (ht : (pc : Int) + off = (tgt : Int)) (k1 : hy_Sn G x nL tgt b f) (k2 : hy_Sn G x nL (pc + 3) b g) : hy_Sn G x nL pc b (o_zgt f g) := by
  intro L S D ls H locs hL hH hS h
  obtain ⟨p, l, e, R, s, m, args, below, meth, c, cells, slots, Q⟩ := x
  obtain ⟨hx, hb, hml, hown, hts, hlk, hK, hfr, hlo, hce, hsl⟩ := X
  unfold o_zgt at h
  split at h
  · exact lv_if_gt hx hb (hy_dqs d) ht (fun q => k1 _ _ _ _ _ _ hL hH hS (by rw [if_pos q] at h; exact h)) (fun q => k2 _ _ _ _ _ _ hL hH hS (by rw [if_neg q] at h; exact h))
  · cases h
theorem hs_zle (X : hy_Cx G x own cc nL fr lo) {off : Int} {tgt : Nat} (d : hy_dq cc pc (.ifCond .le off) 3 = true) (ht : (pc : Int) + off = (tgt : Int)) (k1 : hy_Sn G x nL (pc + 3) b f) (k2 : hy_Sn G x nL tgt b g) : hy_Sn G x nL pc b (o_zgt f g) := by
  intro L S D ls H locs hL hH hS h
  obtain ⟨p, l, e, R, s, m, args, below, meth, c, cells, slots, Q⟩ := x
  obtain ⟨hx, hb, hml, hown, hts, hlk, hK, hfr, hlo, hce, hsl⟩ := X
  unfold o_zgt at h
  split at h
  · exact lv_if_le hx hb (hy_dqs d) ht (fun q => k2 _ _ _ _ _ _ hL hH hS (by rw [if_neg (Int32.not_lt.mpr q)] at h; exact h)) (fun q => k1 _ _ _ _ _ _ hL hH hS (by rw [if_pos (Int32.not_le.mp q)] at h; exact h))
  · cases h
end HS
