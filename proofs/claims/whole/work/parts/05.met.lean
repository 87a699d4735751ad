/-! ===== ends, methods ===== -/
def hy_Ri (G : hy_G) (x : hy_X) (b : Int32 × hy_M) (rt : FieldType) : Prop := match x with
  | (_, _, _, _, s, _, args, below, meth, _, cells, slots, Q) => Q = MQ below (hy_Qi G b.1 b.2) args s cells slots (hy_A G) ∧ meth.sig.returnType = some rt
def hy_Rl (G : hy_G) (x : hy_X) (b : Int64 × hy_M) : Prop := match x with
  | (_, _, _, _, s, _, args, below, meth, _, cells, slots, Q) => Q = MQ below (hy_Ql G b.1 b.2) args s cells slots (hy_A G) ∧ meth.sig.returnType = some .long
def hy_Rv (G : hy_G) (x : hy_X) (b : hy_M) : Prop := match x with
  | (_, _, _, _, s, _, args, below, meth, _, cells, slots, Q) => Q = MQ below (hy_Qv G b) args s cells slots (hy_A G) ∧ meth.sig.returnType = none
section HE
variable {G : hy_G} {x : hy_X} {own : String} {cc : ByteArray} {nL fr lo pc : Nat}
theorem hs_iret {b : Int32 × hy_M} (X : hy_Cx G x own cc nL fr lo) (r : hy_Ri G x b .int) (d : hy_dq cc pc .ireturn 1 = true) : hy_Sn G x nL pc b o_iret := by
  intro L S D ls H locs hL hH hS h
  obtain ⟨p, l, e, R, s, m, args, below, meth, c, cells, slots, Q⟩ := x
  obtain ⟨hx, hb, hml, hown, hts, hlk, hK, hfr, hlo, hce, hsl⟩ := X
  obtain ⟨rfl, hr⟩ := r
  unfold o_iret at h
  split at h
  · cases h
    exact W.iret hx hb hr (fun t ht hW => ⟨rfl, by rw [ht]; exact hH, hS.F ht⟩) hS.2.2 (hy_dqs d) hlk
  · cases h
theorem hs_zret {b : Int32 × hy_M} (X : hy_Cx G x own cc nL fr lo) (r : hy_Ri G x b .boolean) (d : hy_dq cc pc .ireturn 1 = true) : hy_Sn G x nL pc b o_zret := by
  intro L S D ls H locs hL hH hS h
  obtain ⟨p, l, e, R, s, m, args, below, meth, c, cells, slots, Q⟩ := x
  obtain ⟨hx, hb, hml, hown, hts, hlk, hK, hfr, hlo, hce, hsl⟩ := X
  obtain ⟨rfl, hr⟩ := r
  unfold o_zret at h
  split at h
  · rename_i v
    by_cases hv : v = 0 ∨ v = 1
    · rw [if_pos hv] at h
      cases h
      exact W.zret hx hb hr (by rcases hv with rfl | rfl <;> rfl) (fun t ht hW => ⟨rfl, by rw [ht]; exact hH, hS.F ht⟩) hS.2.2 (hy_dqs d) hlk
    · rw [if_neg hv] at h
      cases h
  · cases h
theorem hs_lret {b : Int64 × hy_M} (X : hy_Cx G x own cc nL fr lo) (r : hy_Rl G x b) (d : hy_dq cc pc .lreturn 1 = true) : hy_Sn G x nL pc b o_lret := by
  intro L S D ls H locs hL hH hS h
  obtain ⟨p, l, e, R, s, m, args, below, meth, c, cells, slots, Q⟩ := x
  obtain ⟨hx, hb, hml, hown, hts, hlk, hK, hfr, hlo, hce, hsl⟩ := X
  obtain ⟨rfl, hr⟩ := r
  unfold o_lret at h
  split at h
  · cases h
    exact W.lret hx hb hr (fun t ht hW => ⟨rfl, by rw [ht]; exact hH, hS.F ht⟩) hS.2.2 (hy_dqs d) hlk
  · cases h
theorem hs_vret {b : hy_M} (X : hy_Cx G x own cc nL fr lo) (r : hy_Rv G x b) (d : hy_dq cc pc .return_ 1 = true) : hy_Sn G x nL pc b o_vret := by
  intro L S D ls H locs hL hH hS h
  obtain ⟨p, l, e, R, s, m, args, below, meth, c, cells, slots, Q⟩ := x
  obtain ⟨hx, hb, hml, hown, hts, hlk, hK, hfr, hlo, hce, hsl⟩ := X
  obtain ⟨rfl, hr⟩ := r
  unfold o_vret at h
  split at h
  · cases h
    exact W.vret hx hb hr (fun t ht hW => ⟨rfl, by rw [ht]; exact hH, hS.F ht⟩) hS.2.2 (hy_dqs d) hlk
  · cases h
end HE
theorem hy_lg_len : ∀ (ad : Nat → Nat) (a : List Value), (lg_sl (a.map (hy_v ad))).length = hy_wd a
  | ad, [] => rfl
  | ad, v :: a => by
    have ih := hy_lg_len ad a
    simp only [lg_sl, List.map_cons, List.flatMap_cons, List.length_append, hy_wd, hy_v_cat] at ih ⊢
    rw [ih]
    rcases lv_cat v with h | h <;> simp [h]
theorem hy_lget_rep : ∀ (k i : Nat), hy_lget i (List.replicate k none) = none
  | 0, i => by cases i <;> rfl
  | k + 1, 0 => rfl
  | k + 1, i + 1 => by simp only [List.replicate_succ, hy_lget]; exact hy_lget_rep k i
theorem hy_lo_args (ad : Nat → Nat) (k : Nat) : ∀ (a : List Value) (i j : Nat) (v : Value), hy_lget i (hy_lo a ++ List.replicate k none) = some v → (j + i, hy_v ad v) ∈ lv_args j (a.map (hy_v ad)) := by
  intro a
  induction a with
  | nil =>
    intro i j v h
    simp only [hy_lo, List.nil_append] at h
    rw [hy_lget_rep] at h
    cases h
  | cons w a ih =>
    intro i j v h
    have one : ∀ (hc : w.category = 1) (hl : hy_lo (w :: a) = some w :: hy_lo a), (j + i, hy_v ad v) ∈ lv_args j ((w :: a).map (hy_v ad)) := by
      intro hc hl
      rw [hl] at h
      simp only [List.map_cons, lv_args, hy_v_cat, hc]
      cases i with
      | zero =>
        simp only [List.cons_append, hy_lget, Option.some.injEq] at h
        subst h
        exact List.mem_cons_self
      | succ i =>
        simp only [List.cons_append, hy_lget] at h
        have := ih i (j + 1) v h
        rw [show j + 1 + i = j + (i + 1) by omega] at this
        exact List.mem_cons_of_mem _ (by simpa using this)
    have two : ∀ (hc : w.category = 2) (hl : hy_lo (w :: a) = some w :: none :: hy_lo a), (j + i, hy_v ad v) ∈ lv_args j ((w :: a).map (hy_v ad)) := by
      intro hc hl
      rw [hl] at h
      simp only [List.map_cons, lv_args, hy_v_cat, hc]
      cases i with
      | zero =>
        simp only [List.cons_append, hy_lget, Option.some.injEq] at h
        subst h
        exact List.mem_cons_self
      | succ i =>
        cases i with
        | zero => simp [hy_lget] at h
        | succ i =>
          simp only [List.cons_append, hy_lget] at h
          have := ih i (j + 2) v h
          rw [show j + 2 + i = j + (i + 1 + 1) by omega] at this
          exact List.mem_cons_of_mem _ (by simpa using this)
    cases w with
    | long z => exact two rfl rfl
    | double z => exact two rfl rfl
    | int z => exact one rfl rfl
    | float z => exact one rfl rfl
    | null => exact one rfl rfl
    | ref z => exact one rfl rfl
    | retAddr z => exact one rfl rfl
theorem hy_entry {ad : Nat → Nat} {a : List Value} {nL : Nat} (h : hy_wd a ≤ nL) : hy_LR ad nL (hy_lo a ++ List.replicate (nL - hy_wd a) none) ((lg_sl (a.map (hy_v ad)) ++ List.replicate (nL - (lg_sl (a.map (hy_v ad))).length) Slot.unset).toArray) := by
  have hl := lv_entry (a.map (hy_v ad)) (n := nL) (by rw [hy_lg_len]; exact h)
  refine ⟨hl.1, hl.2.1, fun i v hi => ?_⟩
  have := hl.2.2 _ (hy_lo_args ad _ a i 0 v hi)
  simpa using this
section HT
variable {G : hy_G} {y : MethodName} {cc : ByteArray} {nL fr lo : Nat}
theorem hy_meti {rt : FieldType} {f : hy_C (Int32 × hy_M)} (hp : plainName y.cls = true) (body : ∀ (x : hy_X) (b : Int32 × hy_M), hy_Cx G x y.cls cc nL fr lo → hy_Ri G x b rt → hy_Sn G x nL 0 b f) : ∀ l, hy_Mi l G y cc nL rt fr lo (hy_g nL f) := by
  intro l a D D' r hg
  refine Met.ofW (cc := cc) (maxL := nL) (ret := some rt) hp rfl ?_
  intro p e s m args below meth c s₁ B hml hv
  obtain ⟨rfl, hH, hK⟩ := hv
  have hts := atoms_spec (ws := Cond.code y cc nL (some rt) :: hy_WT) B.pre
  unfold hy_g at hg
  cases hle : Nat.ble (hy_wd a) nL with
  | false => rw [hle] at hg; cases hg
  | true =>
    rw [hle] at hg
    rw [lg_entry_eq]
    exact body (p, l, e, _, s, m, _, below, meth, c, 0, 0, _) (r, D') ⟨B.exec, B.bytes, hml, findClass_of_methodNamed B.named, fun w hw => hts w (List.mem_cons_of_mem _ hw), B.notSynchronized, hK, Nat.le_refl _, Nat.le_refl _, Nat.zero_le _, Nat.zero_le _⟩ ⟨rfl, B.returns⟩ _ [] D _ s.heap [] (hy_entry (Nat.le_of_ble_eq_true hle)) hH va_S.rf hg
theorem hy_metl {f : hy_C (Int64 × hy_M)} (hp : plainName y.cls = true) (body : ∀ (x : hy_X) (b : Int64 × hy_M), hy_Cx G x y.cls cc nL fr lo → hy_Rl G x b → hy_Sn G x nL 0 b f) : ∀ l, hy_Ml l G y cc nL fr lo (hy_g nL f) := by
  intro l a D D' r hg
  refine Met.ofW (cc := cc) (maxL := nL) (ret := some .long) hp rfl ?_
  intro p e s m args below meth c s₁ B hml hv
  obtain ⟨rfl, hH, hK⟩ := hv
  have hts := atoms_spec (ws := Cond.code y cc nL (some .long) :: hy_WT) B.pre
  unfold hy_g at hg
  cases hle : Nat.ble (hy_wd a) nL with
  | false => rw [hle] at hg; cases hg
  | true =>
    rw [hle] at hg
    rw [lg_entry_eq]
    exact body (p, l, e, _, s, m, _, below, meth, c, 0, 0, _) (r, D') ⟨B.exec, B.bytes, hml, findClass_of_methodNamed B.named, fun w hw => hts w (List.mem_cons_of_mem _ hw), B.notSynchronized, hK, Nat.le_refl _, Nat.le_refl _, Nat.zero_le _, Nat.zero_le _⟩ ⟨rfl, B.returns⟩ _ [] D _ s.heap [] (hy_entry (Nat.le_of_ble_eq_true hle)) hH va_S.rf hg
theorem hy_metv {f : hy_C hy_M} (hp : plainName y.cls = true) (body : ∀ (x : hy_X) (b : hy_M), hy_Cx G x y.cls cc nL fr lo → hy_Rv G x b → hy_Sn G x nL 0 b f) : ∀ l, hy_Mv l G y cc nL fr lo (hy_g nL f) := by
  intro l a D D' hg
  refine Met.ofW (cc := cc) (maxL := nL) (ret := none) hp rfl ?_
  intro p e s m args below meth c s₁ B hml hv
  obtain ⟨rfl, hH, hK⟩ := hv
  have hts := atoms_spec (ws := Cond.code y cc nL none :: hy_WT) B.pre
  unfold hy_g at hg
  cases hle : Nat.ble (hy_wd a) nL with
  | false => rw [hle] at hg; cases hg
  | true =>
    rw [hle] at hg
    rw [lg_entry_eq]
    exact body (p, l, e, _, s, m, _, below, meth, c, 0, 0, _) D' ⟨B.exec, B.bytes, hml, findClass_of_methodNamed B.named, fun w hw => hts w (List.mem_cons_of_mem _ hw), B.notSynchronized, hK, Nat.le_refl _, Nat.le_refl _, Nat.zero_le _, Nat.zero_le _⟩ ⟨rfl, B.returns⟩ _ [] D _ s.heap [] (hy_entry (Nat.le_of_ble_eq_true hle)) hH va_S.rf hg
end HT
/-! ===== a table of branches ===== -/
def hy_tabS (G : hy_G) (x : hy_X) (nL pc : Nat) {β : Type} (b : β) : Nat → List Int → List (Int32 × hy_C β) → Prop
  | _, [], [] => True
  | i, off :: os, (k, f) :: ks => (k = nI i ∧ ∃ tgt : Nat, (pc : Int) + off = (tgt : Int) ∧ hy_Sn G x nL tgt b f) ∧ hy_tabS G x nL pc b (i + 1) os ks
  | _, _, _ => False
theorem hs_tabN {G : hy_G} {x : hy_X} {nL pc : Nat} {β : Type} {b : β} {i : Nat} : hy_tabS G x nL pc b i [] ([] : List (Int32 × hy_C β)) := trivial
theorem hs_tabC {G : hy_G} {x : hy_X} {nL pc : Nat} {β : Type} {b : β} {i : Nat} {off : Int} {os : List Int} {v : Int32} {f : hy_C β} {ks : List (Int32 × hy_C β)} {tgt : Nat} (hv : v = nI i) (ht : (pc : Int) + off = (tgt : Int)) (k : hy_Sn G x nL tgt b f) (r : hy_tabS G x nL pc b (i + 1) os ks) : hy_tabS G x nL pc b i (off :: os) ((v, f) :: ks) := ⟨⟨hv, tgt, ht, k⟩, r⟩
theorem hy_tab_find {G : hy_G} {x : hy_X} {nL pc : Nat} {β : Type} {b : β} {z : Int32} {L : hy_L} {S : List Value} {D : hy_M} {d : hy_C β} : ∀ (ks : List (Int32 × hy_C β)) (os : List Int) (i : Nat), hy_tabS G x nL pc b i os ks → hy_tab z L S D d ks = some b →
    (∃ (j : Nat) (off : Int) (tgt : Nat) (f : hy_C β), os[j]? = some off ∧ z = nI (i + j) ∧ (pc : Int) + off = (tgt : Int) ∧ hy_Sn G x nL tgt b f ∧ f L S D = some b) ∨ ((∀ j, j < os.length → z ≠ nI (i + j)) ∧ d L S D = some b)
  | [], [], i, _, h => Or.inr ⟨fun j hj => by simp at hj, h⟩
  | [], _ :: _, i, hs, _ => hs.elim
  | _ :: _, [], i, hs, _ => hs.elim
  | (v, f) :: ks, off :: os, i, hs, h => by
    obtain ⟨⟨hv, tgt, ht, hk⟩, hr⟩ := hs
    unfold hy_tab at h
    by_cases e : z = v
    · rw [if_pos e] at h
      exact Or.inl ⟨0, off, tgt, f, rfl, by rw [e, hv]; rfl, ht, hk, h⟩
    · rw [if_neg e] at h
      rcases hy_tab_find ks os (i + 1) hr h with ⟨j, off', tgt', f', h1, h2, h3, h4, h5⟩ | ⟨h1, h2⟩
      · exact Or.inl ⟨j + 1, off', tgt', f', by simpa using h1, by rw [h2]; congr 1; omega, h3, h4, h5⟩
      · refine Or.inr ⟨fun j hj => ?_, h2⟩
        cases j with
        | zero => rw [Nat.add_zero, ← hv]; exact e
        | succ j =>
          have := h1 j (by simpa using hj)
          rw [show i + 1 + j = i + (j + 1) by omega] at this
          exact this
theorem hs_tab {G : hy_G} {x : hy_X} {own : String} {cc : ByteArray} {nL fr lo pc : Nat} {β : Type} {b : β} (X : hy_Cx G x own cc nL fr lo) {dflt hi : Int} {os : List Int} {len tgt : Nat} {ks : List (Int32 × hy_C β)} {dd : hy_C β} (d : hy_dq cc pc (.tableswitch dflt 0 hi os.toArray) len = true) (hhi : hi + 1 = (os.length : Int)) (hsm : os.length < 1000) (ht : (pc : Int) + dflt = (tgt : Int)) (kd : hy_Sn G x nL tgt b dd) (ks' : hy_tabS G x nL pc b 0 os ks) : hy_Sn G x nL pc b (o_tab ks dd) := by
  intro L S D ls H locs hL hH hS h
  obtain ⟨p, l, e, R, s, m, args, below, meth, c, cells, slots, Q⟩ := x
  obtain ⟨hx, hb, hml, hown, hts, hlk, hK, hfr, hlo, hce, hsl⟩ := X
  unfold o_tab at h
  split at h
  · rename_i z S'
    rcases hy_tab_find ks os 0 ks' h with ⟨j, off, tgt', f, h1, h2, h3, h4, h5⟩ | ⟨h1, h2⟩
    · have hj : j < os.length := (List.getElem?_eq_some_iff.mp h1).1
      have hz : z.toInt = (j : Int) := by rw [h2, Nat.zero_add]; exact nI_toInt (by omega)
      exact lv_tableIn hx hb (hy_dqs d) (by omega) (by omega) (by rw [hz]; simpa using h1) h3 (h4 _ _ _ _ _ _ hL hH hS h5)
    · refine lv_tableOut hx hb (hy_dqs d) ?_ ht (kd _ _ _ _ _ _ hL hH hS h2)
      by_cases hz : z.toInt < 0
      · exact Or.inl hz
      · right
        apply Classical.byContradiction
        intro hn
        obtain ⟨j, hj⟩ : ∃ j : Nat, z.toInt = (j : Int) := ⟨z.toInt.toNat, by omega⟩
        refine h1 j (by omega) ?_
        rw [Nat.zero_add]
        apply Int32.toInt_inj.mp
        rw [hj, nI_toInt (by omega)]
  · cases h
/-! ===== Math.max, Math.min ===== -/
def o_imax {β : Type} (f : hy_C β) : hy_C β := fun L S D => match S with
  | .int y :: .int z :: S' => bif Nat.ble (hy_cat S') 8 then f L (.int (if z < y then y else z) :: S') D else none
  | _ => none
def o_imin {β : Type} (f : hy_C β) : hy_C β := fun L S D => match S with
  | .int y :: .int z :: S' => bif Nat.ble (hy_cat S') 8 then f L (.int (if y < z then y else z) :: S') D else none
  | _ => none
theorem hs_imax {G : hy_G} {x : hy_X} {own : String} {cc : ByteArray} {nL fr lo pc : Nat} {β : Type} {b : β} {f : hy_C β} (X : hy_Cx G x own cc nL fr lo) {index : Nat} (w1 : Cond.methodLink own index Lib.Math.max.name ∈ hy_WT) (w2 : Cond.static Lib.Math.max.name ∈ hy_WT) (w3 : Cond.initialized "java/lang/Math" ∈ hy_WT) (w4 : Cond.code Lib.Math.max.name Lib.Math.max.code 2 (some .int) ∈ hy_WT) (h1 : 1 ≤ fr) (h2 : 21 ≤ lo) (d : hy_dq cc pc (.invokestatic index) 3 = true) (k : hy_Sn G x nL (pc + 3) b f) : hy_Sn G x nL pc b (o_imax f) := by
  intro L S D ls H locs hL hH hS h
  obtain ⟨p, l, e, R, s, m, args, below, meth, c, cells, slots, Q⟩ := x
  obtain ⟨hx, hb, hml, hown, hts, hlk, hK, hfr, hlo, hce, hsl⟩ := X
  unfold o_imax at h
  split at h
  · rename_i y z S'
    cases hca : Nat.ble (hy_cat S') 8 with
    | false => rw [hca] at h; cases h
    | true =>
      rw [hca] at h
      have e1 := hy_cat_sum G.1 S'
      have e2 := Nat.le_of_ble_eq_true hca
      exact va_mmax hx hb (hml.trans hL.1.symm) hown (hts _ w1) (hts _ w2) (hts _ w3) (hts _ w4) (Nat.le_trans h1 hfr) (by omega) hce hsl (hy_dqs d) (k _ _ _ _ _ _ hL hH hS h)
  · cases h
theorem hs_imin {G : hy_G} {x : hy_X} {own : String} {cc : ByteArray} {nL fr lo pc : Nat} {β : Type} {b : β} {f : hy_C β} (X : hy_Cx G x own cc nL fr lo) {index : Nat} (w1 : Cond.methodLink own index Lib.Math.min.name ∈ hy_WT) (w2 : Cond.static Lib.Math.min.name ∈ hy_WT) (w3 : Cond.initialized "java/lang/Math" ∈ hy_WT) (w4 : Cond.code Lib.Math.min.name Lib.Math.min.code 2 (some .int) ∈ hy_WT) (h1 : 1 ≤ fr) (h2 : 21 ≤ lo) (d : hy_dq cc pc (.invokestatic index) 3 = true) (k : hy_Sn G x nL (pc + 3) b f) : hy_Sn G x nL pc b (o_imin f) := by
  intro L S D ls H locs hL hH hS h
  obtain ⟨p, l, e, R, s, m, args, below, meth, c, cells, slots, Q⟩ := x
  obtain ⟨hx, hb, hml, hown, hts, hlk, hK, hfr, hlo, hce, hsl⟩ := X
  unfold o_imin at h
  split at h
  · rename_i y z S'
    cases hca : Nat.ble (hy_cat S') 8 with
    | false => rw [hca] at h; cases h
    | true =>
      rw [hca] at h
      have e1 := hy_cat_sum G.1 S'
      have e2 := Nat.le_of_ble_eq_true hca
      exact va_mmin hx hb (hml.trans hL.1.symm) hown (hts _ w1) (hts _ w2) (hts _ w3) (hts _ w4) (Nat.le_trans h1 hfr) (by omega) hce hsl (hy_dqs d) (k _ _ _ _ _ _ hL hH hS h)
  · cases h
/-! ===== a part of the static array into one of ours ===== -/
def o_acpyS {β : Type} (f : hy_C β) : hy_C β := fun L S D => match S with
  | .int n :: .int dp :: .ref b :: .int sp :: .ref a :: S' => bif Nat.beq a 1000 && Nat.ble (hy_cat S') 8 then (if hy_rng sp n 8 = true ∧ hy_rng dp n (hy_wl b) = true then f L S' (hy_cp D 1000 b sp.toNatClampNeg dp.toNatClampNeg n.toNatClampNeg) else none) else none
  | _ => none
theorem hy_nn {z : Int32} (hz : ¬ z < 0) : z.toInt = (z.toNatClampNeg : Int) := by
  have hz0 : (0 : Int) ≤ z.toInt := by
    have := Int32.not_lt.mp hz
    simpa using Int32.le_iff_toInt_le.mp this
  show z.toInt = ((z.toInt.toNat : Nat) : Int)
  omega
theorem hs_acpyS {G : hy_G} {x : hy_X} {own : String} {cc : ByteArray} {nL fr lo pc : Nat} {β : Type} {b : β} {f : hy_C β} (X : hy_Cx G x own cc nL fr lo) {index : Nat} (w1 : Cond.methodLink own index arraycopyName ∈ hy_WT) (w2 : Cond.native arraycopyName ∈ hy_WT) (w3 : Cond.static arraycopyName ∈ hy_WT) (w4 : Cond.initialized "java/lang/System" ∈ hy_WT) (h1 : 1 ≤ fr) (h2 : 26 ≤ lo) (d : hy_dq cc pc (.invokestatic index) 3 = true) (k : hy_Sn G x nL (pc + 3) b f) : hy_Sn G x nL pc b (o_acpyS f) := by
  intro L S D ls H locs hL hH hS h
  obtain ⟨p, l, e, R, s, m, args, below, meth, c, cells, slots, Q⟩ := x
  obtain ⟨hx, hb, hml, hown, hts, hlk, hK, hfr, hlo, hce, hsl⟩ := X
  unfold o_acpyS at h
  split at h
  · rename_i n dp a1 sp a0 S'
    cases hca : Nat.beq a0 1000 && Nat.ble (hy_cat S') 8 with
    | false => rw [hca] at h; cases h
    | true =>
      rw [hca] at h
      dsimp only [cond_true] at h
      by_cases hi : hy_rng sp n 8 = true ∧ hy_rng dp n (hy_wl a1) = true
      · rw [if_pos hi] at h
        simp only [Bool.and_eq_true] at hca
        have ea : a0 = 1000 := Nat.eq_of_beq_eq_true hca.1
        subst ea
        obtain ⟨r1, r2, r3, -⟩ := hy_rng_spec hi.1
        obtain ⟨r4, -, r6, hz1⟩ := hy_rng_spec hi.2
        obtain ⟨rs1, hsh1⟩ := hy_wl_spec hz1
        have hlt1 := hy_sh_lt hsh1 (by omega)
        obtain ⟨scr, t1, t2, t3, t4, t5, t6, t7⟩ := hK.2.2.1
        have hsc : H[G.1 1000]? = some scr := by rw [hS.2.1 _ (Array.getElem?_eq_some_iff.mp t1).1 t7]; exact t1
        have hc1 : H[G.1 a1]? = some (vp_cell G.2.2.2.1 (hy_wl a1, .inl (D a1))) := by
          have := hH.1 a1 _ (hy_ws_get hlt1)
          rw [hy_E_0 hsh1] at this
          exact this
        obtain ⟨u1, k0, hk0, cm0, hkk0⟩ := t2
        obtain ⟨-, k1, hk1, cm1, hkk1⟩ := (hK.1.2 0 _ rfl).1 (hy_wl a1) (fun j => .int (D a1 j))
        have e0 := hy_cat_sum G.1 S'
        have e2 := Nat.le_of_ble_eq_true hca.2
        have e3 : nativeFrameWords "java/lang/System" "arraycopy" 5 = 7 := by decide +kernel
        have hval : ∀ i, i < n.toNatClampNeg → scr.slots.getD (sp.toNatClampNeg + i) .null = .int (nI (sp.toNatClampNeg + i)) := fun i hi9 => by
          rw [Array.getD_eq_getD_getElem?, t6 _ (by omega)]
          rfl
        intro T hT X
        obtain ⟨vm', X', step⟩ := X.arraycopy hx hown (hts _ w1) (hts _ w2) (hts _ w3) (hts _ w4) (src := G.1 1000) (dst := G.1 a1) (cs := scr) (cd := vp_cell G.2.2.2.1 (hy_wl a1, .inl (D a1))) (srcPos := sp) (destPos := dp) (n := n) (by rw [hT]; exact hsc) (by rw [hT]; exact hc1)
          u1 (fun _ h => by cases h) t3 (fun h => by cases h) hk0 hk1 hkk0 hkk1 rfl r1 r4 r2
          (by rw [hy_nn r1, hy_nn r2]; omega)
          (by rw [hy_nn r4, hy_nn r2]; show ¬ _ > ((arrV _ _ (fun j => .int (D a1 j))).slots.size : Int); rw [arrV_size]; omega)
          (fun vm₁ _ i hi9 => by rw [hval i hi9]; exact ⟨rfl, trivial⟩)
          (g := F0 m pc ls (.int n :: .int dp :: .ref (G.1 a1) :: .int sp :: .ref (G.1 1000) :: S'.map (hy_v G.1))) rfl (by rw [hml]; exact hL.1) (rest := S'.map (hy_v G.1)) rfl (by rw [hb]; exact hy_dqs d) (Nat.le_trans h1 hfr) (by rw [e3]; show 2 * 0 + _ + _ ≤ _; omega)
        have est : scr.stretch sp.toNatClampNeg n.toNatClampNeg = (arrV 0 8 (fun j => .int (nI j))).stretch sp.toNatClampNeg n.toNatClampNeg := by
          unfold Cell.stretch
          apply List.map_congr_left
          intro i hi9
          have hi8 := List.mem_range.mp hi9
          rw [hval i hi8, Array.getD_eq_getD_getElem?, arrV_read _ _ (by omega)]
          rfl
        have hcp : va_cpy (fun j => nI j) (D a1) sp.toNatClampNeg dp.toNatClampNeg n.toNatClampNeg = va_cpy (D 1000) (D a1) sp.toNatClampNeg dp.toNatClampNeg n.toNatClampNeg := by
          funext q
          unfold va_cpy
          by_cases hq : dp.toNatClampNeg ≤ q ∧ q < dp.toNatClampNeg + n.toNatClampNeg
          · rw [if_pos hq, if_pos hq, hH.2 _ (by omega)]
          · rw [if_neg hq, if_neg hq]
        have e1 : copied scr (vp_cell G.2.2.2.1 (hy_wl a1, .inl (D a1))) sp dp n = vp_cell G.2.2.2.1 (hy_wl a1, .inl (va_cpy (D 1000) (D a1) sp.toNatClampNeg dp.toNatClampNeg n.toNatClampNeg)) := by
          rw [← hcp]
          have := va_copied (fun z => Value.int z) 0 G.2.2.2.1 (n0 := 8) (n1 := hy_wl a1) (sp := sp.toNatClampNeg) (dp := dp.toNatClampNeg) (n := n.toNatClampNeg) (fun j => nI j) (D a1) r3
          rw [← est] at this
          exact this
        rw [e1] at X' step
        have hl : G.1 a1 < H.size := (Array.getElem?_eq_some_iff.mp hc1).1
        have hheap : ((T.setVm vm').setCell (G.1 a1) (vp_cell G.2.2.2.1 (hy_wl a1, .inl (va_cpy (D 1000) (D a1) sp.toNatClampNeg dp.toNatClampNeg n.toNatClampNeg)))).heap = H.setIfInBounds (G.1 a1) (vp_cell G.2.2.2.1 (hy_wl a1, .inl (va_cpy (D 1000) (D a1) sp.toNatClampNeg dp.toNatClampNeg n.toNatClampNeg))) := by rw [← hT]; rfl
        have oq : ∀ q : Nat, q ≠ G.1 a1 → (H.setIfInBounds (G.1 a1) (vp_cell G.2.2.2.1 (hy_wl a1, .inl (va_cpy (D 1000) (D a1) sp.toNatClampNeg dp.toNatClampNeg n.toNatClampNeg))))[q]? = H[q]? := fun q hq => by simp [Array.getElem?_setIfInBounds, Ne.symm hq]
        have hA1 : hy_A G (G.1 a1) := ⟨a1, hlt1, rfl⟩
        have hDw := hy_D hK.2.2.2.2.2 D
        have hP1 := hH.1.set hDw (p := a1) (e := .inl (G.2.2.2.1, hy_wl a1, .inl (va_cpy (D 1000) (D a1) sp.toNatClampNeg dp.toNatClampNeg n.toNatClampNeg))) (hy_ws_get hlt1) (show (H.setIfInBounds (G.1 a1) _)[G.1 a1]? = some _ by simp [Array.getElem?_setIfInBounds, hl]) oq
        obtain ⟨t, a1', b1'⟩ := k _ _ _ _ _ _ hL (hy_HR_put (D' := hy_cp D 1000 a1 sp.toNatClampNeg dp.toNatClampNeg n.toNatClampNeg) hH hlt1 (by rw [hy_E_0 hsh1]; simp [hy_cp]) (fun c' h9 => by simp [hy_cp, h9]) hP1) ⟨by simp; exact hS.1, fun q g1 g2 => by
          rw [oq q (fun e => g2 (by rw [e]; exact hA1))]
          exact hS.2.1 q g1 g2, fun q hq => by
          rcases List.mem_append.mp hq with h | h
          · exact hS.2.2 q h
          · obtain ⟨z, -, hz⟩ := List.mem_map.mp h
            rw [← hz]
            exact hA1⟩ h _ hheap X'
        exact ⟨t, step t a1', b1'⟩
      · rw [if_neg hi] at h
        cases h
  · cases h
