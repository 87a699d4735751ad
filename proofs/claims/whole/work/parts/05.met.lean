/-! ===== ends, methods ===== -/
def hy_Ri (G : hy_G) (x : hy_X) (b : Int32 × hy_M) (rt : FieldType) : Prop := match x with
  | (_, _, _, _, s, _, args, below, meth, _, cells, slots, Q) => Q = MQ below (hy_Qi G b.1 b.2) args s cells slots (hy_A G) ∧ meth.sig.returnType = some rt
def hy_Rl (G : hy_G) (x : hy_X) (b : Int64 × hy_M) : Prop := match x with
  | (_, _, _, _, s, _, args, below, meth, _, cells, slots, Q) => Q = MQ below (hy_Ql G b.1 b.2) args s cells slots (hy_A G) ∧ meth.sig.returnType = some .long
def hy_Rv (G : hy_G) (x : hy_X) (b : hy_M) : Prop := match x with
  | (_, _, _, _, s, _, args, below, meth, _, cells, slots, Q) => Q = MQ below (hy_Qv G b) args s cells slots (hy_A G) ∧ meth.sig.returnType = none
section HE
variable {G : hy_G} {x : hy_X} {own : String} {cc : ByteArray} {nL fr lo pc : Nat}
theorem hs_iret {b : Int32 × hy_M} (X : hy_Cx G x own cc nL fr lo) (r : hy_Ri G x b .int) (d : hy_dq cc pc .ireturn 1 = true) : hy_Sn G x nL pc b o_iret := by
  intro L S D ls H locs hL hH hS h
  obtain ⟨p, l, e, R, s, m, args, below, meth, c, cells, slots, Q⟩ := x
  obtain ⟨hx, hb, hml, hown, hts, hlk, hK, hfr, hlo, hce, hsl⟩ := X
  obtain ⟨rfl, hr⟩ := r
  unfold o_iret at h
  split at h
  · cases h
    exact W.iret hx hb hr (fun t ht hW => ⟨rfl, by rw [ht]; exact hH, hS.F ht⟩) hS.2.2 (hy_dqs d) hlk
  · cases h
theorem hs_zret {b : Int32 × hy_M} (X : hy_Cx G x own cc nL fr lo) (r : hy_Ri G x b .boolean) (d : hy_dq cc pc .ireturn 1 = true) : hy_Sn G x nL pc b o_zret := by
  intro L S D ls H locs hL hH hS h
  obtain ⟨p, l, e, R, s, m, args, below, meth, c, cells, slots, Q⟩ := x
  obtain ⟨hx, hb, hml, hown, hts, hlk, hK, hfr, hlo, hce, hsl⟩ := X
  obtain ⟨rfl, hr⟩ := r
  unfold o_zret at h
  split at h
  · rename_i v
    by_cases hv : v = 0 ∨ v = 1
    · rw [if_pos hv] at h
      cases h
      exact W.zret hx hb hr (by rcases hv with rfl | rfl <;> rfl) (fun t ht hW => ⟨rfl, by rw [ht]; exact hH, hS.F ht⟩) hS.2.2 (hy_dqs d) hlk
    · rw [if_neg hv] at h
      cases h
  · cases h
theorem hs_lret {b : Int64 × hy_M} (X : hy_Cx G x own cc nL fr lo) (r : hy_Rl G x b) (d : hy_dq cc pc .lreturn 1 = true) : hy_Sn G x nL pc b o_lret := by
  intro L S D ls H locs hL hH hS h
  obtain ⟨p, l, e, R, s, m, args, below, meth, c, cells, slots, Q⟩ := x
  obtain ⟨hx, hb, hml, hown, hts, hlk, hK, hfr, hlo, hce, hsl⟩ := X
  obtain ⟨rfl, hr⟩ := r
  unfold o_lret at h
  split at h
  · cases h
    exact W.lret hx hb hr (fun t ht hW => ⟨rfl, by rw [ht]; exact hH, hS.F ht⟩) hS.2.2 (hy_dqs d) hlk
  · cases h
theorem hs_vret {b : hy_M} (X : hy_Cx G x own cc nL fr lo) (r : hy_Rv G x b) (d : hy_dq cc pc .return_ 1 = true) : hy_Sn G x nL pc b o_vret := by
  intro L S D ls H locs hL hH hS h
  obtain ⟨p, l, e, R, s, m, args, below, meth, c, cells, slots, Q⟩ := x
  obtain ⟨hx, hb, hml, hown, hts, hlk, hK, hfr, hlo, hce, hsl⟩ := X
  obtain ⟨rfl, hr⟩ := r
  unfold o_vret at h
  split at h
  · cases h
    exact W.vret hx hb hr (fun t ht hW => ⟨rfl, by rw [ht]; exact hH, hS.F ht⟩) hS.2.2 (hy_dqs d) hlk
  · cases h
end HE
theorem hy_lg_len : ∀ (ad : Nat → Nat) (a : List Value), (lg_sl (a.map (hy_v ad))).length = hy_wd a
  | ad, [] => rfl
  | ad, v :: a => by
    have ih := hy_lg_len ad a
    simp only [lg_sl, List.map_cons, List.flatMap_cons, List.length_append, hy_wd, hy_v_cat] at ih ⊢
    rw [ih]
    rcases lv_cat v with h | h <;> simp [h]
theorem hy_lget_rep : ∀ (k i : Nat), hy_lget i (List.replicate k none) = none
  | 0, i => by cases i <;> rfl
  | k + 1, 0 => rfl
  | k + 1, i + 1 => by simp only [List.replicate_succ, hy_lget]; exact hy_lget_rep k i
theorem hy_lo_args (ad : Nat → Nat) (k : Nat) : ∀ (a : List Value) (i j : Nat) (v : Value), hy_lget i (hy_lo a ++ List.replicate k none) = some v → (j + i, hy_v ad v) ∈ lv_args j (a.map (hy_v ad)) := by
  intro a
  induction a with
  | nil =>
    intro i j v h
    simp only [hy_lo, List.nil_append] at h
    rw [hy_lget_rep] at h
    cases h
  | cons w a ih =>
    intro i j v h
    have one : ∀ (hc : w.category = 1) (hl : hy_lo (w :: a) = some w :: hy_lo a), (j + i, hy_v ad v) ∈ lv_args j ((w :: a).map (hy_v ad)) := by
      intro hc hl
      rw [hl] at h
      simp only [List.map_cons, lv_args, hy_v_cat, hc]
      cases i with
      | zero =>
        simp only [List.cons_append, hy_lget, Option.some.injEq] at h
        subst h
        exact List.mem_cons_self
      | succ i =>
        simp only [List.cons_append, hy_lget] at h
        have := ih i (j + 1) v h
        rw [show j + 1 + i = j + (i + 1) by omega] at this
        exact List.mem_cons_of_mem _ (by simpa using this)
    have two : ∀ (hc : w.category = 2) (hl : hy_lo (w :: a) = some w :: none :: hy_lo a), (j + i, hy_v ad v) ∈ lv_args j ((w :: a).map (hy_v ad)) := by
      intro hc hl
      rw [hl] at h
      simp only [List.map_cons, lv_args, hy_v_cat, hc]
      cases i with
      | zero =>
        simp only [List.cons_append, hy_lget, Option.some.injEq] at h
        subst h
        exact List.mem_cons_self
      | succ i =>
        cases i with
        | zero => simp [hy_lget] at h
        | succ i =>
          simp only [List.cons_append, hy_lget] at h
          have := ih i (j + 2) v h
          rw [show j + 2 + i = j + (i + 1 + 1) by omega] at this
          exact List.mem_cons_of_mem _ (by simpa using this)
    cases w with
    | long z => exact two rfl rfl
    | double z => exact two rfl rfl
    | int z => exact one rfl rfl
    | float z => exact one rfl rfl
    | null => exact one rfl rfl
    | ref z => exact one rfl rfl
    | retAddr z => exact one rfl rfl
theorem hy_entry {ad : Nat → Nat} {a : List Value} {nL : Nat} (h : hy_wd a ≤ nL) : hy_LR ad nL (hy_lo a ++ List.replicate (nL - hy_wd a) none) ((lg_sl (a.map (hy_v ad)) ++ List.replicate (nL - (lg_sl (a.map (hy_v ad))).length) Slot.unset).toArray) := by
  have hl := lv_entry (a.map (hy_v ad)) (n := nL) (by rw [hy_lg_len]; exact h)
  refine ⟨hl.1, hl.2.1, fun i v hi => ?_⟩
  have := hl.2.2 _ (hy_lo_args ad _ a i 0 v hi)
  simpa using this
section HT
variable {G : hy_G} {y : MethodName} {cc : ByteArray} {nL fr lo : Nat}
theorem hy_meti {rt : FieldType} {f : hy_C (Int32 × hy_M)} (hp : plainName y.cls = true) (body : ∀ (x : hy_X) (b : Int32 × hy_M), hy_Cx G x y.cls cc nL fr lo → hy_Ri G x b rt → hy_Sn G x nL 0 b f) : ∀ l, hy_Mi l G y cc nL rt fr lo (hy_g nL f) := by
  intro l a D D' r hg
  refine Met.ofW (cc := cc) (maxL := nL) (ret := some rt) hp rfl ?_
  intro p e s m args below meth c s₁ B hml hv
  obtain ⟨rfl, hH, hK⟩ := hv
  have hts := atoms_spec (ws := Cond.code y cc nL (some rt) :: hy_WT) B.pre
  unfold hy_g at hg
  cases hle : Nat.ble (hy_wd a) nL with
  | false => rw [hle] at hg; cases hg
  | true =>
    rw [hle] at hg
    rw [lg_entry_eq]
    exact body (p, l, e, _, s, m, _, below, meth, c, 0, 0, _) (r, D') ⟨B.exec, B.bytes, hml, findClass_of_methodNamed B.named, fun w hw => hts w (List.mem_cons_of_mem _ hw), B.notSynchronized, hK, Nat.le_refl _, Nat.le_refl _, Nat.zero_le _, Nat.zero_le _⟩ ⟨rfl, B.returns⟩ _ [] D _ s.heap [] (hy_entry (Nat.le_of_ble_eq_true hle)) hH va_S.rf hg
theorem hy_metl {f : hy_C (Int64 × hy_M)} (hp : plainName y.cls = true) (body : ∀ (x : hy_X) (b : Int64 × hy_M), hy_Cx G x y.cls cc nL fr lo → hy_Rl G x b → hy_Sn G x nL 0 b f) : ∀ l, hy_Ml l G y cc nL fr lo (hy_g nL f) := by
  intro l a D D' r hg
  refine Met.ofW (cc := cc) (maxL := nL) (ret := some .long) hp rfl ?_
  intro p e s m args below meth c s₁ B hml hv
  obtain ⟨rfl, hH, hK⟩ := hv
  have hts := atoms_spec (ws := Cond.code y cc nL (some .long) :: hy_WT) B.pre
  unfold hy_g at hg
  cases hle : Nat.ble (hy_wd a) nL with
  | false => rw [hle] at hg; cases hg
  | true =>
    rw [hle] at hg
    rw [lg_entry_eq]
    exact body (p, l, e, _, s, m, _, below, meth, c, 0, 0, _) (r, D') ⟨B.exec, B.bytes, hml, findClass_of_methodNamed B.named, fun w hw => hts w (List.mem_cons_of_mem _ hw), B.notSynchronized, hK, Nat.le_refl _, Nat.le_refl _, Nat.zero_le _, Nat.zero_le _⟩ ⟨rfl, B.returns⟩ _ [] D _ s.heap [] (hy_entry (Nat.le_of_ble_eq_true hle)) hH va_S.rf hg
theorem hy_metv {f : hy_C hy_M} (hp : plainName y.cls = true) (body : ∀ (x : hy_X) (b : hy_M), hy_Cx G x y.cls cc nL fr lo → hy_Rv G x b → hy_Sn G x nL 0 b f) : ∀ l, hy_Mv l G y cc nL fr lo (hy_g nL f) := by
  intro l a D D' hg
  refine Met.ofW (cc := cc) (maxL := nL) (ret := none) hp rfl ?_
  intro p e s m args below meth c s₁ B hml hv
  obtain ⟨rfl, hH, hK⟩ := hv
  have hts := atoms_spec (ws := Cond.code y cc nL none :: hy_WT) B.pre
  unfold hy_g at hg
  cases hle : Nat.ble (hy_wd a) nL with
  | false => rw [hle] at hg; cases hg
  | true =>
    rw [hle] at hg
    rw [lg_entry_eq]
    exact body (p, l, e, _, s, m, _, below, meth, c, 0, 0, _) D' ⟨B.exec, B.bytes, hml, findClass_of_methodNamed B.named, fun w hw => hts w (List.mem_cons_of_mem _ hw), B.notSynchronized, hK, Nat.le_refl _, Nat.le_refl _, Nat.zero_le _, Nat.zero_le _⟩ ⟨rfl, B.returns⟩ _ [] D _ s.heap [] (hy_entry (Nat.le_of_ble_eq_true hle)) hH va_S.rf hg
end HT
/-! ===== a table of branches ===== -/
def hy_tabS (G : hy_G) (x : hy_X) (nL pc : Nat) {β : Type} (b : β) : Nat → List Int → List (Int32 × hy_C β) → Prop
  | _, [], [] => True
  | i, off :: os, (k, f) :: ks => (k = nI i ∧ ∃ tgt : Nat, (pc : Int) + off = (tgt : Int) ∧ hy_Sn G x nL tgt b f) ∧ hy_tabS G x nL pc b (i + 1) os ks
  | _, _, _ => False
theorem hs_tabN {G : hy_G} {x : hy_X} {nL pc : Nat} {β : Type} {b : β} {i : Nat} : hy_tabS G x nL pc b i [] ([] : List (Int32 × hy_C β)) := trivial
theorem hs_tabC {G : hy_G} {x : hy_X} {nL pc : Nat} {β : Type} {b : β} {i : Nat} {off : Int} {os : List Int} {v : Int32} {f : hy_C β} {ks : List (Int32 × hy_C β)} {tgt : Nat} (hv : v = nI i) (ht : (pc : Int) + off = (tgt : Int)) (k : hy_Sn G x nL tgt b f) (r : hy_tabS G x nL pc b (i + 1) os ks) : hy_tabS G x nL pc b i (off :: os) ((v, f) :: ks) := ⟨⟨hv, tgt, ht, k⟩, r⟩
theorem hy_tab_find {G : hy_G} {x : hy_X} {nL pc : Nat} {β : Type} {b : β} {z : Int32} {L : hy_L} {S : List Value} {D : hy_M} {d : hy_C β} : ∀ (ks : List (Int32 × hy_C β)) (os : List Int) (i : Nat), hy_tabS G x nL pc b i os ks → hy_tab z L S D d ks = some b →
    (∃ (j : Nat) (off : Int) (tgt : Nat) (f : hy_C β), os[j]? = some off ∧ z = nI (i + j) ∧ (pc : Int) + off = (tgt : Int) ∧ hy_Sn G x nL tgt b f ∧ f L S D = some b) ∨ ((∀ j, j < os.length → z ≠ nI (i + j)) ∧ d L S D = some b)
  | [], [], i, _, h => Or.inr ⟨fun j hj => by simp at hj, h⟩
  | [], _ :: _, i, hs, _ => hs.elim
  | _ :: _, [], i, hs, _ => hs.elim
  | (v, f) :: ks, off :: os, i, hs, h => by
    obtain ⟨⟨hv, tgt, ht, hk⟩, hr⟩ := hs
    unfold hy_tab at h
    by_cases e : z = v
    · rw [if_pos e] at h
      exact Or.inl ⟨0, off, tgt, f, rfl, by rw [e, hv]; rfl, ht, hk, h⟩
    · rw [if_neg e] at h
      rcases hy_tab_find ks os (i + 1) hr h with ⟨j, off', tgt', f', h1, h2, h3, h4, h5⟩ | ⟨h1, h2⟩
      · exact Or.inl ⟨j + 1, off', tgt', f', by simpa using h1, by rw [h2]; congr 1; omega, h3, h4, h5⟩
      · refine Or.inr ⟨fun j hj => ?_, h2⟩
        cases j with
        | zero => rw [Nat.add_zero, ← hv]; exact e
        | succ j =>
          have := h1 j (by simpa using hj)
          rw [show i + 1 + j = i + (j + 1) by omega] at this
          exact this
theorem hs_tab {G : hy_G} {x : hy_X} {own : String} {cc : ByteArray} {nL fr lo pc : Nat} {β : Type} {b : β} (X : hy_Cx G x own cc nL fr lo) {dflt hi : Int} {os : List Int} {len tgt : Nat} {ks : List (Int32 × hy_C β)} {dd : hy_C β} (d : hy_dq cc pc (.tableswitch dflt 0 hi os.toArray) len = true) (hhi : hi + 1 = (os.length : Int)) (hsm : os.length < 1000) (ht : (pc : Int) + dflt = (tgt : Int)) (kd : hy_Sn G x nL tgt b dd) (ks' : hy_tabS G x nL pc b 0 os ks) : hy_Sn G x nL pc b (o_tab ks dd) := by
  intro L S D ls H locs hL hH hS h
  obtain ⟨p, l, e, R, s, m, args, below, meth, c, cells, slots, Q⟩ := x
  obtain ⟨hx, hb, hml, hown, hts, hlk, hK, hfr, hlo, hce, hsl⟩ := X
  unfold o_tab at h
  split at h
  · rename_i z S'
    rcases hy_tab_find ks os 0 ks' h with ⟨j, off, tgt', f, h1, h2, h3, h4, h5⟩ | ⟨h1, h2⟩
    · have hj : j < os.length := (List.getElem?_eq_some_iff.mp h1).1
      have hz : z.toInt = (j : Int) := by rw [h2, Nat.zero_add]; exact nI_toInt (by omega)
      exact lv_tableIn hx hb (hy_dqs d) (by omega) (by omega) (by rw [hz]; simpa using h1) h3 (h4 _ _ _ _ _ _ hL hH hS h5)
    · refine lv_tableOut hx hb (hy_dqs d) ?_ ht (kd _ _ _ _ _ _ hL hH hS h2)
      by_cases hz : z.toInt < 0
      · exact Or.inl hz
      · right
        apply Classical.byContradiction
        intro hn
        obtain ⟨j, hj⟩ : ∃ j : Nat, z.toInt = (j : Int) := ⟨z.toInt.toNat, by omega⟩
        refine h1 j (by omega) ?_
        rw [Nat.zero_add]
        apply Int32.toInt_inj.mp
        rw [hj, nI_toInt (by omega)]
  · cases h
/-! ===== Math.max, Math.min ===== -/
def o_imax {β : Type} (f : hy_C β) : hy_C β := fun L S D => match S with
  | .int y :: .int z :: S' => bif Nat.ble (hy_cat S') 8 then f L (.int (if z < y then y else z) :: S') D else none
  | _ => none
def o_imin {β : Type} (f : hy_C β) : hy_C β := fun L S D => match S with
  | .int y :: .int z :: S' => bif Nat.ble (hy_cat S') 8 then f L (.int (if y < z then y else z) :: S') D else none
  | _ => none
theorem hs_imax {G : hy_G} {x : hy_X} {own : String} {cc : ByteArray} {nL fr lo pc : Nat} {β : Type} {b : β} {f : hy_C β} (X : hy_Cx G x own cc nL fr lo) {index : Nat} (w1 : Cond.methodLink own index Lib.Math.max.name ∈ hy_WT) (w2 : Cond.static Lib.Math.max.name ∈ hy_WT) (w3 : Cond.initialized "java/lang/Math" ∈ hy_WT) (w4 : Cond.code Lib.Math.max.name Lib.Math.max.code 2 (some .int) ∈ hy_WT) (h1 : 1 ≤ fr) (h2 : 21 ≤ lo) (d : hy_dq cc pc (.invokestatic index) 3 = true) (k : hy_Sn G x nL (pc + 3) b f) : hy_Sn G x nL pc b (o_imax f) := by
  intro L S D ls H locs hL hH hS h
  obtain ⟨p, l, e, R, s, m, args, below, meth, c, cells, slots, Q⟩ := x
  obtain ⟨hx, hb, hml, hown, hts, hlk, hK, hfr, hlo, hce, hsl⟩ := X
  unfold o_imax at h
  split at h
  · rename_i y z S'
    cases hca : Nat.ble (hy_cat S') 8 with
    | false => rw [hca] at h; cases h
    | true =>
      rw [hca] at h
      have e1 := hy_cat_sum G.1 S'
      have e2 := Nat.le_of_ble_eq_true hca
      exact va_mmax hx hb (hml.trans hL.1.symm) hown (hts _ w1) (hts _ w2) (hts _ w3) (hts _ w4) (Nat.le_trans h1 hfr) (by omega) hce hsl (hy_dqs d) (k _ _ _ _ _ _ hL hH hS h)
  · cases h
theorem hs_imin {G : hy_G} {x : hy_X} {own : String} {cc : ByteArray} {nL fr lo pc : Nat} {β : Type} {b : β} {f : hy_C β} (X : hy_Cx G x own cc nL fr lo) {index : Nat} (w1 : Cond.methodLink own index Lib.Math.min.name ∈ hy_WT) (w2 : Cond.static Lib.Math.min.name ∈ hy_WT) (w3 : Cond.initialized "java/lang/Math" ∈ hy_WT) (w4 : Cond.code Lib.Math.min.name Lib.Math.min.code 2 (some .int) ∈ hy_WT) (h1 : 1 ≤ fr) (h2 : 21 ≤ lo) (d : hy_dq cc pc (.invokestatic index) 3 = true) (k : hy_Sn G x nL (pc + 3) b f) : hy_Sn G x nL pc b (o_imin f) := by
  intro L S D ls H locs hL hH hS h
  obtain ⟨p, l, e, R, s, m, args, below, meth, c, cells, slots, Q⟩ := x
  obtain ⟨hx, hb, hml, hown, hts, hlk, hK, hfr, hlo, hce, hsl⟩ := X
  unfold o_imin at h
  split at h
  · rename_i y z S'
    cases hca : Nat.ble (hy_cat S') 8 with
    | false => rw [hca] at h; cases h
    | true =>
      rw [hca] at h
      have e1 := hy_cat_sum G.1 S'
      have e2 := Nat.le_of_ble_eq_true hca
      exact va_mmin hx hb (hml.trans hL.1.symm) hown (hts _ w1) (hts _ w2) (hts _ w3) (hts _ w4) (Nat.le_trans h1 hfr) (by omega) hce hsl (hy_dqs d) (k _ _ _ _ _ _ hL hH hS h)
  · cases h
