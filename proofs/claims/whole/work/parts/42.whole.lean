/-! ===== the law from its entry ===== -/
/-- WHAT IS LEFT, in pure words: on every script the two answer alike -/
def hy_main : Prop := ∀ (SL : Nat) (sx : Nat → Int32), SL ≤ 3072 → b_L_law_18 1000000000000 SL sx 600 [some (.ref 1001), some (.ref 0), some (.ref 67), some (.int 0)] [] hz_fin.2.1 = some ()
theorem hy_wt_in {w : Cond} (h : w ∈ hy_WT) : w ∈ lw_tbl := (List.mem_filter.mp h).1
theorem hy_tb_in {w : Cond} {i : Nat} (h : tables_1[i]? = some w) : w ∈ lw_tbl := List.mem_append_right _ (List.mem_of_getElem? h)
theorem hy_knc {ci : Nat} {C : String} {T : u_T} {N : Nat} {ty : Nat → FieldType} {args : Array Value} {s : State} (h : hy_cls ci C T N ty) (hts : ∀ w ∈ hy_WT, w.before args s = true) (hi : Cond.instantiable C N ∈ hy_WT) : ∃ (c : ClassId) (iS : Nat → Nat), u_Kn s C T N c iS := u_known (n := N) hts h.2.1 (hts _ hi)
set_option maxHeartbeats 4000000 in
set_option maxRecDepth 100000 in
theorem whole_open (hmain : hy_main) {p : Program} {e : Env} {s : State} {m : MethodId} {below : List Frame} {meth : Method} {c : Code} (l : Launch) {b L : Nat} {xs : Nat → Int32} (hL : L ≤ 3072) (C0 : lw_At p s m meth c b L xs) : W p l e room_1 s m #[Value.ref b] below meth c s.heap [] 0 0 (lw_Z below #[Value.ref b] s) (entryFrame m ([Value.ref b] : List Value).toArray 4) := by
  obtain ⟨hx, hb, hr, hml, hown, hts0, hX, hbl, hlocks, hgv⟩ := C0
  have hts : ∀ w ∈ hy_WT, w.before #[Value.ref b] s = true := fun w hw => hts0 w (hy_wt_in hw)
  have hs := flat_of_before _ hgv
  -- the static array
  have hTA : ∃ t : Nat, (Term.static "HumpYard" "AS_THEY_COME" "[I").eval #[Value.ref b] s none [] s = some (.ref t) ∧ va_T .int t 8 (fun j => .int (nI j)) (fun q => s.heap.size ≤ q) s s.heap := by
    refine va_Tof (tm := .static "HumpYard" "AS_THEY_COME" "[I") (ty := .int) (N := 8) (by decide) (hs _ (by decide +kernel)) (va_eqt (hs _ (by decide +kernel))) (fun j hj => ?_) (fun a ha => Nat.not_le.mpr ha)
    match j, hj with
    | 0, _ => exact va_eqt (hs (Cond.eq (.elem (.static "HumpYard" "AS_THEY_COME" "[I") (.int 0)) (.int 0)) (by decide +kernel))
    | 1, _ => exact va_eqt (hs (Cond.eq (.elem (.static "HumpYard" "AS_THEY_COME" "[I") (.int 1)) (.int 1)) (by decide +kernel))
    | 2, _ => exact va_eqt (hs (Cond.eq (.elem (.static "HumpYard" "AS_THEY_COME" "[I") (.int 2)) (.int 2)) (by decide +kernel))
    | 3, _ => exact va_eqt (hs (Cond.eq (.elem (.static "HumpYard" "AS_THEY_COME" "[I") (.int 3)) (.int 3)) (by decide +kernel))
    | 4, _ => exact va_eqt (hs (Cond.eq (.elem (.static "HumpYard" "AS_THEY_COME" "[I") (.int 4)) (.int 4)) (by decide +kernel))
    | 5, _ => exact va_eqt (hs (Cond.eq (.elem (.static "HumpYard" "AS_THEY_COME" "[I") (.int 5)) (.int 5)) (by decide +kernel))
    | 6, _ => exact va_eqt (hs (Cond.eq (.elem (.static "HumpYard" "AS_THEY_COME" "[I") (.int 6)) (.int 6)) (by decide +kernel))
    | 7, _ => exact va_eqt (hs (Cond.eq (.elem (.static "HumpYard" "AS_THEY_COME" "[I") (.int 7)) (.int 7)) (by decide +kernel))
    | j + 8, h => omega
  obtain ⟨tA, htA, hTT⟩ := hTA
  have hZZ : va_Z "HumpYard" "AS_THEY_COME" "[I" (.ref tA) (fun q => s.heap.size ≤ q) s s.heap := va_Zof (hts0 _ (hy_tb_in (i := 329) (by decide +kernel))) (hts0 _ (hy_tb_in (i := 1) (by decide +kernel))) htA (fun a ha => Nat.not_le.mpr ha)
  -- the classes
  obtain ⟨c0, i0, k0⟩ := hy_knc cls_0 hts (hy_in_tb (i := 153) (by decide +kernel) rfl)
  obtain ⟨c1, i1, k1⟩ := hy_knc cls_1 hts (hy_in_tb (i := 31) (by decide +kernel) rfl)
  obtain ⟨c2, i2, k2⟩ := hy_knc cls_2 hts (hy_in_tb (i := 137) (by decide +kernel) rfl)
  obtain ⟨c3, i3, k3⟩ := hy_knc cls_3 hts (hy_in_tb (i := 122) (by decide +kernel) rfl)
  obtain ⟨c4, i4, k4⟩ := hy_knc cls_4 hts (hy_in_tb (i := 185) (by decide +kernel) rfl)
  obtain ⟨c5, i5, k5⟩ := hy_knc cls_5 hts (hy_in_tb (i := 106) (by decide +kernel) rfl)
  obtain ⟨c6, i6, k6⟩ := hy_knc cls_6 hts (hy_in_tb (i := 23) (by decide +kernel) rfl)
  obtain ⟨c7, i7, k7⟩ := hy_knc cls_7 hts (hy_in_tb (i := 15) (by decide +kernel) rfl)
  obtain ⟨c8, i8, k8⟩ := hy_knc cls_8 hts (hy_in_tb (i := 714) (by decide +kernel) rfl)
  obtain ⟨dC, dI, hKc⟩ : ∃ (dC : Nat → ClassId) (dI : Nat → Nat → Nat), ∀ (k : Nat) (q : vw_C), vwCl[k]? = some q → u_Kn s q.1 q.2.1 q.2.2 (dC k) (dI k) := by
    refine ⟨fun k => match k with | 0 => c0 | 1 => c1 | 2 => c2 | 3 => c3 | 4 => c4 | 5 => c5 | 6 => c6 | 7 => c7 | _ => c8, fun k => match k with | 0 => i0 | 1 => i1 | 2 => i2 | 3 => i3 | 4 => i4 | 5 => i5 | 6 => i6 | 7 => i7 | _ => i8, ?_⟩
    intro k q hq
    match k, hq with
    | 0, hq => cases hq; exact k0
    | 1, hq => cases hq; exact k1
    | 2, hq => cases hq; exact k2
    | 3, hq => cases hq; exact k3
    | 4, hq => cases hq; exact k4
    | 5, hq => cases hq; exact k5
    | 6, hq => cases hq; exact k6
    | 7, hq => cases hq; exact k7
    | 8, hq => cases hq; exact k8
    | k + 9, hq => simp [vwCl] at hq
  -- the array classes
  obtain ⟨cI, kI, compI, a1, a2, a3⟩ := Cond.arrayClass_spec (hts _ ia_c)
  have hover : (Cond.arrayOver (.array .int)).before #[Value.ref b] s = true := hts0 _ (hy_tb_in (i := 29) (by decide +kernel))
  obtain ⟨comp2, cII, kII, b1, -, b3, b4, b5⟩ := arrayOverA_spec hover
  have hAI : ArrOfT s cI .int := fun N z => ⟨(fun q hq => by cases hq), kI, a2, compI, a3⟩
  have hAII : ArrOfT s cII (.array .int) := fun N z => ⟨(fun q hq => by cases hq), kII, b3, comp2, b4⟩
  have hvK : va_K (dC, dI) vwCl [(cI, .int), (cII, .array .int)] s := by
    refine ⟨hKc, fun k q hq => ?_⟩
    match k, hq with
    | 0, hq => cases hq; exact ⟨hAI, a1⟩
    | 1, hq => cases hq; exact ⟨hAII, b5⟩
    | k + 2, hq => simp at hq
  -- the addresses
  obtain ⟨ad, hadN, hadT, hadS⟩ : ∃ ad : Nat → Nat, (∀ c, c < 1000 → ad c = s.heap.size + c) ∧ ad 1000 = tA ∧ ad 1001 = b := ⟨fun c => if c < 1000 then s.heap.size + c else if c = 1000 then tA else b, fun c hc => if_pos hc, rfl, rfl⟩
  obtain ⟨G, hG⟩ : ∃ G : hy_G, G = (ad, dC, dI, cI, cII) := ⟨_, rfl⟩
  have g1 : ∀ c, c < 1000 → G.1 c = s.heap.size + c := by rw [hG]; exact hadN
  have g2 : G.1 1000 = tA := by rw [hG]; exact hadT
  have g3 : G.1 1001 = b := by rw [hG]; exact hadS
  have g4 : va_K (G.2.1, G.2.2.1) vwCl [(G.2.2.2.1, .int), (G.2.2.2.2, .array .int)] s := by rw [hG]; exact hvK
  have g0 : G.1 0 = s.heap.size := by rw [g1 0 (by omega)]; omega
  have hAle : ∀ q, hy_A G q → s.heap.size ≤ q := fun q ⟨c9, h9, e9⟩ => by rw [← e9, g1 c9 (by omega)]; omega
  have hinj : hy_inj G := fun i j hi hj h9 => by rw [g1 i (by omega), g1 j (by omega)] at h9; omega
  have hyK : hy_K G s := ⟨g4, by rw [g2]; exact hZZ.narrow hAle, by rw [g2]; exact hTT.narrow hAle, va_Nw.of rfl (hts0 hy_nestY (hy_tb_in (i := 328) (by decide +kernel))), va_Nw.of rfl (hts0 hy_nestR (hy_tb_in (i := 616) (by decide +kernel))), hinj⟩
  have hzK : hz_K G s := ⟨g4, fun c9 h9 => by rw [g1 c9 h9, g0], over_moved (Vm.Alike.refl s.vm) hover, va_Nw.of rfl (hts0 _ (hy_tb_in (i := 32) (by decide +kernel))), va_Nw.of rfl (hts0 _ (hy_tb_in (i := 107) (by decide +kernel))), va_Nw.of rfl (hts0 _ (hy_tb_in (i := 123) (by decide +kernel))), va_Nw.of rfl (hts0 _ (hy_tb_in (i := 154) (by decide +kernel))), va_Nw.of rfl (hts0 _ (hy_tb_in (i := 186) (by decide +kernel))), va_Nw.of rfl (hts0 _ (hy_tb_in (i := 211) (by decide +kernel)))⟩
  have hXb : hy_XS G (p, l, e, room_1, s, m, #[Value.ref b], below, meth, c, 0, 0, lw_Z below #[Value.ref b] s) L xs := by
    refine ⟨by rw [g3]; exact hX, by rw [g3]; exact hbl, fun h9 => ?_⟩
    have := hAle _ h9
    rw [g3] at this
    omega
  have h18 : hz_at18 G (p, l, e, room_1, s, m, #[Value.ref b], below, meth, c, 0, 0, lw_Z below #[Value.ref b] s) hz_fin := by
    intro cu su ls H locs hcu hsu hLR hHR hS
    show W p l e room_1 s m #[Value.ref b] below meth c H locs cu su (lw_Z below #[Value.ref b] s) (F0 m 18 ls [])
    have hf : hz_fin = (81, hz_fin.2.1, hz_fin.2.2) := by
      have := hz_fin_n
      cases hq : hz_fin with
      | mk a r =>
        rw [hq] at this
        cases r
        dsimp only at this
        rw [this]
    rw [hf] at hHR
    have hH2 := hz_to hHR hz_fin_P hz_fin_8
    refine va_forget (fun q hq => ?_) ?_
    · have h4 : G.1 0 ≤ q.base := hS.2.2 q hq
      rw [g0] at h4
      exact h4
    have hS2 : va_S (hy_A G) s.heap H [] := by
      refine ⟨hS.1, fun q h1 h2 => hS.2.1 q h1 (fun h3 => ?_), fun q hq => by cases hq⟩
      have h4 : G.1 0 ≤ q := h3
      rw [g0] at h4
      omega
    exact s_L_law_18 (N := 1000000000000) (x := (p, l, e, room_1, s, m, #[Value.ref b], below, meth, c, cu, su, lw_Z below #[Value.ref b] s)) (SL := L) (sx := xs) ⟨hx, hb, hml, hown, hts, hlocks, hyK, Nat.le_refl _, Nat.le_refl _, hcu, hsu⟩ ⟨⟨b, rfl, rfl⟩, rfl, hr, hcu, hsu, fun c9 h9 => by rw [g1 c9 (by omega)]; omega⟩ hXb 600 _ [] _ ls H [] hLR hH2 hS2 (hmain L xs hL)
  have hl := lv_entry ([.ref b]) (n := 4) (Nat.le_of_ble_eq_true rfl)
  rw [lg_entry_eq]
  refine t_L_0 (G := G) (x := (p, l, e, room_1, s, m, #[Value.ref b], below, meth, c, 0, 0, lw_Z below #[Value.ref b] s)) (b := hz_fin) ⟨hx, hb, hml, hown, hts, hlocks, hzK, Nat.le_refl _, Nat.le_refl _, Nat.le_refl _, Nat.le_refl _⟩ h18 [some (.ref 1001), none, none, none] [] 0 0 hz_q0 _ s.heap [] ⟨hl.1, hl.2.1, fun i v hi => ?_⟩ ⟨by rw [g0]; rfl, fun k q h9 => by simp [hz_ws, hz_q0] at h9, by decide⟩ va_S.rf hz_fin_eq
  match i, hi with
  | 0, hi =>
    simp only [hy_lget, Option.some.injEq] at hi
    subst hi
    have := hl.2.2 (0, .ref b) (by simp [lv_args])
    show _ = some (Slot.val (Value.ref (G.1 1001)))
    rw [g3]
    exact this
  | 1, hi => simp [hy_lget] at hi
  | 2, hi => simp [hy_lget] at hi
  | 3, hi => simp [hy_lget] at hi
  | i + 4, hi => simp [hy_lget] at hi
