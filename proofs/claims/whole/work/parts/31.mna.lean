/-! ===== rows of rows ===== -/
theorem hz_rows_spec : ∀ (N c : Nat) (q : hz_S), (hz_rows N c q).1 = q.1 + N ∧ (∀ c', c' < c → (hz_rows N c q).2.1 c' = q.2.1 c' ∧ (hz_rows N c q).2.2 c' = q.2.2 c') ∧ ∀ c', c ≤ c' → c' < c + N → (hz_rows N c q).2.1 c' = fun _ => 0
  | 0, c, q => ⟨rfl, fun c' _ => ⟨rfl, rfl⟩, fun c' h1 h2 => by omega⟩
  | N + 1, c, q => by
    obtain ⟨h1, h2, h3⟩ := hz_rows_spec N (c + 1) (q.1 + 1, hz_row q.2.1 c (fun _ => 0), hz_row q.2.2 c (fun _ => none))
    refine ⟨?_, fun c' hc => ?_, fun c' g1 g2 => ?_⟩
    · show (hz_rows N (c + 1) _).1 = _
      rw [h1]
      show q.1 + 1 + N = _
      omega
    · obtain ⟨a1, a2⟩ := h2 c' (by omega)
      exact ⟨a1.trans (hz_row_ne (by omega)), a2.trans (hz_row_ne (by omega))⟩
    · by_cases e : c' = c
      · subst e
        exact (h2 c' (by omega)).1.trans hz_row_same
      · exact h3 c' (by omega) (by omega)
theorem hz_rowsOk_spec {k : Nat} : ∀ (N c : Nat), hz_rowsOk k N c = true → ∀ c', c ≤ c' → c' < c + N → ∃ rs, hy_sh c' = (0, k, rs)
  | 0, c, _, c', h1, h2 => by omega
  | N + 1, c, h, c', h1, h2 => by
    unfold hz_rowsOk at h
    simp only [Bool.and_eq_true] at h
    by_cases e : c' = c
    · subst e
      have h0 := h.1
      split at h0
      · rename_i k' rs hsh
        have : k = k' := Nat.eq_of_beq_eq_true h0
        subst this
        exact ⟨rs, hsh⟩
      · cases h0
    · exact hz_rowsOk_spec N (c + 1) h.2 c' (by omega) (by omega)
theorem hz_outer (c : ClassId) (N h0 : Nat) : ∀ i : Nat, Jvm.Free.Multi.outerC c N h0 i = arrV c N (fun j => va_rf (if j < i then some (h0 + 1 + j) else none))
  | 0 => by
    show ({ cls := c, slots := Array.replicate N .null, vm := .none } : Cell) = _
    rw [arrV_new]
    refine congrArg (arrV c N) (funext fun j => ?_)
    simp [va_rf]
  | i + 1 => by
    show (Jvm.Free.Multi.outerC c N h0 i).setSlot i (.ref (h0 + 1 + i)) = _
    rw [hz_outer c N h0 i, arrV_store]
    refine congrArg (arrV c N) (funext fun j => ?_)
    by_cases e : j = i
    · subst e
      simp [updV, va_rf]
    · by_cases h : j < i
      · simp [updV, e, h, Nat.lt_succ_of_lt h]
      · simp [updV, e, h, show ¬ j < i + 1 by omega]
theorem hz_mna {G : hy_G} {x : hy_X} {own : String} {cc : ByteArray} {nL fr lo mc ms pc : Nat} {b : hz_S} {f : hz_C} (X : hz_Cx G x own cc nL fr lo mc ms) {index : Nat} (w1 : Cond.classLink own index "[[I" ∈ hy_WT) (w2 : Cond.arrayClass .int ∈ hy_WT) (d : hy_dq cc pc (.multianewarray index 2) 4 = true) (k : hz_Sn G x nL (pc + 4) b f) : hz_Sn G x nL pc b (z_mna mc ms f) := by
  intro L S cu su q ls H locs hL hH hS h
  obtain ⟨p, l, e, R, s, m, args, below, meth, c, c0, s0, Q⟩ := x
  obtain ⟨hx, hb, hml, hown, hts, hlk, hK, hfr, hlo, hce, hsl⟩ := X
  obtain ⟨n0, D, P⟩ := q
  unfold z_mna at h
  dsimp only at h
  split at h
  · rename_i kk n S' n' rs hsh
    cases hok : !(decide (n < 0)) && !(decide (kk < 0)) && Nat.beq n.toNatClampNeg n' && Nat.ble n' 1000 && Nat.ble kk.toNatClampNeg 1000 && hz_rowsOk kk.toNatClampNeg n' (n0 + 1) && Nat.ble (cu + (1 + n')) mc && Nat.ble (su + (n' + n' * kk.toNatClampNeg)) ms with
    | false => rw [hok] at h; cases h
    | true =>
      rw [hok] at h
      dsimp only [cond_true] at h
      simp only [Bool.and_eq_true, Nat.ble_eq, Nat.beq_eq, Bool.not_eq_true', decide_eq_false_iff_not] at hok
      obtain ⟨⟨⟨⟨⟨⟨⟨hn, hk⟩, hN⟩, hN1⟩, hk1⟩, hrows⟩, hc1⟩, hs1⟩ := hok
      subst hN
      have hlt0 := hy_sh_lt hsh (by omega)
      have hGn : H.size = G.1 n0 := by rw [hK.2.1 n0 (by omega)]; exact hH.1
      intro T hT Xs
      obtain ⟨vm₁, cA, comp, -, fA, fC, hO, -, X', step⟩ := Xs.multianewarray2F hx hown (hts _ w1) (over_moved (Vm.Alike.refl s.vm) hK.2.2.1) (hts _ w2) (g := F0 m pc ls (.int kk :: .int n :: S'.map (hy_v G.1))) rfl (by rw [hb]; exact hy_dqs d) rfl hn hk (by omega) (by show _ * 4 ≤ _; omega) (by omega) rfl rfl (by omega) (by omega)
      have hcA : cA = G.2.2.2.2 := Option.some.inj (fA.symm.trans (hK.1.2 1 _ rfl).2)
      have hcI : comp = G.2.2.2.1 := Option.some.inj (fC.symm.trans (hK.1.2 0 _ rfl).2)
      subst hcA
      subst hcI
      generalize hF : Jvm.Free.Multi.fill (T.setVm vm₁) G.2.2.2.2 G.2.2.2.1 n.toNatClampNeg kk.toNatClampNeg (defaultValue .int) n.toNatClampNeg = F at X' step
      have hTh : (T.setVm vm₁).heap = H := hT
      obtain ⟨f1, f2, -, -⟩ := Jvm.Free.Multi.fill_facts (T.setVm vm₁) G.2.2.2.2 G.2.2.2.1 n.toNatClampNeg kk.toNatClampNeg (defaultValue .int) n.toNatClampNeg
      rw [hF, hTh] at f1 f2
      have hold : ∀ a : Nat, a < H.size → F.heap[a]? = H[a]? := fun a ha => by
        have := Jvm.Free.Multi.fill_old (T.setVm vm₁) G.2.2.2.2 G.2.2.2.1 n.toNatClampNeg kk.toNatClampNeg (defaultValue .int) (a := a) (by rw [hTh]; exact ha) n.toNatClampNeg
        rw [hF, hTh] at this
        exact this
      have hrow : ∀ j : Nat, j < n.toNatClampNeg → F.heap[H.size + 1 + j]? = some (arrV G.2.2.2.1 kk.toNatClampNeg (fun _ => .int 0)) := fun j hj => by
        have := Jvm.Free.Multi.fill_inner (T.setVm vm₁) G.2.2.2.2 G.2.2.2.1 n.toNatClampNeg kk.toNatClampNeg (defaultValue .int) n.toNatClampNeg j hj
        rw [hF, hTh] at this
        rw [this, ← arrV_new]
        rfl
      rw [hz_outer] at f2
      obtain ⟨r1, r2, r3⟩ := hz_rows_spec n.toNatClampNeg (n0 + 1) (n0 + 1, hz_row D n0 (fun _ => 0), hz_row P n0 (fun j => if j < n.toNatClampNeg then some (n0 + 1 + j) else none))
      generalize hq : hz_rows n.toNatClampNeg (n0 + 1) (n0 + 1, hz_row D n0 (fun _ => 0), hz_row P n0 (fun j => if j < n.toNatClampNeg then some (n0 + 1 + j) else none)) = q' at h r1 r2 r3
      obtain ⟨nq, Dq, Pq⟩ := q'
      dsimp only at r1 r2 r3
      have hHR : hz_HR G (nq, Dq, Pq) F.heap := by
        have hle : nq ≤ 100 := by
          by_cases hz : n.toNatClampNeg = 0
          · omega
          · obtain ⟨rs', hsh'⟩ := hz_rowsOk_spec _ _ hrows (n0 + n.toNatClampNeg) (by omega) (by omega)
            have := hy_sh_lt hsh' (by omega)
            omega
        refine ⟨by rw [f1, hH.1, r1]; show G.1 0 + n0 + 1 + n.toNatClampNeg = _; omega, fun i r hi => ?_, hle⟩
        have hlt : i < nq := by
          have := (List.getElem?_eq_some_iff.mp hi).1
          simpa [hz_ws] using this
        rw [hz_ws_get (q := (nq, Dq, Pq)) hlt] at hi
        cases hi
        dsimp only
        by_cases h1 : i < n0
        · have he : hz_E G Dq Pq i = hz_E G D P i := hz_E_same ((r2 i (by omega)).1.trans (hz_row_ne (by omega))) ((r2 i (by omega)).2.trans (hz_row_ne (by omega)))
          rw [he]
          have h0 := hH.2.1 i _ (hz_ws_get (q := (n0, D, P)) h1)
          exact h0.kept (hold _ h0.lt)
        · by_cases h2 : i = n0
          · subst h2
            rw [hz_E_1 hsh]
            show F.heap[G.1 i]? = some (vp_cell _ _)
            rw [← hGn, f2, (r2 i (by omega)).2, hz_row_same, vp_cell_q]
            refine congrArg some (congrArg (arrV _ _) (funext fun j => ?_))
            by_cases hj : j < n.toNatClampNeg
            · rw [if_pos hj, if_pos hj, Option.map_some, hK.2.1 (i + 1 + j) (by omega), hH.1]
              exact congrArg Value.ref (show G.1 0 + i + 1 + j = G.1 0 + (i + 1 + j) by omega)
            · rw [if_neg hj, if_neg hj]
              rfl
          · obtain ⟨rs', hsh'⟩ := hz_rowsOk_spec _ _ hrows i (by omega) (by omega)
            rw [hz_E_0 hsh', r3 i (by omega) (by omega)]
            show F.heap[G.1 i]? = some (vp_cell _ _)
            have e9 : G.1 i = H.size + 1 + (i - n0 - 1) := by rw [hK.2.1 i (by omega), hH.1]; show _ = G.1 0 + n0 + 1 + (i - n0 - 1); omega
            rw [e9, hrow _ (by omega)]
            rfl
      obtain ⟨t, a1, b1⟩ := k _ _ _ _ _ _ _ _ hL hHR (hz_S_grow (h := 0) hS (by rw [f1]; omega) hold) h F rfl X'
      refine ⟨t, step t ?_, b1⟩
      have e8 : T.heap.size = G.1 n0 := by rw [hT]; exact hGn
      rw [e8]
      exact a1
  · cases h
