/-! ===== from the constructors' picture to the other ===== -/
def hz_okP (P : Nat → Nat → Option Nat) (c : Nat) : Bool := match hy_sh c with
  | (0, _, _) => true
  | (1, n, rs) => (List.range n).all (fun j => decide (P c j = some ((rs.getD j none).getD 0)))
  | (_, _, rs) => (List.range rs.length).all (fun k => match rs[k]? with
    | some (some q) => decide (P c k = some q)
    | _ => true)
theorem hz_arrV {c : ClassId} {n : Nat} {f g : Nat → Value} (h : ∀ j, j < n → f j = g j) : arrV c n f = arrV c n g := by
  unfold arrV
  congr 2
  funext j
  exact h j.val j.isLt
theorem hz_fs_fs {ad : Nat → Nat} {D : hy_M} {P : Nat → Nat → Option Nat} {c : Nat} : ∀ (rs : List (Option Nat)) (k : Nat), (∀ j q, rs[j]? = some (some q) → P c (k + j) = some q) → hz_fs ad D P c k rs = hy_fs ad D c k rs
  | [], k, _ => rfl
  | some q :: rs, k, h => by
    have h0 := h 0 q rfl
    rw [Nat.add_zero] at h0
    simp only [hz_fs, hy_fs, h0, Option.map_some, va_rf]
    rw [hz_fs_fs rs (k + 1) (fun j q hj => by have := h (j + 1) q (by simpa using hj); rw [show k + 1 + j = k + (j + 1) by omega]; exact this)]
  | none :: rs, k, h => by
    simp only [hz_fs, hy_fs]
    rw [hz_fs_fs rs (k + 1) (fun j q hj => by have := h (j + 1) q (by simpa using hj); rw [show k + 1 + j = k + (j + 1) by omega]; exact this)]
theorem hz_to {G : hy_G} {D : hy_M} {P : Nat → Nat → Option Nat} {H : Heap} (h : hz_HR G (81, D, P) H) (hP : (List.range 81).all (hz_okP P) = true) (h8 : ∀ j, j < 8 → D 1000 j = nI j) : hy_HR G D H := by
  refine ⟨fun i r hi => ?_, h8⟩
  have hlt : i < 81 := by
    have := (List.getElem?_eq_some_iff.mp hi).1
    simpa [hy_ws] using this
  rw [hy_ws_get hlt] at hi
  cases hi
  have h0 := h.2.1 i _ (hz_ws_get (q := (81, D, P)) hlt)
  have hp := List.all_eq_true.mp hP i (List.mem_range.mpr hlt)
  unfold hz_okP at hp
  dsimp only at h0
  split at hp
  · rename_i n rs hsh
    rw [hz_E_0 hsh] at h0
    rw [hy_E_0 hsh]
    exact h0
  · rename_i n rs hsh
    rw [hz_E_1 hsh] at h0
    rw [hy_E_1 hsh]
    have h1 : H[G.1 i]? = some (vp_cell _ _) := h0
    show H[G.1 i]? = some (vp_cell _ _)
    rw [h1, vp_cell_q, vp_cell_q]
    refine congrArg some (hz_arrV fun j hj => ?_)
    have h2 := of_decide_eq_true (List.all_eq_true.mp hp j (List.mem_range.mpr hj))
    rw [h2, if_pos hj, Option.map_some]
  · rename_i k ci rs hn0 hn1 hsh
    have e1 : hz_E G D P i = .inr (ci, hz_fs G.1 D P i 0 rs) := by
      unfold hz_E
      split
      · rename_i n9 rs9 h9; exact (hn0 (Prod.mk.inj (h9.symm.trans hsh)).1.symm).elim
      · rename_i n9 rs9 h9; exact (hn1 (Prod.mk.inj (h9.symm.trans hsh)).1.symm).elim
      · rename_i ci9 rs9 _ _ h9
        have := h9.symm.trans hsh
        cases this
        rfl
    have e2 : hy_E G D i = .inr (ci, hy_fs G.1 D i 0 rs) := by
      unfold hy_E
      split
      · rename_i n9 rs9 h9; exact (hn0 (Prod.mk.inj (h9.symm.trans hsh)).1.symm).elim
      · rename_i n9 rs9 h9; exact (hn1 (Prod.mk.inj (h9.symm.trans hsh)).1.symm).elim
      · rename_i ci9 rs9 _ _ h9
        have := h9.symm.trans hsh
        cases this
        rfl
    rw [e1] at h0
    rw [e2, ← hz_fs_fs (P := P) rs 0 (fun j q hj => ?_)]
    · exact h0
    · have hjl : j < rs.length := (List.getElem?_eq_some_iff.mp hj).1
      have h2 := List.all_eq_true.mp hp j (List.mem_range.mpr hjl)
      rw [hj] at h2
      rw [Nat.zero_add]
      exact of_decide_eq_true h2
/-! ===== the law's beginning ===== -/
def z_stop : hz_C := fun L S cu su q => match L, S with
  | [some (.ref a), some (.ref c), some (.ref d), some (.int v)], [] => bif Nat.beq a 1001 && Nat.beq c 0 && Nat.beq d 67 && decide (v = 0) && Nat.ble cu 600000 && Nat.ble su 7302250 then some q else none
  | _, _ => none
def hz_at18 (G : hy_G) (x : hy_X) (b : hz_S) : Prop := ∀ (cu su : Nat) (ls : Array Slot) (H : Heap) (locs : List Loc), cu ≤ 600000 → su ≤ 7302250 → hy_LR G.1 4 [some (.ref 1001), some (.ref 0), some (.ref 67), some (.int 0)] ls → hz_HR G b H → va_S (hz_A G) (hy_st x).heap H locs → hz_Wt x H locs cu su 18 ls []
theorem hz_stop {G : hy_G} {x : hy_X} {b : hz_S} (h18 : hz_at18 G x b) : hz_Sn G x 4 18 b z_stop := by
  intro L S cu su q ls H locs hL hH hS h
  unfold z_stop at h
  split at h
  · rename_i a c d v
    cases hok : Nat.beq a 1001 && Nat.beq c 0 && Nat.beq d 67 && decide (v = 0) && Nat.ble cu 600000 && Nat.ble su 7302250 with
    | false => rw [hok] at h; cases h
    | true =>
      rw [hok] at h
      cases h
      simp only [Bool.and_eq_true, Nat.ble_eq, Nat.beq_eq, decide_eq_true_eq] at hok
      obtain ⟨⟨⟨⟨⟨rfl, rfl⟩, rfl⟩, rfl⟩, h1⟩, h2⟩ := hok
      exact h18 cu su ls H locs h1 h2 hL hH hS
  · cases h
def z_L_0 : hz_C := z_new 7 10 600000 7302250 (z_dup (z_ini 600000 7302250 66 544 zg_X8_init (z_astore 1 (z_new 8 20 600000 7302250 (z_dup (z_ini 600000 7302250 13 497 zg_X9_init (z_astore 2 (z_push (.int 0) (z_istore 3 z_stop)))))))))
theorem in_L_7 : hz_ni RL 7 7 10 := ⟨RX8, TX8, tyX8, cls_7, hy_in_tb (i := 14) (by decide +kernel) rfl, hy_in_tb (i := 15) (by decide +kernel) rfl, hy_in_tb (i := 1) (by decide +kernel) rfl, hz_chk_ok (by decide +kernel)⟩
theorem in_L_10 : hz_ni RL 10 8 20 := ⟨RX9, TX9, tyX9, cls_8, hy_in_tb (i := 713) (by decide +kernel) rfl, hy_in_tb (i := 714) (by decide +kernel) rfl, hy_in_tb (i := 9) (by decide +kernel) rfl, hz_chk_ok (by decide +kernel)⟩
theorem ik_L_9 : Cond.methodLink RL 9 yX8_init ∈ hy_WT := hy_in_tb (i := 16) (by decide +kernel) rfl
theorem ik_L_12 : Cond.methodLink RL 12 yX9_init ∈ hy_WT := hy_in_tb (i := 715) (by decide +kernel) rfl
set_option maxRecDepth 100000 in
set_option maxHeartbeats 4000000 in
theorem t_L_0 {G : hy_G} {x : hy_X} {b : hz_S} (X : hz_Cx G x RL code 4 2048 84000 600000 7302250) (h18 : hz_at18 G x b) : hz_Sn G x 4 0 b z_L_0 := by
  exact hz_new (pc := 0) X in_L_7 (by decide +kernel) (hz_dup (pc := 3) X (by decide +kernel) (hz_ini (pc := 4) X (zm_X8_init (G := _)) iy_X8_init ik_L_9 (by decide +kernel) (Nat.le_of_ble_eq_true rfl) (Nat.le_of_ble_eq_true rfl) (hz_astore_n (pc := 7) (w := 1) X (by decide +kernel) rfl (Nat.le_of_ble_eq_true rfl) (hz_new (pc := 8) X in_L_10 (by decide +kernel) (hz_dup (pc := 11) X (by decide +kernel) (hz_ini (pc := 12) X (zm_X9_init (G := _)) iy_X9_init ik_L_12 (by decide +kernel) (Nat.le_of_ble_eq_true rfl) (Nat.le_of_ble_eq_true rfl) (hz_astore_n (pc := 15) (w := 2) X (by decide +kernel) rfl (Nat.le_of_ble_eq_true rfl) (hz_iconst (pc := 16) (n := 0) X (by decide +kernel) (by decide +kernel) (hz_istore_n (pc := 17) (w := 3) X (by decide +kernel) rfl (Nat.le_of_ble_eq_true rfl) (hz_stop h18))))))))))
def hz_q0 : hz_S := (0, fun c j => if c = 1000 then nI j else 0, fun _ _ => none)
def hz_r0 : Option hz_S := z_L_0 [some (.ref 1001), none, none, none] [] 0 0 hz_q0
def hz_fin : hz_S := hz_r0.getD hz_q0
theorem hz_fin_ok : hz_r0.isSome = true := by decide +kernel
theorem hz_fin_eq : hz_r0 = some hz_fin := by
  have h := hz_fin_ok
  unfold hz_fin
  cases hr : hz_r0 with
  | none => rw [hr] at h; cases h
  | some q => rfl
theorem hz_fin_n : hz_fin.1 = 81 := by decide +kernel
theorem hz_fin_P : (List.range 81).all (hz_okP hz_fin.2.2) = true := by decide +kernel
theorem hz_fin_8 : ∀ j, j < 8 → hz_fin.2.1 1000 j = nI j := by decide +kernel
