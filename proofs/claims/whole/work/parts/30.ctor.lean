/-! ===== the constructors' light machine: cells come, in a known order ===== -/
abbrev hz_S : Type := Nat × hy_M × (Nat → Nat → Option Nat)
abbrev hz_C : Type := hy_L → List Value → Nat → Nat → hz_S → Option hz_S
def hz_fs (ad : Nat → Nat) (D : hy_M) (P : Nat → Nat → Option Nat) (c : Nat) : Nat → List (Option Nat) → List Value
  | _, [] => []
  | k, some _ :: rs => va_rf ((P c k).map ad) :: hz_fs ad D P c (k + 1) rs
  | k, none :: rs => .int (D c k) :: hz_fs ad D P c (k + 1) rs
def hz_E (G : hy_G) (D : hy_M) (P : Nat → Nat → Option Nat) (c : Nat) : va_E := match hy_sh c with
  | (0, n, _) => .inl (G.2.2.2.1, n, .inl (D c))
  | (1, n, _) => .inl (G.2.2.2.2, n, .inr (.inr (.inr (.inr (fun j => (P c j).map G.1)))))
  | (_, ci, rs) => .inr (ci, hz_fs G.1 D P c 0 rs)
def hz_ws (G : hy_G) (q : hz_S) : va_W := (List.range q.1).map (fun c => (G.1 c, hz_E G q.2.1 q.2.2 c))
def hz_HR (G : hy_G) (q : hz_S) (H : Heap) : Prop := H.size = G.1 0 + q.1 ∧ va_P (G.2.1, G.2.2.1) vwCl (hz_ws G q) H ∧ q.1 ≤ 100
def hz_A (G : hy_G) : Nat → Prop := fun a => G.1 0 ≤ a
def hz_nest (own : String) (i : Nat) (C : String) : Cond := .methodLinkNest own i ⟨C, "<init>", "()V"⟩ "HumpYard"
def hz_K (G : hy_G) (U : State) : Prop :=
  va_K (G.2.1, G.2.2.1) vwCl [(G.2.2.2.1, .int), (G.2.2.2.2, .array .int)] U ∧ (∀ c, c < 1000 → G.1 c = G.1 0 + c) ∧ (Cond.arrayOver (.array .int)).before #[] U = true ∧
  va_Nw (hz_nest "HumpYard$Yard" 51 "HumpYard$Lanes") U ∧ va_Nw (hz_nest "HumpYard" 27 "HumpYard$Tape") U ∧ va_Nw (hz_nest "HumpYard" 34 "HumpYard$Paper") U ∧ va_Nw (hz_nest "HumpYard" 48 "HumpYard$Binder") U ∧ va_Nw (hz_nest "HumpYard" 55 "HumpYard$Renumbering") U ∧ va_Nw (hz_nest "HumpYard" 62 "HumpYard$Lanes") U
theorem hz_ws_get {G : hy_G} {q : hz_S} {c : Nat} (h : c < q.1) : (hz_ws G q)[c]? = some (G.1 c, hz_E G q.2.1 q.2.2 c) := by
  unfold hz_ws
  rw [List.getElem?_map, List.getElem?_range h]
  rfl
theorem hz_ws_set {G : hy_G} {n : Nat} {D D' : hy_M} {P P' : Nat → Nat → Option Nat} {c : Nat} {e : va_E} (h : c < n) (he : hz_E G D' P' c = e) (ho : ∀ c', c' ≠ c → hz_E G D' P' c' = hz_E G D P c') : (hz_ws G (n, D, P)).set c (G.1 c, e) = hz_ws G (n, D', P') := by
  apply List.ext_getElem?
  intro i
  by_cases hi : i < n
  · rw [hz_ws_get (q := (n, D', P')) hi]
    by_cases hc : i = c
    · subst hc
      rw [List.getElem?_set_self (by simp [hz_ws, hi]), he]
    · rw [List.getElem?_set_ne (fun q => hc q.symm), hz_ws_get (q := (n, D, P)) hi, ho i hc]
  · rw [List.getElem?_eq_none (by simp [hz_ws]; omega), List.getElem?_eq_none (by simp [hz_ws]; omega)]
theorem hz_ws_add {G : hy_G} {n : Nat} {D D' : hy_M} {P P' : Nat → Nat → Option Nat} (ho : ∀ c, c < n → hz_E G D' P' c = hz_E G D P c) : hz_ws G (n + 1, D', P') = hz_ws G (n, D, P) ++ [(G.1 n, hz_E G D' P' n)] := by
  unfold hz_ws
  rw [List.range_succ, List.map_append]
  congr 1
  apply List.map_congr_left
  intro c hc
  rw [ho c (List.mem_range.mp hc)]
theorem hz_D {G : hy_G} (h : ∀ c, c < 1000 → G.1 c = G.1 0 + c) (q : hz_S) (hq : q.1 ≤ 100) : va_D (hz_A G) (hz_ws G q) := by
  have key : ∀ (k : Nat) (r : Nat × va_E), (hz_ws G q)[k]? = some r → r.1 = G.1 0 + k := by
    intro k r hk
    have hl : k < q.1 := by
      have := (List.getElem?_eq_some_iff.mp hk).1
      simpa [hz_ws] using this
    rw [hz_ws_get hl] at hk
    cases hk
    exact h k (by omega)
  refine ⟨fun i j p r hi hj hpq => ?_, fun k r hk => ?_⟩
  · have a := key i p hi
    have b := key j r hj
    omega
  · show G.1 0 ≤ r.1
    rw [key k r hk]
    omega
theorem hz_fs_get (ad : Nat → Nat) (D : hy_M) (P : Nat → Nat → Option Nat) (c : Nat) : ∀ (rs : List (Option Nat)) (k j : Nat), (hz_fs ad D P c k rs)[j]? = (rs[j]?).map (fun r => match r with | some _ => va_rf ((P c (k + j)).map ad) | none => Value.int (D c (k + j)))
  | [], k, j => by simp [hz_fs]
  | some q :: rs, k, 0 => by simp [hz_fs]
  | none :: rs, k, 0 => by simp [hz_fs]
  | some q :: rs, k, j + 1 => by
    simp only [hz_fs, List.getElem?_cons_succ]
    rw [hz_fs_get ad D P c rs (k + 1) j, show k + 1 + j = k + (j + 1) by omega]
  | none :: rs, k, j + 1 => by
    simp only [hz_fs, List.getElem?_cons_succ]
    rw [hz_fs_get ad D P c rs (k + 1) j, show k + 1 + j = k + (j + 1) by omega]
theorem hz_fs_len (ad : Nat → Nat) (D : hy_M) (P : Nat → Nat → Option Nat) (c : Nat) : ∀ (rs : List (Option Nat)) (k : Nat), (hz_fs ad D P c k rs).length = rs.length
  | [], k => rfl
  | some q :: rs, k => by simp [hz_fs, hz_fs_len ad D P c rs]
  | none :: rs, k => by simp [hz_fs, hz_fs_len ad D P c rs]
theorem hz_fs_same {ad : Nat → Nat} {D D' : hy_M} {P P' : Nat → Nat → Option Nat} {c : Nat} (h : D' c = D c) (h2 : P' c = P c) : ∀ (rs : List (Option Nat)) (k : Nat), hz_fs ad D' P' c k rs = hz_fs ad D P c k rs
  | [], k => rfl
  | some q :: rs, k => by simp [hz_fs, hz_fs_same h h2 rs, h2]
  | none :: rs, k => by simp [hz_fs, hz_fs_same h h2 rs, h]
theorem hz_E_same {G : hy_G} {D D' : hy_M} {P P' : Nat → Nat → Option Nat} {c : Nat} (h : D' c = D c) (h2 : P' c = P c) : hz_E G D' P' c = hz_E G D P c := by
  unfold hz_E
  split <;> simp_all [hz_fs_same]
def hz_up {α : Type} (P : Nat → Nat → α) (c k : Nat) (v : α) : Nat → Nat → α := fun c' => if c' = c then (fun k' => if k' = k then v else P c k') else P c'
def hz_row {α : Type} (P : Nat → Nat → α) (c : Nat) (r : Nat → α) : Nat → Nat → α := fun c' => if c' = c then r else P c'
theorem hz_up_ne {α : Type} {P : Nat → Nat → α} {c c' k : Nat} {v : α} (h : c' ≠ c) : hz_up P c k v c' = P c' := by simp [hz_up, h]
theorem hz_row_ne {α : Type} {P : Nat → Nat → α} {c c' : Nat} {r : Nat → α} (h : c' ≠ c) : hz_row P c r c' = P c' := by simp [hz_row, h]
theorem hz_row_same {α : Type} {P : Nat → Nat → α} {c : Nat} {r : Nat → α} : hz_row P c r c = r := by simp [hz_row]
theorem hz_fs_setI {ad : Nat → Nat} {D : hy_M} {P : Nat → Nat → Option Nat} {c j : Nat} {x : Int32} {rs : List (Option Nat)} (hj : rs[j]? = some none) : (hz_fs ad D P c 0 rs).set j (.int x) = hz_fs ad (hy_w D c j x) P c 0 rs := by
  apply List.ext_getElem?
  intro i
  by_cases hc : i = j
  · subst hc
    have hl : i < rs.length := (List.getElem?_eq_some_iff.mp hj).1
    rw [List.getElem?_set_self (by rw [hz_fs_len]; exact hl), hz_fs_get, hj]
    simp [hy_w_same, upd]
  · rw [List.getElem?_set_ne (fun q => hc q.symm), hz_fs_get, hz_fs_get]
    simp [hy_w_same, upd, hc]
theorem hz_fs_setR {ad : Nat → Nat} {D : hy_M} {P : Nat → Nat → Option Nat} {c j q r : Nat} {rs : List (Option Nat)} (hj : rs[j]? = some (some r)) : (hz_fs ad D P c 0 rs).set j (.ref (ad q)) = hz_fs ad D (hz_up P c j (some q)) c 0 rs := by
  apply List.ext_getElem?
  intro i
  by_cases hc : i = j
  · subst hc
    have hl : i < rs.length := (List.getElem?_eq_some_iff.mp hj).1
    rw [List.getElem?_set_self (by rw [hz_fs_len]; exact hl), hz_fs_get, hj]
    simp [hz_up, va_rf]
  · rw [List.getElem?_set_ne (fun q => hc q.symm), hz_fs_get, hz_fs_get]
    simp [hz_up, hc]
theorem hz_E_0 {G : hy_G} {D : hy_M} {P : Nat → Nat → Option Nat} {c n : Nat} {rs : List (Option Nat)} (h : hy_sh c = (0, n, rs)) : hz_E G D P c = .inl (G.2.2.2.1, n, .inl (D c)) := by
  unfold hz_E; rw [h]; rfl
theorem hz_E_1 {G : hy_G} {D : hy_M} {P : Nat → Nat → Option Nat} {c n : Nat} {rs : List (Option Nat)} (h : hy_sh c = (1, n, rs)) : hz_E G D P c = .inl (G.2.2.2.2, n, .inr (.inr (.inr (.inr (fun j => (P c j).map G.1))))) := by
  unfold hz_E; rw [h]; rfl
theorem hz_E_2 {G : hy_G} {D : hy_M} {P : Nat → Nat → Option Nat} {c n : Nat} {rs : List (Option Nat)} (h : hy_sh c = (2, n, rs)) : hz_E G D P c = .inr (n, hz_fs G.1 D P c 0 rs) := by
  unfold hz_E; rw [h]; rfl
/-! frames -/
def hz_Wt : hy_X → Heap → List Loc → Nat → Nat → Nat → Array Slot → List Value → Prop
  | (p, l, e, R, s, m, args, below, meth, c, _, _, Q), H, locs, cu, su, pc, ls, st => W p l e R s m args below meth c H locs cu su Q (F0 m pc ls st)
def hz_Cx (G : hy_G) (x : hy_X) (own : String) (cc : ByteArray) (nL fr lo mc ms : Nat) : Prop := match x with
  | (p, _, _, R, s, m, args, _, meth, c, _, _, _) => p.tables.exec = Jvm.exec ∧ c.code = cc ∧ c.maxLocals = nL ∧ s.vm.findClass own = some m.cls ∧ (∀ w ∈ hy_WT, w.before args s = true) ∧ meth.locks = false ∧ hz_K G s ∧ fr ≤ R.frames ∧ lo ≤ R.locals ∧ mc ≤ R.cells ∧ ms ≤ R.slots
def hz_Sn (G : hy_G) (x : hy_X) (nL pc : Nat) (b : hz_S) (f : hz_C) : Prop := ∀ (L : hy_L) (S : List Value) (cu su : Nat) (q : hz_S) (ls : Array Slot) (H : Heap) (locs : List Loc), hy_LR G.1 nL L ls → hz_HR G q H → va_S (hz_A G) (hy_st x).heap H locs → f L S cu su q = some b → hz_Wt x H locs cu su pc ls (S.map (hy_v G.1))
def z_push (v : Value) (f : hz_C) : hz_C := fun L S cu su q => f L (v :: S) cu su q
def z_iload (i : Nat) (f : hz_C) : hz_C := fun L S cu su q => match hy_lget i L with
  | some (.int v) => f L (.int v :: S) cu su q
  | _ => none
def z_aload (i : Nat) (f : hz_C) : hz_C := fun L S cu su q => match hy_lget i L with
  | some (.ref v) => f L (.ref v :: S) cu su q
  | _ => none
def z_istore (i : Nat) (f : hz_C) : hz_C := fun L S cu su q => match S with
  | .int v :: S' => bif hy_ok1 i L then f (hy_lset i (.int v) L) S' cu su q else none
  | _ => none
def z_astore (i : Nat) (f : hz_C) : hz_C := fun L S cu su q => match S with
  | .ref v :: S' => bif hy_ok1 i L then f (hy_lset i (.ref v) L) S' cu su q else none
  | _ => none
def z_iinc (i : Nat) (n : Int32) (f : hz_C) : hz_C := fun L S cu su q => match hy_lget i L with
  | some (.int v) => bif hy_ok1 i L then f (hy_lset i (.int (v + n)) L) S cu su q else none
  | _ => none
def z_iadd (f : hz_C) : hz_C := fun L S cu su q => match S with
  | .int y :: .int z :: S' => f L (.int (z + y) :: S') cu su q
  | _ => none
def z_clt (f g : hz_C) : hz_C := fun L S cu su q => match S with
  | .int y :: .int z :: S' => if z < y then f L S' cu su q else g L S' cu su q
  | _ => none
def z_dup (f : hz_C) : hz_C := fun L S cu su q => match S with
  | .ref y :: S' => f L (.ref y :: .ref y :: S') cu su q
  | _ => none
def z_getR (ci k : Nat) (f : hz_C) : hz_C := fun L S cu su q => match S with
  | .ref o :: S' => bif hy_oc o ci k true && Nat.ble (o + 1) q.1 then (match q.2.2 o k with
    | some r => f L (.ref r :: S') cu su q
    | none => none) else none
  | _ => none
def z_putR (ci k : Nat) (f : hz_C) : hz_C := fun L S cu su q => match S with
  | .ref r :: .ref o :: S' => bif hy_oc o ci k true && Nat.ble (o + 1) q.1 then f L S' cu su (q.1, q.2.1, hz_up q.2.2 o k (some r)) else none
  | _ => none
def z_putI (ci k : Nat) (f : hz_C) : hz_C := fun L S cu su q => match S with
  | .int v :: .ref o :: S' => bif hy_oc o ci k false && Nat.ble (o + 1) q.1 then f L S' cu su (q.1, hy_w q.2.1 o k v, q.2.2) else none
  | _ => none
def z_putZ (ci k : Nat) (f : hz_C) : hz_C := fun L S cu su q => match S with
  | .int v :: .ref o :: S' => bif hy_oc o ci k false && Nat.ble (o + 1) q.1 then (if v = 0 ∨ v = 1 then f L S' cu su (q.1, hy_w q.2.1 o k v, q.2.2) else none) else none
  | _ => none
def z_iast (f : hz_C) : hz_C := fun L S cu su q => match S with
  | .int v :: .int j :: .ref r :: S' => bif Nat.ble (r + 1) q.1 then (if hy_in j (hy_wl r) = true then f L S' cu su (q.1, hy_w q.2.1 r j.toNatClampNeg v, q.2.2) else none) else none
  | _ => none
/-- a new object of class ci with N fields -/
def z_new (ci N mc ms : Nat) (f : hz_C) : hz_C := fun L S cu su q => match hy_sh q.1 with
  | (2, ci', rs) => bif Nat.beq ci ci' && Nat.beq rs.length N && Nat.ble (cu + 1) mc && Nat.ble (su + N) ms then f L (.ref q.1 :: S) (cu + 1) (su + N) (q.1 + 1, hz_row q.2.1 q.1 (fun _ => 0), hz_row q.2.2 q.1 (fun _ => none)) else none
  | _ => none
def z_newa (mc ms : Nat) (f : hz_C) : hz_C := fun L S cu su q => match S, hy_sh q.1 with
  | .int n :: S', (0, k, _) => bif !(decide (n < 0)) && Nat.beq n.toNatClampNeg k && Nat.ble k 1000 && Nat.ble (cu + 1) mc && Nat.ble (su + k) ms then f L (.ref q.1 :: S') (cu + 1) (su + k) (q.1 + 1, hz_row q.2.1 q.1 (fun _ => 0), hz_row q.2.2 q.1 (fun _ => none)) else none
  | _, _ => none
/-- rows of ints, n of them from c on -/
def hz_rows : Nat → Nat → hz_S → hz_S
  | 0, _, q => q
  | n + 1, c, q => hz_rows n (c + 1) (q.1 + 1, hz_row q.2.1 c (fun _ => 0), hz_row q.2.2 c (fun _ => none))
def hz_rowsOk (k : Nat) : Nat → Nat → Bool
  | 0, _ => true
  | n + 1, c => (match hy_sh c with
    | (0, k', _) => Nat.beq k k'
    | _ => false) && hz_rowsOk k n (c + 1)
def z_mna (mc ms : Nat) (f : hz_C) : hz_C := fun L S cu su q => match S, hy_sh q.1 with
  | .int k :: .int n :: S', (1, n', _) => bif !(decide (n < 0)) && !(decide (k < 0)) && Nat.beq n.toNatClampNeg n' && Nat.ble n' 1000 && Nat.ble k.toNatClampNeg 1000 && hz_rowsOk k.toNatClampNeg n' (q.1 + 1) && Nat.ble (cu + (1 + n')) mc && Nat.ble (su + (n' + n' * k.toNatClampNeg)) ms then
      f L (.ref q.1 :: S') (cu + 1 + n') (su + n' + n' * k.toNatClampNeg) (hz_rows n' (q.1 + 1) (q.1 + 1, hz_row q.2.1 q.1 (fun _ => 0), hz_row q.2.2 q.1 (fun j => if j < n' then some (q.1 + 1 + j) else none))) else none
  | _, _ => none
def z_obj (f : hz_C) : hz_C := fun L S cu su q => match S with
  | .ref _ :: S' => bif Nat.ble (hy_cat S') 8 then f L S' cu su q else none
  | _ => none
/-- another constructor, of at most mc' cells of ms' slots -/
def z_ini (mc ms mc' ms' : Nat) (g : List Value → hz_S → Option hz_S) (f : hz_C) : hz_C := fun L S cu su q => match S with
  | .ref o :: S' => bif Nat.ble (hy_cat S') 8 && Nat.ble (cu + mc') mc && Nat.ble (su + ms') ms then (g [.ref o] q).bind (fun q' => f L S' (cu + mc') (su + ms') q') else none
  | _ => none
def z_vret (mc ms : Nat) : hz_C := fun _ S cu su q => match S with
  | [] => bif Nat.ble cu mc && Nat.ble su ms then some q else none
  | _ => none
def hz_g (nL : Nat) (f : hz_C) : List Value → hz_S → Option hz_S := fun a q => bif Nat.ble (hy_wd a) nL then f (hy_lo a ++ List.replicate (nL - hy_wd a) none) [] 0 0 q else none
def hz_fr (own : String) (index ci k : Nat) : Prop := ∃ C T N ty, hy_cls ci C T N ty ∧ k < N ∧ Cond.fieldLink own index (T k).1 (T k).2.1 (T k).2.2.1 ∈ hy_WT ∧ (T k).2.2.2 = true ∧ (T k).1 = own ∧ ((∃ C', ty k = .object C') ∨ ∃ t', ty k = .array t')
def hz_init (x : hy_X) : Prop := match x with
  | (_, _, _, _, _, _, _, _, meth, _, _, _, _) => meth.name = "<init>"
section HZP
variable {p : Program} {l : Launch} {e : Env} {R : Room} {s : State} {m : MethodId} {args : Array Value} {below : List Frame} {meth : Method} {c : Code} {H : Heap} {locs : List Loc} {cells slots : Nat} {Q : State → Prop}
variable {cc : ByteArray} {pc : Nat} {ls : Array Slot} {rest : List Value} {D : va_G} {cl : List vw_C} {A : Nat → Prop} {a : Nat} {tys : List (ClassId × FieldType)} {ws : va_W} {H0 : Heap}
theorem hz_put (hexec : p.tables.exec = Jvm.exec) (hb : c.code = cc) {own C : String} {T : u_T} {N ci index : Nat} {Ts : List Cond} (hts : ∀ w ∈ Ts, w.before args s = true) (hin : ∀ w ∈ u_ws C T N, w ∈ Ts) (ty0 : Nat → FieldType) (hty : ∀ k, k < N → parseFieldDescriptor (T k).2.2.1 = some (ty0 k)) (hnm : ∀ a, a < N → ∀ b, b < N → a ≠ b → (T a).2.1 ≠ (T b).2.1) (hown : s.vm.findClass own = some m.cls) (hK : va_K D cl tys s) (hP : va_P D cl ws H) (hD : va_D A ws) (hS0 : va_S A H0 H locs) (q0 : Nat) {fs : List Value} (he : ws[q0]? = some (a, .inr (ci, fs))) (hc : cl[ci]? = some (C, T, N)) (k : Nat) (hk : k < N) (hlink : (Cond.fieldLink own index (T k).1 (T k).2.1 (T k).2.2.1).before args s = true) (hfin : (T k).2.2.2 = false) {ty : FieldType} {v : Value} (hd : parseFieldDescriptor (T k).2.2.1 = some ty) (hn : narrow ty v = v) (hfit : fits ty v = true) (hl : k < fs.length)
    (hdg : decode cc pc = .ok (.putfield index, 3)) (kk : ∀ (H1 : Heap) (locs1 : List Loc), H1.size = H.size → va_P D cl (ws.set q0 (a, .inr (ci, fs.set k v))) H1 → va_S A H0 H1 locs1 → W p l e R s m args below meth c H1 locs1 cells slots Q (F0 m (pc + 3) ls rest)) : W p l e R s m args below meth c H locs cells slots Q (F0 m pc ls (v :: .ref a :: rest)) := by
  have hap := va_apart (own := own) hts hin ty0 hty hnm hK hc
  obtain ⟨r, h1, cell, q1, q2, q3, q4⟩ := hP q0 _ he
  have hr : r = (C, T, N) := Option.some.inj (h1.symm.trans hc)
  subst hr
  obtain ⟨hS, hfc, kC, hkC, hkind⟩ := hK.1 ci _ hc
  obtain ⟨cf, kf, fi, f, hi, hsl⟩ := hS k hk
  have hlay := hts _ (hin _ (u_in_lay hk))
  unfold u_lay at hlay
  rw [if_neg (by rw [hfin]; decide)] at hlay
  have hst := (u_facts hfc hkC (u_lays hts hin hk) hi).1
  have h6 := u_store hfc hkC hkind hlay hi hd hn hfit
  refine W.putK hexec hb (f := f) ⟨hown, hlink, ⟨_, _, _, hi⟩, hst⟩ (by rw [q2]; exact h6) q1 q3 (by rw [hsl]; exact k2_hasslot (q4 k hk)) rfl rfl hdg fun H' e1 e2 e3 => ?_
  rw [hsl] at e1 ⊢
  exact kk H' _ e2 (hP.set hD he ⟨_, hc, t_OB.to (V := updV (vp_V fs) k v) ⟨_, e1, q2, q3, t_set q4 hap hk v⟩ (fun j _ => vp_updV_set hl v j)⟩ e3) (hS0.put e2 e3 (hD.2 q0 _ he))
theorem hz_putF (hexec : p.tables.exec = Jvm.exec) (hb : c.code = cc) {own C : String} {T : u_T} {N ci index : Nat} {Ts : List Cond} (hts : ∀ w ∈ Ts, w.before args s = true) (hin : ∀ w ∈ u_ws C T N, w ∈ Ts) (ty0 : Nat → FieldType) (hty : ∀ k, k < N → parseFieldDescriptor (T k).2.2.1 = some (ty0 k)) (hnm : ∀ a, a < N → ∀ b, b < N → a ≠ b → (T a).2.1 ≠ (T b).2.1) (hown : s.vm.findClass own = some m.cls) (hK : va_K D cl tys s) (hP : va_P D cl ws H) (hD : va_D A ws) (hS0 : va_S A H0 H locs) (q0 : Nat) {fs : List Value} (he : ws[q0]? = some (a, .inr (ci, fs))) (hc : cl[ci]? = some (C, T, N)) (k : Nat) (hk : k < N) (hlink : (Cond.fieldLink own index (T k).1 (T k).2.1 (T k).2.2.1).before args s = true) (hfin : (T k).2.2.2 = true) (hin2 : meth.name = "<init>") (hdecl : (T k).1 = own) {ty : FieldType} {v : Value} (hd : parseFieldDescriptor (T k).2.2.1 = some ty) (hn : narrow ty v = v) (hfit : fits ty v = true) (hl : k < fs.length)
    (hdg : decode cc pc = .ok (.putfield index, 3)) (kk : ∀ (H1 : Heap) (locs1 : List Loc), H1.size = H.size → va_P D cl (ws.set q0 (a, .inr (ci, fs.set k v))) H1 → va_S A H0 H1 locs1 → W p l e R s m args below meth c H1 locs1 cells slots Q (F0 m (pc + 3) ls rest)) : W p l e R s m args below meth c H locs cells slots Q (F0 m pc ls (v :: .ref a :: rest)) := by
  have hap := va_apart (own := own) hts hin ty0 hty hnm hK hc
  obtain ⟨r, h1, cell, q1, q2, q3, q4⟩ := hP q0 _ he
  have hr : r = (C, T, N) := Option.some.inj (h1.symm.trans hc)
  subst hr
  obtain ⟨hS, hfc, kC, hkC, hkind⟩ := hK.1 ci _ hc
  obtain ⟨cf, kf, fi, f, hi, hsl⟩ := hS k hk
  have hlay := hts _ (hin _ (u_in_lay hk))
  unfold u_lay at hlay
  rw [if_pos hfin] at hlay
  have hst := (u_facts hfc hkC (u_lays hts hin hk) hi).1
  have hcf : m.cls = cf := by
    obtain ⟨_, _, c', _, _, _, -, -, hf', -, -, -, hown2, -⟩ := Cond.laysFinal_spec hlay
    have e1 : c' = cf := by have := hi.symm.trans hf'; simp at this; exact this.1.symm
    rw [hdecl] at hown2
    rw [← e1]; exact Option.some.inj (hown.symm.trans hown2)
  have h6 := u_fits hfc hkC hkind (Or.inr hlay) hi hd hn hfit
  refine W.putFinK hexec hb hown hlink hi hst hcf hin2 (by rw [q2]; exact h6) q1 q3 (by rw [hsl]; exact k2_hasslot (q4 k hk)) rfl rfl hdg fun H' e1 e2 e3 => ?_
  rw [hsl] at e1 ⊢
  exact kk H' _ e2 (hP.set hD he ⟨_, hc, t_OB.to (V := updV (vp_V fs) k v) ⟨_, e1, q2, q3, t_set q4 hap hk v⟩ (fun j _ => vp_updV_set hl v j)⟩ e3) (hS0.put e2 e3 (hD.2 q0 _ he))
end HZP
section HZ
variable {G : hy_G} {x : hy_X} {own : String} {cc : ByteArray} {nL fr lo mc ms pc : Nat} {b : hz_S} {f g : hz_C}
theorem hz_iconst (X : hz_Cx G x own cc nL fr lo mc ms) {n : Int} {v : Int32} (d : hy_dq cc pc (.iconst n) 1 = true) (hv : Int32.ofInt n = v) (k : hz_Sn G x nL (pc + 1) b f) : hz_Sn G x nL pc b (z_push (.int v) f) := by
  intro L S cu su q ls H locs hL hH hS h
  obtain ⟨p, l, e, R, s, m, args, below, meth, c, c0, s0, Q⟩ := x
  obtain ⟨hx, hb, hml, hown, hts, hlk, hK, hfr, hlo, hce, hsl⟩ := X
  exact lv_iconst hx hb (hy_dqs d) hv (k L (.int v :: S) cu su q ls H locs hL hH hS h)
theorem hz_bipush (X : hz_Cx G x own cc nL fr lo mc ms) {n : Int} {v : Int32} (d : hy_dq cc pc (.bipush n) 2 = true) (hv : (Int8.ofInt n).toInt32 = v) (k : hz_Sn G x nL (pc + 2) b f) : hz_Sn G x nL pc b (z_push (.int v) f) := by
  intro L S cu su q ls H locs hL hH hS h
  obtain ⟨p, l, e, R, s, m, args, below, meth, c, c0, s0, Q⟩ := x
  obtain ⟨hx, hb, hml, hown, hts, hlk, hK, hfr, hlo, hce, hsl⟩ := X
  exact lv_bipush hx hb (hy_dqs d) hv (k L (.int v :: S) cu su q ls H locs hL hH hS h)
theorem hz_sipush (X : hz_Cx G x own cc nL fr lo mc ms) {n : Int} {v : Int32} (d : hy_dq cc pc (.sipush n) 3 = true) (hv : (Int16.ofInt n).toInt32 = v) (k : hz_Sn G x nL (pc + 3) b f) : hz_Sn G x nL pc b (z_push (.int v) f) := by
  intro L S cu su q ls H locs hL hH hS h
  obtain ⟨p, l, e, R, s, m, args, below, meth, c, c0, s0, Q⟩ := x
  obtain ⟨hx, hb, hml, hown, hts, hlk, hK, hfr, hlo, hce, hsl⟩ := X
  exact lv_sipush hx hb (hy_dqs d) hv (k L (.int v :: S) cu su q ls H locs hL hH hS h)
theorem hz_iload_n (X : hz_Cx G x own cc nL fr lo mc ms) {i : Nat} {w : Fin 4} (d : hy_dq cc pc (.iload_n w) 1 = true) (hi : (w : Nat) = i) (k : hz_Sn G x nL (pc + 1) b f) : hz_Sn G x nL pc b (z_iload i f) := by
  intro L S cu su q ls H locs hL hH hS h
  obtain ⟨p, l, e, R, s, m, args, below, meth, c, c0, s0, Q⟩ := x
  obtain ⟨hx, hb, hml, hown, hts, hlk, hK, hfr, hlo, hce, hsl⟩ := X
  unfold z_iload at h
  split at h
  · rename_i v hv
    exact lv_iload_n hx hb (hy_dqs d) hi (hL.2.2 i _ hv) (k L (.int v :: S) cu su q ls H locs hL hH hS h)
  · cases h
theorem hz_istore_n (X : hz_Cx G x own cc nL fr lo mc ms) {i : Nat} {w : Fin 4} (d : hy_dq cc pc (.istore_n w) 1 = true) (hi : (w : Nat) = i) (hn : i < nL) (k : hz_Sn G x nL (pc + 1) b f) : hz_Sn G x nL pc b (z_istore i f) := by
  intro L S cu su q ls H locs hL hH hS h
  obtain ⟨p, l, e, R, s, m, args, below, meth, c, c0, s0, Q⟩ := x
  obtain ⟨hx, hb, hml, hown, hts, hlk, hK, hfr, hlo, hce, hsl⟩ := X
  unfold z_istore at h
  split at h
  · rename_i v S'
    cases hok : hy_ok1 i L with
    | false => rw [hok] at h; cases h
    | true =>
      rw [hok] at h
      exact lv_istore_n hx hb (hy_dqs d) hi (hy_LR_has hL) hn rfl (fun ls' h' => k _ S' cu su q ls' H locs (hy_LR_st1 (v := .int v) hL hok h') hH hS h)
  · cases h
theorem hz_aload_n (X : hz_Cx G x own cc nL fr lo mc ms) {i : Nat} {w : Fin 4} (d : hy_dq cc pc (.aload_n w) 1 = true) (hi : (w : Nat) = i) (k : hz_Sn G x nL (pc + 1) b f) : hz_Sn G x nL pc b (z_aload i f) := by
  intro L S cu su q ls H locs hL hH hS h
  obtain ⟨p, l, e, R, s, m, args, below, meth, c, c0, s0, Q⟩ := x
  obtain ⟨hx, hb, hml, hown, hts, hlk, hK, hfr, hlo, hce, hsl⟩ := X
  unfold z_aload at h
  split at h
  · rename_i v hv
    exact lv_aload_n hx hb (hy_dqs d) hi (hL.2.2 i _ hv) (k L (.ref v :: S) cu su q ls H locs hL hH hS h)
  · cases h
theorem hz_astore_n (X : hz_Cx G x own cc nL fr lo mc ms) {i : Nat} {w : Fin 4} (d : hy_dq cc pc (.astore_n w) 1 = true) (hi : (w : Nat) = i) (hn : i < nL) (k : hz_Sn G x nL (pc + 1) b f) : hz_Sn G x nL pc b (z_astore i f) := by
  intro L S cu su q ls H locs hL hH hS h
  obtain ⟨p, l, e, R, s, m, args, below, meth, c, c0, s0, Q⟩ := x
  obtain ⟨hx, hb, hml, hown, hts, hlk, hK, hfr, hlo, hce, hsl⟩ := X
  unfold z_astore at h
  split at h
  · rename_i v S'
    cases hok : hy_ok1 i L with
    | false => rw [hok] at h; cases h
    | true =>
      rw [hok] at h
      exact lv_astore_n hx hb (hy_dqs d) hi (hy_LR_has hL) hn rfl (fun ls' h' => k _ S' cu su q ls' H locs (hy_LR_st1 (v := .ref v) hL hok h') hH hS h)
  · cases h
theorem hz_iinc (X : hz_Cx G x own cc nL fr lo mc ms) {i : Nat} {n : Int} {z : Int32} (d : hy_dq cc pc (.iinc i n) 3 = true) (hz : Int32.ofInt n = z) (hn : i < nL) (k : hz_Sn G x nL (pc + 3) b f) : hz_Sn G x nL pc b (z_iinc i z f) := by
  intro L S cu su q ls H locs hL hH hS h
  obtain ⟨p, l, e, R, s, m, args, below, meth, c, c0, s0, Q⟩ := x
  obtain ⟨hx, hb, hml, hown, hts, hlk, hK, hfr, hlo, hce, hsl⟩ := X
  unfold z_iinc at h
  split at h
  · rename_i v hv
    cases hok : hy_ok1 i L with
    | false => rw [hok] at h; cases h
    | true =>
      rw [hok] at h
      obtain ⟨w, hq⟩ := List.getElem?_of_mem (hy_kn_in (ad := G.1) hn hv)
      exact lv_iinc hx hb (hy_dqs d) (hy_LR_has hL) hq (by rw [hz]) hn rfl (fun ls' h' => k _ S cu su q ls' H locs (hy_LR_st1 (v := .int (v + z)) hL hok h') hH hS h)
  · cases h
theorem hz_iadd (X : hz_Cx G x own cc nL fr lo mc ms) (d : hy_dq cc pc .iadd 1 = true) (k : hz_Sn G x nL (pc + 1) b f) : hz_Sn G x nL pc b (z_iadd f) := by
  intro L S cu su q ls H locs hL hH hS h
  obtain ⟨p, l, e, R, s, m, args, below, meth, c, c0, s0, Q⟩ := x
  obtain ⟨hx, hb, hml, hown, hts, hlk, hK, hfr, hlo, hce, hsl⟩ := X
  unfold z_iadd at h
  split at h
  · exact lv_iadd hx hb (hy_dqs d) (k _ _ _ _ _ _ _ _ hL hH hS h)
  · cases h
theorem hz_dup (X : hz_Cx G x own cc nL fr lo mc ms) (d : hy_dq cc pc .dup 1 = true) (k : hz_Sn G x nL (pc + 1) b f) : hz_Sn G x nL pc b (z_dup f) := by
  intro L S cu su q ls H locs hL hH hS h
  obtain ⟨p, l, e, R, s, m, args, below, meth, c, c0, s0, Q⟩ := x
  obtain ⟨hx, hb, hml, hown, hts, hlk, hK, hfr, hlo, hce, hsl⟩ := X
  unfold z_dup at h
  split at h
  · exact lv_dup hx hb (hy_dqs d) rfl (k _ _ _ _ _ _ _ _ hL hH hS h)
  · cases h
theorem hz_goto (X : hz_Cx G x own cc nL fr lo mc ms) {off : Int} {tgt : Nat} (d : hy_dq cc pc (.goto off) 3 = true) (ht : (pc : Int) + off = (tgt : Int)) (k : hz_Sn G x nL tgt b f) : hz_Sn G x nL pc b f := by
  intro L S cu su q ls H locs hL hH hS h
  obtain ⟨p, l, e, R, s, m, args, below, meth, c, c0, s0, Q⟩ := x
  obtain ⟨hx, hb, hml, hown, hts, hlk, hK, hfr, hlo, hce, hsl⟩ := X
  exact lv_goto hx hb (hy_dqs d) ht (k _ _ _ _ _ _ _ _ hL hH hS h)
theorem hz_cge (X : hz_Cx G x own cc nL fr lo mc ms) {off : Int} {tgt : Nat} (d : hy_dq cc pc (.if_icmp .ge off) 3 = true) (ht : (pc : Int) + off = (tgt : Int)) (k1 : hz_Sn G x nL (pc + 3) b f) (k2 : hz_Sn G x nL tgt b g) : hz_Sn G x nL pc b (z_clt f g) := by
  intro L S cu su q ls H locs hL hH hS h
  obtain ⟨p, l, e, R, s, m, args, below, meth, c, c0, s0, Q⟩ := x
  obtain ⟨hx, hb, hml, hown, hts, hlk, hK, hfr, hlo, hce, hsl⟩ := X
  unfold z_clt at h
  split at h
  · exact lv_icmp_ge hx hb (hy_dqs d) ht (fun w => k2 _ _ _ _ _ _ _ _ hL hH hS (by rw [if_neg (Int32.not_lt.mpr w)] at h; exact h)) (fun w => k1 _ _ _ _ _ _ _ _ hL hH hS (by rw [if_pos (Int32.not_le.mp w)] at h; exact h))
  · cases h
theorem hz_getR (X : hz_Cx G x own cc nL fr lo mc ms) {index ci w : Nat} (fw : hy_fl own index ci w) (d : hy_dq cc pc (.getfield index) 3 = true) (k : hz_Sn G x nL (pc + 3) b f) : hz_Sn G x nL pc b (z_getR ci w f) := by
  intro L S cu su q ls H locs hL hH hS h
  obtain ⟨p, l, e, R, s, m, args, below, meth, c, c0, s0, Q⟩ := x
  obtain ⟨hx, hb, hml, hown, hts, hlk, hK, hfr, hlo, hce, hsl⟩ := X
  unfold z_getR at h
  split at h
  · rename_i o S'
    cases hok : hy_oc o ci w true && Nat.ble (o + 1) q.1 with
    | false => rw [hok] at h; cases h
    | true =>
      rw [hok] at h
      dsimp only [cond_true] at h
      simp only [Bool.and_eq_true, Nat.ble_eq] at hok
      split at h
      · rename_i r hr
        obtain ⟨rs, hsh, ⟨hf, -⟩ | ⟨-, r0, hr0, -⟩⟩ := hy_oc_spec hok.1
        · cases hf
        · obtain ⟨C, T, N, ty, ⟨hc, hu, -⟩, hk, hw⟩ := fw
          exact va_get hx hb hts hu hown hK.1 hH.2.1 o (by rw [hz_ws_get hok.2, hz_E_2 hsh]) hc w hk (hts _ hw) (fun _ h9 => h9) (v := .ref (G.1 r)) (by rw [hz_fs_get, hr0, Nat.zero_add, Option.map_some, hr]; rfl) (hy_dqs d) (k _ _ _ _ _ _ _ _ hL hH hS h)
      · cases h
  · cases h
theorem hz_HR_put {n : Nat} {D D' : hy_M} {P P' : Nat → Nat → Option Nat} {c : Nat} {e : va_E} {H H1 : Heap} (hz : H1.size = H.size) (hH : hz_HR G (n, D, P) H) (hc : c < n) (he : hz_E G D' P' c = e) (ho : ∀ c', c' ≠ c → D' c' = D c' ∧ P' c' = P c') (hP : va_P (G.2.1, G.2.2.1) vwCl ((hz_ws G (n, D, P)).set c (G.1 c, e)) H1) : hz_HR G (n, D', P') H1 := by
  rw [hz_ws_set (D' := D') (P' := P') hc he (fun c' h => hz_E_same (ho c' h).1 (ho c' h).2)] at hP
  exact ⟨by rw [hz]; exact hH.1, hP, hH.2.2⟩
theorem hz_putI (X : hz_Cx G x own cc nL fr lo mc ms) {index ci w : Nat} (fw : hy_fp own index ci w .int) (d : hy_dq cc pc (.putfield index) 3 = true) (k : hz_Sn G x nL (pc + 3) b f) : hz_Sn G x nL pc b (z_putI ci w f) := by
  intro L S cu su q ls H locs hL hH hS h
  obtain ⟨p, l, e, R, s, m, args, below, meth, c, c0, s0, Q⟩ := x
  obtain ⟨hx, hb, hml, hown, hts, hlk, hK, hfr, hlo, hce, hsl⟩ := X
  unfold z_putI at h
  split at h
  · rename_i v o S'
    cases hok : hy_oc o ci w false && Nat.ble (o + 1) q.1 with
    | false => rw [hok] at h; cases h
    | true =>
      rw [hok] at h
      dsimp only [cond_true] at h
      simp only [Bool.and_eq_true, Nat.ble_eq] at hok
      obtain ⟨rs, hsh, ⟨-, hrs⟩ | ⟨hf, -⟩⟩ := hy_oc_spec hok.1
      · obtain ⟨C, T, N, ty, ⟨hc, hu, hty, hnm⟩, hk, hw, hfin, ht⟩ := fw
        exact hz_put hx hb hts hu ty hty hnm hown hK.1 hH.2.1 (hz_D hK.2.1 q hH.2.2) hS o (fs := hz_fs G.1 q.2.1 q.2.2 o 0 rs) (by rw [hz_ws_get hok.2, hz_E_2 hsh]) hc w hk (hts _ hw) hfin (ty := .int) (v := .int v) (by rw [hty w hk, ht]) rfl rfl (by rw [hz_fs_len]; exact (List.getElem?_eq_some_iff.mp hrs).1) (hy_dqs d) (fun H1 locs1 hz1 hP1 hS1 => k _ _ _ _ _ _ _ _ hL (hz_HR_put (n := q.1) (D := q.2.1) (P := q.2.2) (D' := hy_w q.2.1 o w v) (P' := q.2.2) hz1 hH hok.2 (by rw [hz_E_2 hsh, hz_fs_setI hrs]) (fun c' h9 => ⟨hy_w_ne h9, rfl⟩) hP1) hS1 h)
      · cases hf
  · cases h
theorem hz_putZ (X : hz_Cx G x own cc nL fr lo mc ms) {index ci w : Nat} (fw : hy_fp own index ci w .boolean) (d : hy_dq cc pc (.putfield index) 3 = true) (k : hz_Sn G x nL (pc + 3) b f) : hz_Sn G x nL pc b (z_putZ ci w f) := by
  intro L S cu su q ls H locs hL hH hS h
  obtain ⟨p, l, e, R, s, m, args, below, meth, c, c0, s0, Q⟩ := x
  obtain ⟨hx, hb, hml, hown, hts, hlk, hK, hfr, hlo, hce, hsl⟩ := X
  unfold z_putZ at h
  split at h
  · rename_i v o S'
    cases hok : hy_oc o ci w false && Nat.ble (o + 1) q.1 with
    | false => rw [hok] at h; cases h
    | true =>
      rw [hok] at h
      dsimp only [cond_true] at h
      simp only [Bool.and_eq_true, Nat.ble_eq] at hok
      obtain ⟨rs, hsh, ⟨-, hrs⟩ | ⟨hf, -⟩⟩ := hy_oc_spec hok.1
      · obtain ⟨C, T, N, ty, ⟨hc, hu, hty, hnm⟩, hk, hw, hfin, ht⟩ := fw
        by_cases hv : v = 0 ∨ v = 1
        · rw [if_pos hv] at h
          have hn : narrow .boolean (.int v) = .int v := by rcases hv with rfl | rfl <;> rfl
          have hfit : fits .boolean (.int v) = true := by rcases hv with rfl | rfl <;> rfl
          exact hz_put hx hb hts hu ty hty hnm hown hK.1 hH.2.1 (hz_D hK.2.1 q hH.2.2) hS o (fs := hz_fs G.1 q.2.1 q.2.2 o 0 rs) (by rw [hz_ws_get hok.2, hz_E_2 hsh]) hc w hk (hts _ hw) hfin (ty := .boolean) (v := .int v) (by rw [hty w hk, ht]) hn hfit (by rw [hz_fs_len]; exact (List.getElem?_eq_some_iff.mp hrs).1) (hy_dqs d) (fun H1 locs1 hz1 hP1 hS1 => k _ _ _ _ _ _ _ _ hL (hz_HR_put (n := q.1) (D := q.2.1) (P := q.2.2) (D' := hy_w q.2.1 o w v) (P' := q.2.2) hz1 hH hok.2 (by rw [hz_E_2 hsh, hz_fs_setI hrs]) (fun c' h9 => ⟨hy_w_ne h9, rfl⟩) hP1) hS1 h)
        · rw [if_neg hv] at h
          cases h
      · cases hf
  · cases h
theorem hz_putR (X : hz_Cx G x own cc nL fr lo mc ms) {index ci w : Nat} (fw : hz_fr own index ci w) (hin2 : hz_init x) (d : hy_dq cc pc (.putfield index) 3 = true) (k : hz_Sn G x nL (pc + 3) b f) : hz_Sn G x nL pc b (z_putR ci w f) := by
  intro L S cu su q ls H locs hL hH hS h
  obtain ⟨p, l, e, R, s, m, args, below, meth, c, c0, s0, Q⟩ := x
  obtain ⟨hx, hb, hml, hown, hts, hlk, hK, hfr, hlo, hce, hsl⟩ := X
  unfold z_putR at h
  split at h
  · rename_i r o S'
    cases hok : hy_oc o ci w true && Nat.ble (o + 1) q.1 with
    | false => rw [hok] at h; cases h
    | true =>
      rw [hok] at h
      dsimp only [cond_true] at h
      simp only [Bool.and_eq_true, Nat.ble_eq] at hok
      obtain ⟨rs, hsh, ⟨hf, -⟩ | ⟨-, r0, hr0, -⟩⟩ := hy_oc_spec hok.1
      · cases hf
      · obtain ⟨C, T, N, ty, ⟨hc, hu, hty, hnm⟩, hk, hw, hfin, hdecl, ht⟩ := fw
        have hn : ∀ a : Nat, narrow (ty w) (.ref a) = .ref a := fun a => by
          cases hh : ty w <;> simp_all [narrow]
        have hfit : ∀ a : Nat, fits (ty w) (.ref a) = true := fun a => by
          rcases ht with ⟨C', h9⟩ | ⟨t', h9⟩ <;> rw [h9] <;> rfl
        exact hz_putF hx hb hts hu ty hty hnm hown hK.1 hH.2.1 (hz_D hK.2.1 q hH.2.2) hS o (fs := hz_fs G.1 q.2.1 q.2.2 o 0 rs) (by rw [hz_ws_get hok.2, hz_E_2 hsh]) hc w hk (hts _ hw) hfin hin2 hdecl (v := .ref (G.1 r)) (hty w hk) (hn _) (hfit _) (by rw [hz_fs_len]; exact (List.getElem?_eq_some_iff.mp hr0).1) (hy_dqs d) (fun H1 locs1 hz1 hP1 hS1 => k _ _ _ _ _ _ _ _ hL (hz_HR_put (n := q.1) (D := q.2.1) (P := q.2.2) (D' := q.2.1) (P' := hz_up q.2.2 o w (some r)) hz1 hH hok.2 (by rw [hz_E_2 hsh, hz_fs_setR hr0]) (fun c' h9 => ⟨rfl, hz_up_ne h9⟩) hP1) hS1 h)
  · cases h
theorem hz_iast (X : hz_Cx G x own cc nL fr lo mc ms) (d : hy_dq cc pc .iastore 1 = true) (k : hz_Sn G x nL (pc + 1) b f) : hz_Sn G x nL pc b (z_iast f) := by
  intro L S cu su q ls H locs hL hH hS h
  obtain ⟨p, l, e, R, s, m, args, below, meth, c, c0, s0, Q⟩ := x
  obtain ⟨hx, hb, hml, hown, hts, hlk, hK, hfr, hlo, hce, hsl⟩ := X
  unfold z_iast at h
  split at h
  · rename_i v j r S'
    cases hok : Nat.ble (r + 1) q.1 with
    | false => rw [hok] at h; cases h
    | true =>
      rw [hok] at h
      dsimp only [cond_true] at h
      have hlt : r < q.1 := Nat.le_of_ble_eq_true hok
      by_cases hi : hy_in j (hy_wl r) = true
      · rw [if_pos hi] at h
        obtain ⟨rs, hsh⟩ := hy_wl_spec (Nat.lt_of_le_of_lt (Nat.zero_le _) (hy_in_pos hi))
        have hcell := hH.2.1 r _ (hz_ws_get hlt)
        rw [hz_E_0 hsh] at hcell
        refine W.iast hx hb hcell ((hK.1.2 0 _ rfl).1 (hy_wl r) (fun j => .int (q.2.1 r j))) (fun w => by cases w) (by show ¬ (j < 0 ∨ (arrV _ _ _).slots.size ≤ _); rw [arrV_size]; exact hy_in_vp hi) rfl rfl (hy_dqs d) fun H1 e1 z1 oq => ?_
        have hDw := hz_D hK.2.1 q hH.2.2
        refine k _ _ _ _ _ _ _ _ hL (hz_HR_put (n := q.1) (D := q.2.1) (P := q.2.2) (D' := hy_w q.2.1 r j.toNatClampNeg v) (P' := q.2.2) z1 hH hlt (e := .inl (G.2.2.2.1, hy_wl r, .inl (upd (q.2.1 r) j.toNatClampNeg v))) (by rw [hz_E_0 hsh, hy_w_same]) (fun c' h9 => ⟨hy_w_ne h9, rfl⟩) (hH.2.1.set hDw (hz_ws_get hlt) ?_ oq)) (hS.put z1 oq (hDw.2 r (G.1 r, hz_E G q.2.1 q.2.2 r) (hz_ws_get hlt))) h
        show H1[G.1 r]? = some (vp_cell _ _)
        rw [e1, vp_cell_i, vp_cell_i, arrV_store]
        congr 2
        funext w
        by_cases hq : w = j.toNatClampNeg
        · subst hq
          simp [updV, upd]
        · simp [updV, upd, hq]
      · rw [if_neg hi] at h
        cases h
  · cases h
end HZ
/-! ===== new cells ===== -/
def hz_ni (own : String) (index ci N : Nat) : Prop := ∃ C T ty, hy_cls ci C T N ty ∧ Cond.classLink own index C ∈ hy_WT ∧ Cond.instantiable C N ∈ hy_WT ∧ Cond.initialized C ∈ hy_WT ∧ ∀ c rs, hy_sh c = (2, ci, rs) → rs.length = N → ∀ j, j < N → (rs[j]? = some none → defaultValue (ty j) = .int 0) ∧ ((∃ r, rs[j]? = some (some r)) → defaultValue (ty j) = .null)
theorem hz_S_grow {G : hy_G} {s : State} {H H1 : Heap} {locs : List Loc} {h : Nat} (hS : va_S (hz_A G) s.heap H locs) (hsz : H.size ≤ H1.size) (o : ∀ q, q < H.size → H1[q]? = H[q]?) : va_S (hz_A G) s.heap H1 locs :=
  ⟨Nat.le_trans hS.1 hsz, fun q h1 h2 => (o q (Nat.lt_of_lt_of_le h1 hS.1)).trans (hS.2.1 q h1 h2), hS.2.2⟩
theorem hz_P_grow {G : hy_G} {q : hz_S} {H H1 : Heap} (hH : hz_HR G q H) (o : ∀ a, a < H.size → H1[a]? = H[a]?) : va_P (G.2.1, G.2.2.1) vwCl (hz_ws G q) H1 := hH.2.1.kept (fun k x hx => o x.1 ((hH.2.1 k x hx).lt))
/-- one cell more -/
theorem hz_HR_add {G : hy_G} {n : Nat} {D D' : hy_M} {P P' : Nat → Nat → Option Nat} {H H1 : Heap} (hn : n < 81) (hH : hz_HR G (n, D, P) H) (hsz : H1.size = H.size + 1) (o : ∀ a, a < H.size → H1[a]? = H[a]?) (hsame : ∀ c, c < n → D' c = D c ∧ P' c = P c) (hat : va_at (G.2.1, G.2.2.1) vwCl (G.1 n, hz_E G D' P' n) H1) : hz_HR G (n + 1, D', P') H1 := by
  refine ⟨by rw [hsz, hH.1]; show _ = G.1 0 + (n + 1); omega, ?_, by show n + 1 ≤ 100; omega⟩
  rw [hz_ws_add (fun c hc => hz_E_same (hsame c hc).1 (hsame c hc).2)]
  refine (hz_P_grow hH o).app (fun k x hx => ?_)
  have h0 : k < 1 := (List.getElem?_eq_some_iff.mp hx).1
  rw [show k = 0 by omega] at hx
  cases hx
  exact hat
section HZN
variable {G : hy_G} {x : hy_X} {own : String} {cc : ByteArray} {nL fr lo mc ms pc : Nat} {b : hz_S} {f g : hz_C}
theorem hz_new (X : hz_Cx G x own cc nL fr lo mc ms) {index ci N : Nat} (w : hz_ni own index ci N) (d : hy_dq cc pc (.new index) 3 = true) (k : hz_Sn G x nL (pc + 3) b f) : hz_Sn G x nL pc b (z_new ci N mc ms f) := by
  intro L S cu su q ls H locs hL hH hS h
  obtain ⟨p, l, e, R, s, m, args, below, meth, c, c0, s0, Q⟩ := x
  obtain ⟨hx, hb, hml, hown, hts, hlk, hK, hfr, hlo, hce, hsl⟩ := X
  obtain ⟨n, D, P⟩ := q
  unfold z_new at h
  dsimp only at h
  split at h
  · rename_i ci' rs hsh
    cases hok : Nat.beq ci ci' && Nat.beq rs.length N && Nat.ble (cu + 1) mc && Nat.ble (su + N) ms with
    | false => rw [hok] at h; cases h
    | true =>
      rw [hok] at h
      dsimp only [cond_true] at h
      simp only [Bool.and_eq_true, Nat.ble_eq, Nat.beq_eq] at hok
      obtain ⟨⟨⟨rfl, hlen⟩, hc1⟩, hs1⟩ := hok
      obtain ⟨C, T, ty, ⟨hcl, hu, hty, hnm⟩, w1, w2, w3, hdef⟩ := w
      have hKn := hK.1.1 ci _ hcl
      have hlt := hy_sh_lt hsh (by omega)
      have hGn : H.size = G.1 n := by rw [hK.2.1 n (by omega)]; exact hH.1
      refine W.newcK hx hb hown (hts _ w1) (hts _ w2) (hts _ w3) rfl (hy_dqs d) (by omega) (by omega) hKn.2.1 hGn fun H1 kC hkC e1 z1 o1 => ?_
      rw [← hGn] at z1 o1
      refine k _ _ _ _ _ _ _ _ hL (hz_HR_add hlt hH z1 o1 (fun c9 h9 => ⟨hz_row_ne (by omega), hz_row_ne (by omega)⟩) ?_) (hz_S_grow (h := 0) hS (by omega) o1) h
      rw [hz_E_2 hsh]
      refine ⟨_, hcl, (u_born ty hts hu hKn hkC e1 hty).to (fun j hj => ?_)⟩
      have hd := hdef _ rs hsh hlen j hj
      unfold vp_V
      rw [List.getD_eq_getElem?_getD, hz_fs_get, hz_row_same, hz_row_same]
      cases hr : rs[j]? with
      | none =>
        have := List.getElem?_eq_none_iff.mp hr
        omega
      | some r =>
        cases r with
        | none => rw [hd.1 hr]; rfl
        | some r => rw [hd.2 ⟨r, hr⟩]; rfl
  · cases h
theorem hz_newa (X : hz_Cx G x own cc nL fr lo mc ms) (w : Cond.arrayClass .int ∈ hy_WT) (d : hy_dq cc pc (.newarray .int) 2 = true) (k : hz_Sn G x nL (pc + 2) b f) : hz_Sn G x nL pc b (z_newa mc ms f) := by
  intro L S cu su q ls H locs hL hH hS h
  obtain ⟨p, l, e, R, s, m, args, below, meth, c, c0, s0, Q⟩ := x
  obtain ⟨hx, hb, hml, hown, hts, hlk, hK, hfr, hlo, hce, hsl⟩ := X
  obtain ⟨n, D, P⟩ := q
  unfold z_newa at h
  dsimp only at h
  split at h
  · rename_i v S' j rs hsh
    cases hok : !(decide (v < 0)) && Nat.beq v.toNatClampNeg j && Nat.ble j 1000 && Nat.ble (cu + 1) mc && Nat.ble (su + j) ms with
    | false => rw [hok] at h; cases h
    | true =>
      rw [hok] at h
      dsimp only [cond_true] at h
      simp only [Bool.and_eq_true, Nat.ble_eq, Nat.beq_eq, Bool.not_eq_true', decide_eq_false_iff_not] at hok
      obtain ⟨⟨⟨⟨hv, hj⟩, h1000⟩, hc1⟩, hs1⟩ := hok
      have hlt := hy_sh_lt hsh (by omega)
      have hGn : H.size = G.1 n := by rw [hK.2.1 n (by omega)]; exact hH.1
      refine va_newaK (atype := .int) hx hb (hts _ w) rfl (hy_dqs d) (n := v) (rest := S'.map (hy_v G.1)) rfl hv hj (by show j * 4 ≤ _; omega) (by omega) (by omega) hGn fun H1 cA e1 z1 o1 hAr hNm => ?_
      rw [← hGn] at z1 o1
      have hcA : cA = G.2.2.2.1 := Option.some.inj (hNm.symm.trans (hK.1.2 0 _ rfl).2)
      refine k _ _ _ _ _ _ _ _ hL (hz_HR_add hlt hH z1 o1 (fun c9 h9 => ⟨hz_row_ne (by omega), hz_row_ne (by omega)⟩) ?_) (hz_S_grow (h := 0) hS (by omega) o1) h
      rw [hz_E_0 hsh, hz_row_same]
      show H1[G.1 n]? = some (vp_cell _ _)
      rw [e1, hcA]
      rfl
  · cases h
theorem hz_obj (X : hz_Cx G x own cc nL fr lo mc ms) {index : Nat} (w1 : Cond.methodLink own index objectInit ∈ hy_WT) (w2 : Cond.instanceMethod objectInit ∈ hy_WT) (w3 : Cond.code objectInit ⟨#[0xb1]⟩ 1 none ∈ hy_WT) (h1 : 1 ≤ fr) (h2 : 20 ≤ lo) (d : hy_dq cc pc (.invokespecial index) 3 = true) (k : hz_Sn G x nL (pc + 3) b f) : hz_Sn G x nL pc b (z_obj f) := by
  intro L S cu su q ls H locs hL hH hS h
  obtain ⟨p, l, e, R, s, m, args, below, meth, c, c0, s0, Q⟩ := x
  obtain ⟨hx, hb, hml, hown, hts, hlk, hK, hfr, hlo, hce, hsl⟩ := X
  unfold z_obj at h
  split at h
  · rename_i o S'
    cases hok : Nat.ble (hy_cat S') 8 with
    | false => rw [hok] at h; cases h
    | true =>
      rw [hok] at h
      dsimp only [cond_true] at h
      have e1 := hy_cat_sum G.1 S'
      have e2 := Nat.le_of_ble_eq_true hok
      exact W.objInit hx hb hown (hts _ w1) (hts _ w2) (hts _ w3) rfl (by rw [hml]; exact hL.1) rfl (hy_dqs d) (Nat.le_trans h1 hfr) (by show 2 * 0 + _ + 12 ≤ _; omega) (k _ _ _ _ _ _ _ _ hL hH hS h)
  · cases h
/-! ends and calls -/
def hz_Pc (G : hy_G) (a : List Value) (q : hz_S) : Array Value → State → Prop := fun v U => v = (a.map (hy_v G.1)).toArray ∧ hz_HR G q U.heap ∧ hz_K G U
def hz_Qv (G : hy_G) (q : hz_S) : Array Value → State → Outcome → State → Prop := fun _ st o t => o = .returned none ∧ hz_HR G q t.heap ∧ va_F (hz_A G) st t
abbrev hz_rm (fr lo mc ms : Nat) : Room := { frames := fr, cells := mc, slots := ms, locals := lo }
def hz_M (l : Launch) (G : hy_G) (y : MethodName) (cc : ByteArray) (nL fr lo mc ms : Nat) (g : List Value → hz_S → Option hz_S) : Prop := ∀ (a : List Value) (q q' : hz_S), g a q = some q' → Met l y (Cond.code y cc nL none :: hy_WT) (hz_rm fr lo mc ms) (hz_Pc G a q) (hz_Qv G q') mc ms (hz_A G)
def hz_Rv (G : hy_G) (x : hy_X) (b : hz_S) (mc ms : Nat) : Prop := match x with
  | (_, _, _, _, s, _, args, below, meth, _, _, _, Q) => Q = MQ below (hz_Qv G b) args s mc ms (hz_A G) ∧ meth.sig.returnType = none
theorem hz_vret (X : hz_Cx G x own cc nL fr lo mc ms) (r : hz_Rv G x b mc ms) (d : hy_dq cc pc .return_ 1 = true) : hz_Sn G x nL pc b (z_vret mc ms) := by
  intro L S cu su q ls H locs hL hH hS h
  obtain ⟨p, l, e, R, s, m, args, below, meth, c, c0, s0, Q⟩ := x
  obtain ⟨hx, hb, hml, hown, hts, hlk, hK, hfr, hlo, hce, hsl⟩ := X
  obtain ⟨rfl, hr⟩ := r
  unfold z_vret at h
  split at h
  · cases hok : Nat.ble cu mc && Nat.ble su ms with
    | false => rw [hok] at h; cases h
    | true =>
      rw [hok] at h
      dsimp only [cond_true] at h
      simp only [Bool.and_eq_true, Nat.ble_eq] at hok
      cases h
      refine W.widen (k := mc) (n := ms) hok.1 hok.2 ?_
      exact W.vret hx hb hr (fun t ht hW => ⟨rfl, by rw [ht]; exact hH, hS.F ht⟩) hS.2.2 (hy_dqs d) hlk
  · cases h
theorem hz_K.moved {s U : State} (h : hz_K G s) (hW : s.WarmedH U.vm) : hz_K G U := by
  obtain ⟨h1, h2, h3, a1, a2, a3, a4, a5, a6⟩ := h
  exact ⟨va_K.moved hW.alike h1, h2, over_moved hW.alike h3, va_Nw.warmM hW a1, va_Nw.warmM hW a2, va_Nw.warmM hW a3, va_Nw.warmM hW a4, va_Nw.warmM hW a5, va_Nw.warmM hW a6⟩
theorem hz_blind (G : hy_G) (a : List Value) (q : hz_S) : FrameBlind (hz_Pc G a q) := by
  intro v U g mk w
  obtain ⟨w1, w2, h1, h2, h3, a1, a2, a3, a4, a5, a6⟩ := w
  exact ⟨w1, w2, va_K.moved (u := U) (U := U.calling g mk v) (Vm.Alike.refl U.vm) h1, h2, over_moved (u := U) (E := U.calling g mk v) (Vm.Alike.refl U.vm) h3, va_Nw.same rfl rfl a1, va_Nw.same rfl rfl a2, va_Nw.same rfl rfl a3, va_Nw.same rfl rfl a4, va_Nw.same rfl rfl a5, va_Nw.same rfl rfl a6⟩
theorem hz_after {p : Program} {l : Launch} {e : Env} {R : Room} {s : State} {m : MethodId} {args : Array Value} {below : List Frame} {meth : Method} {c : Code} {H : Heap} {locs : List Loc} {cells slots pc mc ms : Nat} {Q : State → Prop} {ls : Array Slot} {st0 rest : List Value} {q : hz_S} {Qa : State → Outcome → State → Prop}
    (hr : va_Run p l e R s m args below meth c H locs cells slots mc ms (F0 m pc ls st0) rest Qa (hz_A G)) (hQ : ∀ st o t, Qa st o t → o = .returned none ∧ hz_HR G q t.heap ∧ va_F (hz_A G) st t) (hS : va_S (hz_A G) s.heap H locs)
    (kk : ∀ (H1 : Heap) (locs1 : List Loc), hz_HR G q H1 → va_S (hz_A G) s.heap H1 locs1 → W p l e R s m args below meth c H1 locs1 (cells + mc) (slots + ms) Q (F0 m (pc + 3) ls rest)) : W p l e R s m args below meth c H locs cells slots Q (F0 m pc ls st0) := by
  intro T hT X
  obtain ⟨v, st₀, t, T', L, h0, X', hL, e1, e2, hq, st⟩ := hr T hT X
  obtain ⟨hv, hH, hz, hk⟩ := hQ _ _ _ hq
  cases hv
  rw [h0] at hz hk
  obtain ⟨t2, a1, b1⟩ := kk T'.heap (locs ++ L) (by rw [e1]; exact hH) ⟨Nat.le_trans hS.1 (by rw [e1]; exact hz), fun q h1 h2 => by rw [e1, hk q (Nat.lt_of_lt_of_le h1 hS.1) h2]; exact hS.2.1 q h1 h2, fun q hq => by
      rcases List.mem_append.mp hq with h | h
      · exact hS.2.2 q h
      · exact hL q h⟩ T' rfl X'
  exact ⟨t2, st t2 a1, b1⟩
/-- a constructor's words -/
def hz_yi (y : MethodName) (cc : ByteArray) (nL : Nat) : Prop := Cond.instanceMethod y ∈ hy_WT ∧ Cond.initialized y.cls ∈ hy_WT ∧ Cond.code y cc nL none ∈ hy_WT ∧ y.name = "<init>" ∧ (y.cls ≠ "java/lang/invoke/MethodHandle" ∧ y.cls ≠ "java/lang/invoke/VarHandle" ∧ (parseMethodDescriptor y.desc).map (fun d => d.parameters.length) = some 0)
theorem hz_ini (X : hz_Cx G x own cc nL fr lo mc ms) {y : MethodName} {c' : ByteArray} {nL' fr' lo' mc' ms' index : Nat} {u : List Value → hz_S → Option hz_S} (M : ∀ l, hz_M l G y c' nL' fr' lo' mc' ms' u) (Y : hz_yi y c' nL') (w : Cond.methodLink own index y ∈ hy_WT) (d : hy_dq cc pc (.invokespecial index) 3 = true) (h1 : fr' + 1 ≤ fr) (h2 : 19 + nL' + lo' ≤ lo) (k : hz_Sn G x nL (pc + 3) b f) : hz_Sn G x nL pc b (z_ini mc ms mc' ms' u f) := by
  intro L S cu su q ls H locs hL hH hS h
  obtain ⟨p, l, e, R, s, m, args, below, meth, c, c0, s0, Q⟩ := x
  obtain ⟨hx, hb, hml, hown, hts, hlk, hK, hfr, hlo, hce, hsl⟩ := X
  unfold z_ini at h
  split at h
  · rename_i o S'
    cases hok : Nat.ble (hy_cat S') 8 && Nat.ble (cu + mc') mc && Nat.ble (su + ms') ms with
    | false => rw [hok] at h; cases h
    | true =>
      rw [hok] at h
      dsimp only [cond_true] at h
      simp only [Bool.and_eq_true, Nat.ble_eq] at hok
      obtain ⟨q', he, hf2⟩ := Option.bind_eq_some_iff.mp h
      obtain ⟨y1, y2, y3, y4, y5⟩ := Y
      have cw := cwI (R := R) (rm := hz_rm fr' lo' mc' ms') 0 hts (hy_good y3) rfl rfl rfl (hts _ y2) (hts _ w) (hts _ y1) y4 y5 ⟨Nat.le_trans h1 hfr, by show 8 + (nL' + 11) + lo' ≤ R.locals; omega⟩
      have e1 := hy_cat_sum G.1 S'
      exact hz_after (va_runI (As := []) (rest := S'.map (hy_v G.1)) ⟨hx, hb, hml, hown, hts⟩ (M l [.ref o] q q' he) cw ⟨hz_blind G [.ref o] q, fun U hU hW => ⟨rfl, by rw [hU]; exact hH, hK.moved hW⟩⟩ rfl rfl hL.1 rfl (lv_room (by omega)) (hy_dqs d) ⟨by omega, by omega⟩) (fun _ _ _ q => q) hS (fun H1 locs1 hH1 hS1 => k _ S' _ _ _ _ _ _ hL hH1 hS1 hf2)
  · cases h
theorem hz_iniN (X : hz_Cx G x own cc nL fr lo mc ms) {y : MethodName} {c' : ByteArray} {nL' fr' lo' mc' ms' index : Nat} {u : List Value → hz_S → Option hz_S} (M : ∀ l, hz_M l G y c' nL' fr' lo' mc' ms' u) (Y : hz_yi y c' nL') (w : ∀ s, hz_K G s → va_Nw (.methodLinkNest own index y "HumpYard") s) (d : hy_dq cc pc (.invokespecial index) 3 = true) (h1 : fr' + 1 ≤ fr) (h2 : 19 + nL' + lo' ≤ lo) (k : hz_Sn G x nL (pc + 3) b f) : hz_Sn G x nL pc b (z_ini mc ms mc' ms' u f) := by
  intro L S cu su q ls H locs hL hH hS h
  obtain ⟨p, l, e, R, s, m, args, below, meth, c, c0, s0, Q⟩ := x
  obtain ⟨hx, hb, hml, hown, hts, hlk, hK, hfr, hlo, hce, hsl⟩ := X
  unfold z_ini at h
  split at h
  · rename_i o S'
    cases hok : Nat.ble (hy_cat S') 8 && Nat.ble (cu + mc') mc && Nat.ble (su + ms') ms with
    | false => rw [hok] at h; cases h
    | true =>
      rw [hok] at h
      dsimp only [cond_true] at h
      simp only [Bool.and_eq_true, Nat.ble_eq] at hok
      obtain ⟨q', he, hf2⟩ := Option.bind_eq_some_iff.mp h
      obtain ⟨y1, y2, y3, y4, y5⟩ := Y
      have cw := va_cnB (R := R) (rm := hz_rm fr' lo' mc' ms') 0 hts (hy_good y3) rfl rfl rfl (w s hK) (hts _ y2) y5 ⟨Nat.le_trans h1 hfr, by show 8 + (nL' + 11) + lo' ≤ R.locals; omega⟩
      have e1 := hy_cat_sum G.1 S'
      exact hz_after (va_runIN (As := []) (rest := S'.map (hy_v G.1)) ⟨hx, hb, hml, hown, hts⟩ (M l [.ref o] q q' he) ⟨cw, y4, hts _ y1⟩ ⟨hz_blind G [.ref o] q, fun U hU hW => ⟨rfl, by rw [hU]; exact hH, hK.moved hW⟩⟩ rfl rfl hL.1 rfl (lv_room (by omega)) (hy_dqs d) ⟨by omega, by omega⟩) (fun _ _ _ q => q) hS (fun H1 locs1 hH1 hS1 => k _ S' _ _ _ _ _ _ hL hH1 hS1 hf2)
  · cases h
end HZN
theorem hz_met {G : hy_G} {y : MethodName} {cc : ByteArray} {nL fr lo mc ms : Nat} {f : hz_C} (hp : plainName y.cls = true) (hn : y.name = "<init>") (body : ∀ (x : hy_X) (b : hz_S), hz_Cx G x y.cls cc nL fr lo mc ms → hz_init x → hz_Rv G x b mc ms → hz_Sn G x nL 0 b f) : ∀ l, hz_M l G y cc nL fr lo mc ms (hz_g nL f) := by
  intro l a q q' hg
  refine Met.ofW (cc := cc) (maxL := nL) (ret := none) hp rfl ?_
  intro p e s m args below meth c s₁ B hml hv
  obtain ⟨rfl, hH, hK⟩ := hv
  have hts := atoms_spec (ws := Cond.code y cc nL none :: hy_WT) B.pre
  have hin : meth.name = "<init>" := by rw [← hn]; exact (name_of_methodNamed B.named B.method).1
  unfold hz_g at hg
  cases hle : Nat.ble (hy_wd a) nL with
  | false => rw [hle] at hg; cases hg
  | true =>
    rw [hle] at hg
    rw [lg_entry_eq]
    exact body (p, l, e, _, s, m, _, below, meth, c, 0, 0, _) q' ⟨B.exec, B.bytes, hml, findClass_of_methodNamed B.named, fun w hw => hts w (List.mem_cons_of_mem _ hw), B.notSynchronized, hK, Nat.le_refl _, Nat.le_refl _, Nat.le_refl _, Nat.le_refl _⟩ hin ⟨rfl, B.returns⟩ _ [] 0 0 q _ s.heap [] (hy_entry (Nat.le_of_ble_eq_true hle)) hH va_S.rf hg
