/-! ===== the light machine: threaded code over a memory of ints, and what it says of the real one ===== -/
/-- the memory: by a cell's number and a place in it -/
abbrev hy_M : Type := Nat → Nat → Int32
/-- locals that are known -/
abbrev hy_L : Type := List (Option Value)
/-- threaded code: locals, operand stack, memory -/
abbrev hy_C (β : Type) : Type := hy_L → List Value → hy_M → Option β
def hy_lget : Nat → hy_L → Option Value
  | _, [] => none
  | 0, x :: _ => x
  | n + 1, _ :: l => hy_lget n l
def hy_lset : Nat → Value → hy_L → hy_L
  | _, _, [] => []
  | 0, v, _ :: l => some v :: l
  | n + 1, v, x :: l => x :: hy_lset n v l
def hy_w (D : hy_M) (c i : Nat) (x : Int32) : hy_M := fun c' => if c' = c then upd (D c) i x else D c'
def hy_cp (D : hy_M) (a b sp dp n : Nat) : hy_M := fun c' => if c' = b then va_cpy (D a) (D b) sp dp n else D c'
def hy_in (j : Int32) (n : Nat) : Bool := !(decide (j < 0)) && Nat.ble (j.toNatClampNeg + 1) n
theorem hy_in_vp {j : Int32} {n : Nat} (h : hy_in j n = true) : vp_in j n := by
  simp only [hy_in, Bool.and_eq_true, Bool.not_eq_true', decide_eq_false_iff_not, Nat.ble_eq] at h
  rintro (q | q)
  · exact h.1 q
  · omega
/-- the static shape: kind (0 ints, 1 references, 2 an object), size or class, what references it holds -/
abbrev hy_Sh : Type := List (Nat × Nat × List (Option Nat))
abbrev hy_G : Type := (Nat → Nat) × (Nat → ClassId) × (Nat → Nat → Nat) × ClassId × ClassId
def hy_v (ad : Nat → Nat) : Value → Value
  | .ref c => .ref (ad c)
  | v => v
/-- the cells that the two constructors make, in their order -/
def hy_shape : hy_Sh := [
  (2, 7, [some 1, some 19, none, some 37, some 39, some 41, some 48, some 55, some 58, some 66]),
  (2, 6, [none, none, none, none, some 2, some 3, some 4, some 5, some 6, some 9, some 10, some 11]),
  (0, 8, []),
  (0, 8, []),
  (0, 8, []),
  (0, 8, []),
  (1, 2, [some 7, some 8]),
  (0, 8, []),
  (0, 8, []),
  (0, 2, []),
  (0, 3, []),
  (2, 1, [some 12, some 18]),
  (1, 5, [some 13, some 14, some 15, some 16, some 17]),
  (0, 8, []),
  (0, 8, []),
  (0, 8, []),
  (0, 8, []),
  (0, 8, []),
  (0, 5, []),
  (2, 6, [none, none, none, none, some 20, some 21, some 22, some 23, some 24, some 27, some 28, some 29]),
  (0, 8, []),
  (0, 8, []),
  (0, 8, []),
  (0, 8, []),
  (1, 2, [some 25, some 26]),
  (0, 8, []),
  (0, 8, []),
  (0, 2, []),
  (0, 3, []),
  (2, 1, [some 30, some 36]),
  (1, 5, [some 31, some 32, some 33, some 34, some 35]),
  (0, 8, []),
  (0, 8, []),
  (0, 8, []),
  (0, 8, []),
  (0, 8, []),
  (0, 5, []),
  (2, 5, [some 38, none]),
  (0, 40, []),
  (2, 3, [some 40, none]),
  (0, 71, []),
  (2, 2, [some 42, some 47]),
  (1, 4, [some 43, some 44, some 45, some 46]),
  (0, 12, []),
  (0, 12, []),
  (0, 12, []),
  (0, 12, []),
  (0, 4, []),
  (2, 0, [some 49, none, some 50, some 51, some 52, some 53, none, some 54]),
  (0, 8, []),
  (0, 8, []),
  (0, 8, []),
  (0, 3, []),
  (0, 9, []),
  (0, 8, []),
  (2, 4, [some 56, some 57, none, none, none]),
  (0, 8, []),
  (0, 8, []),
  (2, 1, [some 59, some 65]),
  (1, 5, [some 60, some 61, some 62, some 63, some 64]),
  (0, 8, []),
  (0, 8, []),
  (0, 8, []),
  (0, 8, []),
  (0, 8, []),
  (0, 5, []),
  (0, 8, []),
  (2, 8, [some 68, some 69, some 70, none, some 71, none, some 72, some 73, some 74, some 75, some 76, none, none, none, none, some 77, none, some 78, some 79, some 80]),
  (0, 94, []),
  (0, 94, []),
  (0, 94, []),
  (0, 40, []),
  (0, 8, []),
  (0, 8, []),
  (0, 8, []),
  (0, 8, []),
  (0, 3, []),
  (0, 80, []),
  (0, 8, []),
  (0, 48, []),
  (0, 4, [])]
def hy_sh (c : Nat) : Nat × Nat × List (Option Nat) := hy_shape.getD c (3, 0, [])
def hy_al (c : Nat) : Nat := match hy_sh c with
  | (0, n, _) => n
  | _ => bif Nat.beq c 1000 then 8 else 0
def hy_wl (c : Nat) : Nat := match hy_sh c with
  | (0, n, _) => n
  | _ => 0
def hy_rl (c : Nat) : Nat := match hy_sh c with
  | (1, n, _) => n
  | _ => 0
def hy_pr (c k : Nat) : Nat := ((hy_sh c).2.2.getD k none).getD 0
/-- an object of class ci, its field k an int (r false) or a reference -/
def hy_oc (c ci k : Nat) (r : Bool) : Bool := match hy_sh c with
  | (2, ci', rs) => Nat.beq ci ci' && (match rs[k]? with
    | some (some _) => r
    | some none => !r
    | none => false)
  | _ => false
def hy_cl (c ci : Nat) : Bool := match hy_sh c with
  | (2, ci', _) => Nat.beq ci ci'
  | _ => false
def hy_fs (ad : Nat → Nat) (D : hy_M) (c : Nat) : Nat → List (Option Nat) → List Value
  | _, [] => []
  | k, some q :: rs => .ref (ad q) :: hy_fs ad D c (k + 1) rs
  | k, none :: rs => .int (D c k) :: hy_fs ad D c (k + 1) rs
def hy_E (G : hy_G) (D : hy_M) (c : Nat) : va_E := match hy_sh c with
  | (0, n, _) => .inl (G.2.2.2.1, n, .inl (D c))
  | (1, n, rs) => .inl (G.2.2.2.2, n, .inr (.inr (.inr (.inr (fun j => if j < n then some (G.1 ((rs.getD j none).getD 0)) else none)))))
  | (_, ci, rs) => .inr (ci, hy_fs G.1 D c 0 rs)
def hy_ws (G : hy_G) (D : hy_M) : va_W := (List.range 81).map (fun c => (G.1 c, hy_E G D c))
def hy_A (G : hy_G) : Nat → Prop := fun q => ∃ c, c < 81 ∧ G.1 c = q
def hy_inj (G : hy_G) : Prop := ∀ i j, i < 81 → j < 81 → G.1 i = G.1 j → i = j
def hy_HR (G : hy_G) (D : hy_M) (H : Heap) : Prop := va_P (G.2.1, G.2.2.1) vwCl (hy_ws G D) H ∧ ∀ j, j < 8 → D 1000 j = nI j
def hy_nestY : Cond := .fieldLinkNest "HumpYard$Yard" 101 "HumpYard" "AS_THEY_COME" "[I" "HumpYard"
def hy_nestR : Cond := .fieldLinkNest "HumpYard$Renumbering" 28 "HumpYard" "AS_THEY_COME" "[I" "HumpYard"
def hy_K (G : hy_G) (U : State) : Prop :=
  va_K (G.2.1, G.2.2.1) vwCl [(G.2.2.2.1, .int), (G.2.2.2.2, .array .int)] U ∧ va_Z "HumpYard" "AS_THEY_COME" "[I" (.ref (G.1 1000)) (hy_A G) U U.heap ∧ va_T .int (G.1 1000) 8 (fun j => .int (nI j)) (hy_A G) U U.heap ∧ va_Nw hy_nestY U ∧ va_Nw hy_nestR U ∧ hy_inj G
theorem hy_sh_lt {c k n : Nat} {rs : List (Option Nat)} (h : hy_sh c = (k, n, rs)) (hk : k < 3) : c < 81 := by
  by_cases hc : c < 81
  · exact hc
  · have e : hy_shape.length = 81 := by decide +kernel
    have : hy_sh c = (3, 0, []) := by
      unfold hy_sh
      rw [List.getD_eq_getElem?_getD, List.getElem?_eq_none (by omega)]
      rfl
    rw [this] at h
    cases h
    omega
theorem hy_ws_get {G : hy_G} {D : hy_M} {c : Nat} (h : c < 81) : (hy_ws G D)[c]? = some (G.1 c, hy_E G D c) := by
  unfold hy_ws
  rw [List.getElem?_map, List.getElem?_range h]
  rfl
theorem hy_ws_set {G : hy_G} {D D' : hy_M} {c : Nat} {e : va_E} (h : c < 81) (he : hy_E G D' c = e) (ho : ∀ c', c' < 81 → c' ≠ c → hy_E G D' c' = hy_E G D c') : (hy_ws G D).set c (G.1 c, e) = hy_ws G D' := by
  apply List.ext_getElem?
  intro i
  by_cases hi : i < 81
  · rw [hy_ws_get hi]
    by_cases hc : i = c
    · subst hc
      rw [List.getElem?_set_self (by simp [hy_ws, hi]), he]
    · rw [List.getElem?_set_ne (fun q => hc q.symm), hy_ws_get hi, ho i hi hc]
  · rw [List.getElem?_eq_none (by simp [hy_ws]; omega), List.getElem?_eq_none (by simp [hy_ws]; omega)]
theorem hy_D {G : hy_G} (h : hy_inj G) (D : hy_M) : va_D (hy_A G) (hy_ws G D) := by
  have key : ∀ (k : Nat) (q : Nat × va_E), (hy_ws G D)[k]? = some q → k < 81 ∧ q.1 = G.1 k := by
    intro k q hk
    have hl : k < 81 := by
      have := (List.getElem?_eq_some_iff.mp hk).1
      simpa [hy_ws] using this
    rw [hy_ws_get hl] at hk
    cases hk
    exact ⟨hl, rfl⟩
  refine ⟨fun i j p q hi hj hpq => ?_, fun k q hk => ?_⟩
  · obtain ⟨a1, a2⟩ := key i p hi
    obtain ⟨b1, b2⟩ := key j q hj
    exact h i j a1 b1 (by rw [← a2, ← b2]; exact hpq)
  · obtain ⟨a1, a2⟩ := key k q hk
    exact ⟨k, a1, a2.symm⟩
theorem hy_fs_get (ad : Nat → Nat) (D : hy_M) (c : Nat) : ∀ (rs : List (Option Nat)) (k j : Nat), (hy_fs ad D c k rs)[j]? = (rs[j]?).map (fun r => match r with | some q => Value.ref (ad q) | none => Value.int (D c (k + j)))
  | [], k, j => by simp [hy_fs]
  | some q :: rs, k, 0 => by simp [hy_fs]
  | none :: rs, k, 0 => by simp [hy_fs]
  | some q :: rs, k, j + 1 => by
    simp only [hy_fs, List.getElem?_cons_succ]
    rw [hy_fs_get ad D c rs (k + 1) j, show k + 1 + j = k + (j + 1) by omega]
  | none :: rs, k, j + 1 => by
    simp only [hy_fs, List.getElem?_cons_succ]
    rw [hy_fs_get ad D c rs (k + 1) j, show k + 1 + j = k + (j + 1) by omega]
theorem hy_fs_len (ad : Nat → Nat) (D : hy_M) (c : Nat) : ∀ (rs : List (Option Nat)) (k : Nat), (hy_fs ad D c k rs).length = rs.length
  | [], k => rfl
  | some q :: rs, k => by simp [hy_fs, hy_fs_len ad D c rs]
  | none :: rs, k => by simp [hy_fs, hy_fs_len ad D c rs]
theorem hy_w_same (D : hy_M) (c i : Nat) (x : Int32) : hy_w D c i x c = upd (D c) i x := by simp [hy_w]
theorem hy_w_ne {D : hy_M} {c c' i : Nat} {x : Int32} (h : c' ≠ c) : hy_w D c i x c' = D c' := by simp [hy_w, h]
theorem hy_fs_same {ad : Nat → Nat} {D D' : hy_M} {c : Nat} (h : D' c = D c) : ∀ (rs : List (Option Nat)) (k : Nat), hy_fs ad D' c k rs = hy_fs ad D c k rs
  | [], k => rfl
  | some q :: rs, k => by simp [hy_fs, hy_fs_same h rs]
  | none :: rs, k => by simp [hy_fs, hy_fs_same h rs, h]
theorem hy_fs_set {ad : Nat → Nat} {D : hy_M} {c j : Nat} {x : Int32} {rs : List (Option Nat)} (hj : rs[j]? = some none) : (hy_fs ad D c 0 rs).set j (.int x) = hy_fs ad (hy_w D c j x) c 0 rs := by
  apply List.ext_getElem?
  intro i
  by_cases hc : i = j
  · subst hc
    have hl : i < rs.length := (List.getElem?_eq_some_iff.mp hj).1
    rw [List.getElem?_set_self (by rw [hy_fs_len]; exact hl), hy_fs_get, hj]
    simp [hy_w_same, upd]
  · rw [List.getElem?_set_ne (fun q => hc q.symm), hy_fs_get, hy_fs_get]
    simp [hy_w_same, upd, hc]
theorem hy_E_same {G : hy_G} {D D' : hy_M} {c : Nat} (h : D' c = D c) : hy_E G D' c = hy_E G D c := by
  unfold hy_E
  split <;> simp_all [hy_fs_same]
/-! ===== one frame ===== -/
abbrev hy_X : Type := Program × Launch × Env × Room × State × MethodId × Array Value × List Frame × Method × Code × Nat × Nat × (State → Prop)
def hy_WT : List Cond := lw_tbl.filter goodWord
theorem hy_WT_in {w : Cond} (h : w ∈ lw_tbl) (g : goodWord w = true) : w ∈ hy_WT := List.mem_filter.mpr ⟨h, g⟩
theorem hy_in_tb {w : Cond} {i : Nat} (h : tables_1[i]? = some w) (g : goodWord w = true) : w ∈ hy_WT := hy_WT_in (List.mem_append_right _ (List.mem_of_getElem? h)) g
theorem hy_in_sel {w : Cond} {i : Nat} (h : (k2_sels lw_privs)[i]? = some w) (g : goodWord w = true) : w ∈ hy_WT := hy_WT_in (List.mem_append_left _ (List.mem_of_getElem? h)) g
def hy_Wt : hy_X → Heap → List Loc → Nat → Array Slot → List Value → Prop
  | (p, l, e, R, s, m, args, below, meth, c, cells, slots, Q), H, locs, pc, ls, st => W p l e R s m args below meth c H locs cells slots Q (F0 m pc ls st)
def hy_st : hy_X → State
  | (_, _, _, _, s, _, _, _, _, _, _, _, _) => s
/-- what a frame stands on -/
def hy_Cx (G : hy_G) (x : hy_X) (own : String) (cc : ByteArray) (nL fr lo : Nat) : Prop := match x with
  | (p, _, _, R, s, m, args, _, meth, c, cells, slots, _) => p.tables.exec = Jvm.exec ∧ c.code = cc ∧ c.maxLocals = nL ∧ s.vm.findClass own = some m.cls ∧ (∀ w ∈ hy_WT, w.before args s = true) ∧ meth.locks = false ∧ hy_K G s ∧ fr ≤ R.frames ∧ lo ≤ R.locals ∧ cells ≤ R.cells ∧ slots ≤ R.slots
def hy_LR (ad : Nat → Nat) (nL : Nat) (L : hy_L) (ls : Array Slot) : Prop := ls.size = nL ∧ lv_wf ls ∧ ∀ i v, hy_lget i L = some v → ls[i]? = some (.val (hy_v ad v))
/-- threaded code at pc speaks true: whenever it answers b, the machine comes to its end -/
def hy_Sn (G : hy_G) (x : hy_X) (nL pc : Nat) {β : Type} (b : β) (f : hy_C β) : Prop := ∀ (L : hy_L) (S : List Value) (D : hy_M) (ls : Array Slot) (H : Heap) (locs : List Loc), hy_LR G.1 nL L ls → hy_HR G D H → va_S (hy_A G) (hy_st x).heap H locs → f L S D = some b → hy_Wt x H locs pc ls (S.map (hy_v G.1))
def hy_dq (cc : ByteArray) (pc : Nat) (i : Instr) (n : Nat) : Bool := decide (decode cc pc = .ok (i, n))
theorem hy_dqs {cc : ByteArray} {pc n : Nat} {i : Instr} (h : hy_dq cc pc i n = true) : decode cc pc = .ok (i, n) := of_decide_eq_true h
def o_fail {β : Type} : hy_C β := fun _ _ _ => none
def o_push {β : Type} (v : Value) (f : hy_C β) : hy_C β := fun L S D => f L (v :: S) D
def o_iload {β : Type} (i : Nat) (f : hy_C β) : hy_C β := fun L S D => match hy_lget i L with
  | some (.int v) => f L (.int v :: S) D
  | _ => none
def o_lload {β : Type} (i : Nat) (f : hy_C β) : hy_C β := fun L S D => match hy_lget i L with
  | some (.long v) => f L (.long v :: S) D
  | _ => none
def o_aload {β : Type} (i : Nat) (f : hy_C β) : hy_C β := fun L S D => match hy_lget i L with
  | some (.ref v) => f L (.ref v :: S) D
  | _ => none
def hy_isL : Option Value → Bool
  | some (.long _) => true
  | some (.double _) => true
  | _ => false
/-- the place ahead holds no long: it stays when this one is written -/
def hy_ok1 : Nat → hy_L → Bool
  | 0, _ => true
  | i + 1, L => !(hy_isL (hy_lget i L))
def o_istore {β : Type} (i : Nat) (f : hy_C β) : hy_C β := fun L S D => match S with
  | .int v :: S' => bif hy_ok1 i L then f (hy_lset i (.int v) L) S' D else none
  | _ => none
def o_astore {β : Type} (i : Nat) (f : hy_C β) : hy_C β := fun L S D => match S with
  | .ref v :: S' => bif hy_ok1 i L then f (hy_lset i (.ref v) L) S' D else none
  | _ => none
def hy_lkill : Nat → hy_L → hy_L
  | _, [] => []
  | 0, _ :: l => none :: l
  | n + 1, x :: l => x :: hy_lkill n l
def o_lstore {β : Type} (i : Nat) (f : hy_C β) : hy_C β := fun L S D => match S with
  | .long v :: S' => bif hy_ok1 i L then f (hy_lkill (i + 1) (hy_lset i (.long v) L)) S' D else none
  | _ => none
def o_iinc {β : Type} (i : Nat) (n : Int32) (f : hy_C β) : hy_C β := fun L S D => match hy_lget i L with
  | some (.int v) => bif hy_ok1 i L then f (hy_lset i (.int (v + n)) L) S D else none
  | _ => none
def o_i2 {β : Type} (op : Int32 → Int32 → Int32) (f : hy_C β) : hy_C β := fun L S D => match S with
  | .int y :: .int z :: S' => f L (.int (op z y) :: S') D
  | _ => none
def o_idiv {β : Type} (f : hy_C β) : hy_C β := fun L S D => match S with
  | .int y :: .int z :: S' => if y = 0 then none else f L (.int (z / y) :: S') D
  | _ => none
def o_irem {β : Type} (f : hy_C β) : hy_C β := fun L S D => match S with
  | .int y :: .int z :: S' => if y = 0 then none else f L (.int (z - z / y * y) :: S') D
  | _ => none
def o_ldiv {β : Type} (f : hy_C β) : hy_C β := fun L S D => match S with
  | .long y :: .long z :: S' => if y = 0 then none else f L (.long (z / y) :: S') D
  | _ => none
def o_lrem {β : Type} (f : hy_C β) : hy_C β := fun L S D => match S with
  | .long y :: .long z :: S' => if y = 0 then none else f L (.long (z - z / y * y) :: S') D
  | _ => none
def o_ineg {β : Type} (f : hy_C β) : hy_C β := fun L S D => match S with
  | .int y :: S' => f L (.int (-y) :: S') D
  | _ => none
def o_i2l {β : Type} (f : hy_C β) : hy_C β := fun L S D => match S with
  | .int y :: S' => f L (.long y.toInt64 :: S') D
  | _ => none
def o_lcmp {β : Type} (f : hy_C β) : hy_C β := fun L S D => match S with
  | .long y :: .long z :: S' => f L (.int (lg_cmp z y) :: S') D
  | _ => none
def o_dup {β : Type} (f : hy_C β) : hy_C β := fun L S D => match S with
  | .int y :: S' => f L (.int y :: .int y :: S') D
  | .ref y :: S' => f L (.ref y :: .ref y :: S') D
  | _ => none
def o_dup2 {β : Type} (f : hy_C β) : hy_C β := fun L S D => match S with
  | .int y :: .ref z :: S' => f L (.int y :: .ref z :: .int y :: .ref z :: S') D
  | _ => none
def o_pop {β : Type} (f : hy_C β) : hy_C β := fun L S D => match S with
  | .int _ :: S' => f L S' D
  | _ => none
/-- branches: f where it goes, g the next -/
def o_ceq {β : Type} (f g : hy_C β) : hy_C β := fun L S D => match S with
  | .int y :: .int z :: S' => if z = y then f L S' D else g L S' D
  | _ => none
def o_clt {β : Type} (f g : hy_C β) : hy_C β := fun L S D => match S with
  | .int y :: .int z :: S' => if z < y then f L S' D else g L S' D
  | _ => none
def o_cgt {β : Type} (f g : hy_C β) : hy_C β := fun L S D => match S with
  | .int y :: .int z :: S' => if y < z then f L S' D else g L S' D
  | _ => none
def o_zeq {β : Type} (f g : hy_C β) : hy_C β := fun L S D => match S with
  | .int z :: S' => if z = 0 then f L S' D else g L S' D
  | _ => none
def o_zlt {β : Type} (f g : hy_C β) : hy_C β := fun L S D => match S with
  | .int z :: S' => if z < 0 then f L S' D else g L S' D
  | _ => none
def o_zgt {β : Type} (f g : hy_C β) : hy_C β := fun L S D => match S with
  | .int z :: S' => if 0 < z then f L S' D else g L S' D
  | _ => none
/-- a table, by the int on top -/
def hy_tab {β : Type} (z : Int32) (L : hy_L) (S : List Value) (D : hy_M) (d : hy_C β) : List (Int32 × hy_C β) → Option β
  | [] => d L S D
  | (k, f) :: fs => if z = k then f L S D else hy_tab z L S D d fs
def o_tab {β : Type} (ks : List (Int32 × hy_C β)) (d : hy_C β) : hy_C β := fun L S D => match S with
  | .int z :: S' => hy_tab z L S' D d ks
  | _ => none
/-- the memory -/
def o_getI {β : Type} (ci k : Nat) (f : hy_C β) : hy_C β := fun L S D => match S with
  | .ref o :: S' => bif hy_oc o ci k false then f L (.int (D o k) :: S') D else none
  | _ => none
def o_getR {β : Type} (ci k : Nat) (f : hy_C β) : hy_C β := fun L S D => match S with
  | .ref o :: S' => bif hy_oc o ci k true then f L (.ref (hy_pr o k) :: S') D else none
  | _ => none
def o_putI {β : Type} (ci k : Nat) (f : hy_C β) : hy_C β := fun L S D => match S with
  | .int v :: .ref o :: S' => bif hy_oc o ci k false then f L S' (hy_w D o k v) else none
  | _ => none
def o_putZ {β : Type} (ci k : Nat) (f : hy_C β) : hy_C β := fun L S D => match S with
  | .int v :: .ref o :: S' => bif hy_oc o ci k false then (if v = 0 ∨ v = 1 then f L S' (hy_w D o k v) else none) else none
  | _ => none
def o_iald {β : Type} (f : hy_C β) : hy_C β := fun L S D => match S with
  | .int j :: .ref r :: S' => if hy_in j (hy_al r) = true then f L (.int (D r j.toNatClampNeg) :: S') D else none
  | _ => none
def o_iast {β : Type} (f : hy_C β) : hy_C β := fun L S D => match S with
  | .int v :: .int j :: .ref r :: S' => if hy_in j (hy_wl r) = true then f L S' (hy_w D r j.toNatClampNeg v) else none
  | _ => none
def o_aald {β : Type} (f : hy_C β) : hy_C β := fun L S D => match S with
  | .int j :: .ref r :: S' => if hy_in j (hy_rl r) = true then f L (.ref (hy_pr r j.toNatClampNeg) :: S') D else none
  | _ => none
def o_gets {β : Type} (f : hy_C β) : hy_C β := fun L S D => f L (.ref 1000 :: S) D
/-- an array's part into another's -/
def hy_rng (p n : Int32) (k : Nat) : Bool := !(decide (p < 0)) && !(decide (n < 0)) && Nat.ble (p.toNatClampNeg + n.toNatClampNeg) k && Nat.ble 1 k
def hy_cat : List Value → Nat
  | [] => 0
  | v :: l => v.category + hy_cat l
def o_acpy {β : Type} (f : hy_C β) : hy_C β := fun L S D => match S with
  | .int n :: .int dp :: .ref b :: .int sp :: .ref a :: S' => bif Nat.ble (hy_cat S') 8 then (if hy_rng sp n (hy_wl a) = true ∧ hy_rng dp n (hy_wl b) = true then f L S' (hy_cp D a b sp.toNatClampNeg dp.toNatClampNeg n.toNatClampNeg) else none) else none
  | _ => none
/-- calls: n values off the stack -/
def hy_pop : Nat → List Value → List Value → Option (List Value × List Value)
  | 0, acc, S => some (acc, S)
  | n + 1, acc, v :: S => hy_pop n (v :: acc) S
  | _ + 1, _, [] => none
def o_cali {β : Type} (n : Nat) (g : List Value → hy_M → Option (Int32 × hy_M)) (f : hy_C β) : hy_C β := fun L S D => match hy_pop n [] S with
  | some (a, S') => bif Nat.ble (hy_cat S') 8 then (g a D).bind (fun q => f L (.int q.1 :: S') q.2) else none
  | none => none
def o_call {β : Type} (n : Nat) (g : List Value → hy_M → Option (Int64 × hy_M)) (f : hy_C β) : hy_C β := fun L S D => match hy_pop n [] S with
  | some (a, S') => bif Nat.ble (hy_cat S') 8 then (g a D).bind (fun q => f L (.long q.1 :: S') q.2) else none
  | none => none
def o_calv {β : Type} (n : Nat) (g : List Value → hy_M → Option hy_M) (f : hy_C β) : hy_C β := fun L S D => match hy_pop n [] S with
  | some (a, S') => bif Nat.ble (hy_cat S') 8 then (g a D).bind (fun q => f L S' q) else none
  | none => none
/-- the receiver is an object of the class -/
def hy_rc (ci : Nat) (a : List Value) : Bool := match a with
  | .ref o :: _ => hy_cl o ci
  | _ => false
def o_vali {β : Type} (ci n : Nat) (g : List Value → hy_M → Option (Int32 × hy_M)) (f : hy_C β) : hy_C β := fun L S D => match hy_pop n [] S with
  | some (a, S') => bif hy_rc ci a && Nat.ble (hy_cat S') 8 then (g a D).bind (fun q => f L (.int q.1 :: S') q.2) else none
  | none => none
def o_vall {β : Type} (ci n : Nat) (g : List Value → hy_M → Option (Int64 × hy_M)) (f : hy_C β) : hy_C β := fun L S D => match hy_pop n [] S with
  | some (a, S') => bif hy_rc ci a && Nat.ble (hy_cat S') 8 then (g a D).bind (fun q => f L (.long q.1 :: S') q.2) else none
  | none => none
def o_valv {β : Type} (ci n : Nat) (g : List Value → hy_M → Option hy_M) (f : hy_C β) : hy_C β := fun L S D => match hy_pop n [] S with
  | some (a, S') => bif hy_rc ci a && Nat.ble (hy_cat S') 8 then (g a D).bind (fun q => f L S' q) else none
  | none => none
/-- ends -/
def o_iret : hy_C (Int32 × hy_M) := fun _ S D => match S with
  | [.int v] => some (v, D)
  | _ => none
def o_zret : hy_C (Int32 × hy_M) := fun _ S D => match S with
  | [.int v] => if v = 0 ∨ v = 1 then some (v, D) else none
  | _ => none
def o_lret : hy_C (Int64 × hy_M) := fun _ S D => match S with
  | [.long v] => some (v, D)
  | _ => none
def o_vret : hy_C hy_M := fun _ S D => match S with
  | [] => some D
  | _ => none
/-- only some locals stay known -/
def hy_mk : List Bool → hy_L → hy_L
  | _, [] => []
  | [], _ :: l => none :: hy_mk [] l
  | true :: m, v :: l => v :: hy_mk m l
  | false :: m, _ :: l => none :: hy_mk m l
def o_mask {β : Type} (m : List Bool) (f : hy_C β) : hy_C β := fun L S D => f (hy_mk m L) S D
/-- a method's code from its start -/
def hy_wd : List Value → Nat
  | [] => 0
  | v :: l => v.category + hy_wd l
def hy_lo : List Value → hy_L
  | [] => []
  | .long v :: l => some (.long v) :: none :: hy_lo l
  | .double v :: l => some (.double v) :: none :: hy_lo l
  | v :: l => some v :: hy_lo l
def hy_g {β : Type} (nL : Nat) (f : hy_C β) : List Value → hy_M → Option β := fun a D => bif Nat.ble (hy_wd a) nL then f (hy_lo a ++ List.replicate (nL - hy_wd a) none) [] D else none
