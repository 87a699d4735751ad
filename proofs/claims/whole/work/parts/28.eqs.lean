def F_X9_lay_21 (N : Nat) (v1 : Int32) (v2 : Int32) (v3 : Int32) (v4 : Int32) (D : hy_M) : Option (Int32 × hy_M) := b_X9_lay_21 N  [some (.ref 67), some (.int v1), some (.int v2), some (.int v3), some (.int v4), none, none, none] [] D
def F_X9_lay_64 (N : Nat) (v1 : Int32) (v2 : Int32) (v3 : Int32) (v4 : Int32) (vs0 : Int32) (D : hy_M) : Option (Int32 × hy_M) := b_X9_lay_64 N  [some (.ref 67), some (.int v1), some (.int v2), some (.int v3), some (.int v4), none, none, none] [.int vs0] D
def F_X9_lay_82 (N : Nat) (v3 : Int32) (v4 : Int32) (v5 : Int32) (vs0 : Int32) (D : hy_M) : Option (Int32 × hy_M) := b_X9_lay_82 N  [some (.ref 67), none, none, some (.int v3), some (.int v4), some (.int v5), none, none] [.int vs0] D
def F_X9_lay_104 (N : Nat) (n104 : Nat) (v3 : Int32) (v4 : Int32) (v5 : Int32) (v6 : Int32) (v7 : Int32) (D : hy_M) : Option (Int32 × hy_M) := b_X9_lay_104 N  n104 [some (.ref 67), none, none, some (.int v3), some (.int v4), some (.int v5), some (.int v6), some (.int v7)] [] D
def F_X9_lay_156 (N : Nat) (v5 : Int32) (v7 : Int32) (D : hy_M) : Option (Int32 × hy_M) := b_X9_lay_156 N  [none, none, none, none, none, some (.int v5), none, some (.int v7)] [] D
def F_X9_lay (N : Nat) (a1 : Int32) (a2 : Int32) (a3 : Int32) (a4 : Int32) (D : hy_M) : Option (Int32 × hy_M) := g_X9_lay N [.ref 67, .int a1, .int a2, .int a3, .int a4] D
set_option maxRecDepth 100000 in
theorem F_X9_lay_21_eq (N : Nat) (v1 : Int32) (v2 : Int32) (v3 : Int32) (v4 : Int32) (D : hy_M) : F_X9_lay_21 N v1 v2 v3 v4 D = ((F_X9_isList N v3 D).bind (fun q1 => (if q1.1 = 0 then (some ((-1 : Int32), q1.2)) else (if hy_in v3 4 = true then (if (q1.2 80 (v3).toNatClampNeg) < 0 then (some ((-11 : Int32), q1.2)) else (if v1 = 0 then (if hy_in ((49 : Int32) + v2) 94 = true then (F_X9_lay_64 N v1 v2 v3 v4 (q1.2 68 (((49 : Int32) + v2)).toNatClampNeg) q1.2) else none) else (F_X9_lay_64 N v1 v2 v3 v4 (q1.2 68 0) q1.2))) else none)))) := by
  rfl
set_option maxRecDepth 100000 in
theorem F_X9_lay_64_eq (N : Nat) (v1 : Int32) (v2 : Int32) (v3 : Int32) (v4 : Int32) (vs0 : Int32) (D : hy_M) : F_X9_lay_64 N v1 v2 v3 v4 vs0 D = (if v1 = 0 then (F_X9_lay_82 N v3 v4 vs0 ((51 : Int32) + ((8 : Int32) * v2)) D) else (F_X9_lay_82 N v3 v4 vs0 (12 : Int32) D)) := by
  rfl
set_option maxRecDepth 100000 in
theorem F_X9_lay_82_eq (N : Nat) (v3 : Int32) (v4 : Int32) (v5 : Int32) (vs0 : Int32) (D : hy_M) : F_X9_lay_82 N v3 v4 v5 vs0 D = (if v4 < 0 then (if v5 = 0 then (some ((0 : Int32), D)) else (some ((-13 : Int32), D))) else (F_X9_lay_104 N N v3 v4 v5 vs0 (0 : Int32) D)) := by
  rfl
set_option maxRecDepth 100000 in
theorem F_X9_lay_104_eq (N : Nat) (n104 : Nat) (v3 : Int32) (v4 : Int32) (v5 : Int32) (v6 : Int32) (v7 : Int32) (D : hy_M) : F_X9_lay_104 N (n104 + 1) v3 v4 v5 v6 v7 D = (if v7 < v5 then (if hy_in v3 4 = true then (if v4 < ((D 80 (v3).toNatClampNeg) - v7) then (if hy_in (v6 + v7) 94 = true then (if hy_in ((((12 : Int32) * v3) + v4) + v7) 48 = true then (F_X9_lay_104 N n104 v3 v4 v5 v6 (v7 + (1 : Int32)) (hy_w D 79 (((((12 : Int32) * v3) + v4) + v7)).toNatClampNeg (D 68 ((v6 + v7)).toNatClampNeg))) else none) else none) else (F_X9_lay_156 N v5 v7 D)) else none) else (F_X9_lay_156 N v5 v7 D)) := by
  rfl
set_option maxRecDepth 100000 in
theorem F_X9_lay_156_eq (N : Nat) (v5 : Int32) (v7 : Int32) (D : hy_M) : F_X9_lay_156 N v5 v7 D = (if v7 = v5 then (some (v5, D)) else (some ((-13 : Int32), D))) := by
  rfl
set_option maxRecDepth 100000 in
theorem F_X9_lay_eq (N : Nat) (a1 : Int32) (a2 : Int32) (a3 : Int32) (a4 : Int32) (D : hy_M) : F_X9_lay N a1 a2 a3 a4 D = ((F_X9_isIn N (a1).toInt64 (0 : Int64) (1 : Int64) D).bind (fun q1 => (if q1.1 = 0 then (some ((-1 : Int32), q1.2)) else (if a1 = 0 then ((F_X9_isTrain N a2 q1.2).bind (fun q2 => (if q2.1 = 0 then (some ((-1 : Int32), q2.2)) else (F_X9_lay_21 N a1 a2 a3 a4 q2.2)))) else (F_X9_lay_21 N a1 a2 a3 a4 q1.2))))) := by
  rfl
def F_X9_copies_67_68_69_2 (N : Nat) (n2 : Nat) (v3 : Int32) (D : hy_M) : Option hy_M := b_X9_copies_2 N  n2 [none, some (.ref 68), some (.ref 69), some (.int v3)] [] D
def F_X9_copies_67_68_69 (N : Nat)  (D : hy_M) : Option hy_M := g_X9_copies N [.ref 67, .ref 68, .ref 69] D
set_option maxRecDepth 100000 in
theorem F_X9_copies_67_68_69_2_eq (N : Nat) (n2 : Nat) (v3 : Int32) (D : hy_M) : F_X9_copies_67_68_69_2 N (n2 + 1) v3 D = (if v3 < (94 : Int32) then (if hy_in v3 94 = true then (if hy_in v3 94 = true then (F_X9_copies_67_68_69_2 N n2 (v3 + (1 : Int32)) (hy_w D 69 (v3).toNatClampNeg (D 68 (v3).toNatClampNeg))) else none) else none) else (some D)) := by
  rfl
set_option maxRecDepth 100000 in
theorem F_X9_copies_67_68_69_eq (N : Nat)  (D : hy_M) : F_X9_copies_67_68_69 N D = (F_X9_copies_67_68_69_2 N N (0 : Int32) D) := by
  rfl
def F_X9_image (N : Nat)  (D : hy_M) : Option (Int32 × hy_M) := g_X9_image N [.ref 67] D
set_option maxRecDepth 100000 in
theorem F_X9_image_eq (N : Nat)  (D : hy_M) : F_X9_image N D = ((F_X9_copies_67_68_69 N D).bind (fun q1 => (some (((hy_w q1 67 3 (1 : Int32)) 68 0), (hy_w q1 67 3 (1 : Int32)))))) := by
  rfl
def F_X9_copies_67_69_68_2 (N : Nat) (n2 : Nat) (v3 : Int32) (D : hy_M) : Option hy_M := b_X9_copies_2 N  n2 [none, some (.ref 69), some (.ref 68), some (.int v3)] [] D
def F_X9_copies_67_69_68 (N : Nat)  (D : hy_M) : Option hy_M := g_X9_copies N [.ref 67, .ref 69, .ref 68] D
set_option maxRecDepth 100000 in
theorem F_X9_copies_67_69_68_2_eq (N : Nat) (n2 : Nat) (v3 : Int32) (D : hy_M) : F_X9_copies_67_69_68_2 N (n2 + 1) v3 D = (if v3 < (94 : Int32) then (if hy_in v3 94 = true then (if hy_in v3 94 = true then (F_X9_copies_67_69_68_2 N n2 (v3 + (1 : Int32)) (hy_w D 68 (v3).toNatClampNeg (D 69 (v3).toNatClampNeg))) else none) else none) else (some D)) := by
  rfl
set_option maxRecDepth 100000 in
theorem F_X9_copies_67_69_68_eq (N : Nat)  (D : hy_M) : F_X9_copies_67_69_68 N D = (F_X9_copies_67_69_68_2 N N (0 : Int32) D) := by
  rfl
def F_X9_undo (N : Nat)  (D : hy_M) : Option (Int32 × hy_M) := g_X9_undo N [.ref 67] D
set_option maxRecDepth 100000 in
theorem F_X9_undo_eq (N : Nat)  (D : hy_M) : F_X9_undo N D = (if (D 67 3) = 0 then (some ((-3 : Int32), D)) else ((F_X9_copies_67_69_68 N D).bind (fun q1 => (some ((q1 68 0), q1))))) := by
  rfl
def F_X9_lying_4 (N : Nat) (n4 : Nat) (v1 : Int32) (v2 : Int32) (D : hy_M) : Option (Int32 × hy_M) := b_X9_lying_4 N  n4 [some (.ref 67), some (.int v1), some (.int v2)] [] D
def F_X9_lying (N : Nat)  (D : hy_M) : Option (Int32 × hy_M) := g_X9_lying N [.ref 67] D
set_option maxRecDepth 100000 in
theorem F_X9_lying_4_eq (N : Nat) (n4 : Nat) (v1 : Int32) (v2 : Int32) (D : hy_M) : F_X9_lying_4 N (n4 + 1) v1 v2 D = (if v2 < (3 : Int32) then (if hy_in ((67 : Int32) + v2) 94 = true then (F_X9_lying_4 N n4 (v1 + (D 68 (((67 : Int32) + v2)).toNatClampNeg)) (v2 + (1 : Int32)) D) else none) else (some (v1, D))) := by
  rfl
set_option maxRecDepth 100000 in
theorem F_X9_lying_eq (N : Nat)  (D : hy_M) : F_X9_lying N D = (F_X9_lying_4 N N (0 : Int32) (0 : Int32) D) := by
  rfl
def F_X9_count (N : Nat) (a1 : Int32) (D : hy_M) : Option (Int32 × hy_M) := g_X9_count N [.ref 67, .int a1] D
set_option maxRecDepth 100000 in
theorem F_X9_count_eq (N : Nat) (a1 : Int32) (D : hy_M) : F_X9_count N a1 D = (if a1 = 0 then (some ((D 68 0), D)) else (if a1 = 1 then ((F_X9_outs N D).bind (fun q2 => (some (q2.1, q2.2)))) else (if a1 = 2 then ((F_X9_lying N D).bind (fun q1 => (some (q1.1, q1.2)))) else (if a1 = 3 then (some ((D 67 5), D)) else (if a1 = 4 then (some ((D 67 16), D)) else (if a1 = 5 then (some ((D 68 1), D)) else (if a1 = 6 then (some ((D 68 2), D)) else (if a1 = 7 then (some ((D 68 3), D)) else (some ((-2 : Int32), D)))))))))) := by
  rfl
