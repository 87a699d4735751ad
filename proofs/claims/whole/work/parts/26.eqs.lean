def F_X9_isBest_14 (N : Nat) (n14 : Nat) (v1 : Int32) (v2 : Int32) (D : hy_M) : Option hy_M := b_X9_isBest_14 N  n14 [some (.ref 67), some (.int v1), some (.int v2)] [] D
def F_X9_isBest (N : Nat)  (D : hy_M) : Option hy_M := g_X9_isBest N [.ref 67] D
set_option maxRecDepth 100000 in
theorem F_X9_isBest_14_eq (N : Nat) (n14 : Nat) (v1 : Int32) (v2 : Int32) (D : hy_M) : F_X9_isBest_14 N (n14 + 1) v1 v2 D = (if v2 < (D 68 0) then (if hy_in v2 8 = true then (if hy_in v2 8 = true then (if hy_in v2 8 = true then (if hy_in v2 8 = true then ((F_X9_ones N ((hy_w D 74 (v2).toNatClampNeg (D 73 (v2).toNatClampNeg)) 73 (v2).toNatClampNeg) (hy_w D 74 (v2).toNatClampNeg (D 73 (v2).toNatClampNeg))).bind (fun q1 => (F_X9_isBest_14 N n14 (v1 ||| ((hy_w D 74 (v2).toNatClampNeg (D 73 (v2).toNatClampNeg)) 73 (v2).toNatClampNeg)) (v2 + (1 : Int32)) (hy_w q1.2 67 12 (((hy_w D 74 (v2).toNatClampNeg (D 73 (v2).toNatClampNeg)) 67 12) + q1.1))))) else none) else none) else none) else none) else ((F_X9_stepsOf N v1 D).bind (fun q1 => (some (hy_w q1.2 67 11 q1.1))))) := by
  rfl
set_option maxRecDepth 100000 in
theorem F_X9_isBest_eq (N : Nat)  (D : hy_M) : F_X9_isBest N D = (F_X9_isBest_14 N N (0 : Int32) (0 : Int32) (hy_w D 67 12 (D 68 0))) := by
  rfl
def F_X9_loads_2 (N : Nat) (n2 : Nat) (v1 : Int32) (v2 : Int32) (v3 : Int32) (D : hy_M) : Option hy_M := b_X9_loads_2 N  n2 [some (.ref 67), some (.int v1), some (.int v2), some (.int v3)] [] D
def F_X9_loads (N : Nat) (a1 : Int32) (a2 : Int32) (D : hy_M) : Option hy_M := g_X9_loads N [.ref 67, .int a1, .int a2] D
set_option maxRecDepth 100000 in
theorem F_X9_loads_2_eq (N : Nat) (n2 : Nat) (v1 : Int32) (v2 : Int32) (v3 : Int32) (D : hy_M) : F_X9_loads_2 N (n2 + 1) v1 v2 v3 D = (if v3 < (3 : Int32) then (if hy_in v3 3 = true then (if hy_in v1 8 = true then ((F_X9_has N (D 73 (v1).toNatClampNeg) v3 D).bind (fun q1 => (if q1.1 = 0 then (if hy_in v3 3 = true then (F_X9_loads_2 N n2 v1 v2 (v3 + (1 : Int32)) (hy_w q1.2 76 (v3).toNatClampNeg ((D 76 (v3).toNatClampNeg) + (0 : Int32)))) else none) else (if hy_in ((4 : Int32) + v1) 94 = true then (if hy_in v3 3 = true then (F_X9_loads_2 N n2 v1 v2 (v3 + (1 : Int32)) (hy_w q1.2 76 (v3).toNatClampNeg ((D 76 (v3).toNatClampNeg) + (v2 * (q1.2 68 (((4 : Int32) + v1)).toNatClampNeg))))) else none) else none)))) else none) else none) else (some D)) := by
  rfl
set_option maxRecDepth 100000 in
theorem F_X9_loads_eq (N : Nat) (a1 : Int32) (a2 : Int32) (D : hy_M) : F_X9_loads N a1 a2 D = (F_X9_loads_2 N N a1 a2 (0 : Int32) D) := by
  rfl
def F_X9_isRoomy_2 (N : Nat) (n2 : Nat) (v1 : Int32) (D : hy_M) : Option (Int32 × hy_M) := b_X9_isRoomy_2 N  n2 [some (.ref 67), some (.int v1)] [] D
def F_X9_isRoomy (N : Nat)  (D : hy_M) : Option (Int32 × hy_M) := g_X9_isRoomy N [.ref 67] D
set_option maxRecDepth 100000 in
theorem F_X9_isRoomy_2_eq (N : Nat) (n2 : Nat) (v1 : Int32) (D : hy_M) : F_X9_isRoomy_2 N (n2 + 1) v1 D = (if v1 < (3 : Int32) then (if hy_in v1 3 = true then (if hy_in ((46 : Int32) + v1) 94 = true then (if (D 68 (((46 : Int32) + v1)).toNatClampNeg) < (D 76 (v1).toNatClampNeg) then (some ((0 : Int32), D)) else (F_X9_isRoomy_2 N n2 (v1 + (1 : Int32)) D)) else none) else none) else (some ((1 : Int32), D))) := by
  rfl
set_option maxRecDepth 100000 in
theorem F_X9_isRoomy_eq (N : Nat)  (D : hy_M) : F_X9_isRoomy N D = (F_X9_isRoomy_2 N N (0 : Int32) D) := by
  rfl
def F_X9_isHopeless_12 (N : Nat) (n12 : Nat) (v1 : Int32) (v2 : Int32) (v3 : Int32) (v4 : Int32) (D : hy_M) : Option (Int32 × hy_M) := b_X9_isHopeless_12 N  n12 [some (.ref 67), some (.int v1), some (.int v2), some (.int v3), some (.int v4)] [] D
def F_X9_isHopeless (N : Nat) (a1 : Int32) (D : hy_M) : Option (Int32 × hy_M) := g_X9_isHopeless N [.ref 67, .int a1] D
set_option maxRecDepth 100000 in
theorem F_X9_isHopeless_12_eq (N : Nat) (n12 : Nat) (v1 : Int32) (v2 : Int32) (v3 : Int32) (v4 : Int32) (D : hy_M) : F_X9_isHopeless_12 N (n12 + 1) v1 v2 v3 v4 D = (if v1 < v4 then ((F_X9_stepsOf N v2 D).bind (fun q1 => (if (q1.2 67 11) < 0 then (some ((0 : Int32), q1.2)) else (if (q1.2 67 11) < q1.1 then (some ((1 : Int32), q1.2)) else (if q1.1 = (q1.2 67 11) then (if (q1.2 67 12) < v3 then (some ((1 : Int32), q1.2)) else (some ((0 : Int32), q1.2))) else (some ((0 : Int32), q1.2))))))) else (if hy_in v4 8 = true then (if hy_in (D 75 (v4).toNatClampNeg) 8 = true then (if hy_in v4 8 = true then (if hy_in (D 75 (v4).toNatClampNeg) 8 = true then ((F_X9_ones N (D 73 ((D 75 (v4).toNatClampNeg)).toNatClampNeg) D).bind (fun q1 => (F_X9_isHopeless_12 N n12 v1 (v2 ||| (D 73 ((D 75 (v4).toNatClampNeg)).toNatClampNeg)) (v3 + q1.1) (v4 + (1 : Int32)) q1.2))) else none) else none) else none) else none)) := by
  rfl
set_option maxRecDepth 100000 in
theorem F_X9_isHopeless_eq (N : Nat) (a1 : Int32) (D : hy_M) : F_X9_isHopeless N a1 D = (F_X9_isHopeless_12 N N a1 (0 : Int32) (D 68 0) (0 : Int32) D) := by
  rfl
def F_X9_goesOn_7 (N : Nat) (n7 : Nat) (v1 : Int32) (v2 : Int32) (D : hy_M) : Option (Int32 × hy_M) := b_X9_goesOn_7 N  n7 [some (.ref 67), some (.int v1), some (.int v2)] [] D
def F_X9_goesOn_65 (N : Nat) (n7 : Nat) (v1 : Int32) (v2 : Int32) (D : hy_M) : Option (Int32 × hy_M) := b_X9_goesOn_65 N (b_X9_goesOn_7 N  n7) [some (.ref 67), some (.int v1), some (.int v2)] [] D
def F_X9_goesOn (N : Nat) (a1 : Int32) (D : hy_M) : Option (Int32 × hy_M) := g_X9_goesOn N [.ref 67, .int a1] D
set_option maxRecDepth 100000 in
theorem F_X9_goesOn_7_eq (N : Nat) (n7 : Nat) (v1 : Int32) (v2 : Int32) (D : hy_M) : F_X9_goesOn_7 N (n7 + 1) v1 v2 D = (if hy_in v2 8 = true then (if (D 73 (v2).toNatClampNeg) < (8 : Int32) then (if hy_in v2 8 = true then ((F_X9_mayBe N (D 73 (v2).toNatClampNeg) (D 68 1) D).bind (fun q1 => (if q1.1 = 0 then (F_X9_goesOn_65 N n7 v1 v2 q1.2) else ((F_X9_loads N v2 (1 : Int32) q1.2).bind (fun q2 => ((F_X9_isRoomy N q2).bind (fun q3 => (if q3.1 = 0 then ((F_X9_loads N v2 (-1 : Int32) q3.2).bind (fun q4 => (F_X9_goesOn_65 N n7 v1 v2 q4))) else ((F_X9_isHopeless N v1 q3.2).bind (fun q4 => (if q4.1 = 0 then (some ((1 : Int32), q4.2)) else ((F_X9_loads N v2 (-1 : Int32) q4.2).bind (fun q5 => (F_X9_goesOn_65 N n7 v1 v2 q5)))))))))))))) else none) else (some ((0 : Int32), D))) else none) := by
  rfl
set_option maxRecDepth 100000 in
theorem F_X9_goesOn_65_eq (N : Nat) (n7 : Nat) (v1 : Int32) (v2 : Int32) (D : hy_M) : F_X9_goesOn_65 N n7 v1 v2 D = (if hy_in v2 8 = true then (if hy_in v2 8 = true then (F_X9_goesOn_7 N n7 v1 v2 (hy_w D 73 (v2).toNatClampNeg ((D 73 (v2).toNatClampNeg) + (1 : Int32)))) else none) else none) := by
  rfl
set_option maxRecDepth 100000 in
theorem F_X9_goesOn_eq (N : Nat) (a1 : Int32) (D : hy_M) : F_X9_goesOn N a1 D = (if hy_in a1 8 = true then (F_X9_goesOn_7 N N a1 (D 75 (a1).toNatClampNeg) D) else none) := by
  rfl
def F_X9_isBetter_11 (N : Nat) (n11 : Nat) (v1 : Int32) (v2 : Int32) (v3 : Int32) (D : hy_M) : Option (Int32 × hy_M) := b_X9_isBetter_11 N  n11 [some (.ref 67), some (.int v1), some (.int v2), some (.int v3), none] [] D
def F_X9_isBetter_82 (N : Nat) (v2 : Int32) (D : hy_M) : Option (Int32 × hy_M) := b_X9_isBetter_82 N  [some (.ref 67), none, some (.int v2), none, none] [] D
def F_X9_isBetter_114 (N : Nat) (n114 : Nat) (v4 : Int32) (D : hy_M) : Option (Int32 × hy_M) := b_X9_isBetter_114 N  n114 [some (.ref 67), none, none, none, some (.int v4)] [] D
def F_X9_isBetter_178 (N : Nat)  (D : hy_M) : Option (Int32 × hy_M) := b_X9_isBetter_178 N  [some (.ref 67), none, none, none, none] [] D
def F_X9_isBetter (N : Nat)  (D : hy_M) : Option (Int32 × hy_M) := g_X9_isBetter N [.ref 67] D
set_option maxRecDepth 100000 in
theorem F_X9_isBetter_11_eq (N : Nat) (n11 : Nat) (v1 : Int32) (v2 : Int32) (v3 : Int32) (D : hy_M) : F_X9_isBetter_11 N (n11 + 1) v1 v2 v3 D = (if v3 < (D 68 0) then (if hy_in v3 8 = true then (if hy_in v3 8 = true then ((F_X9_ones N (D 73 (v3).toNatClampNeg) D).bind (fun q1 => (F_X9_isBetter_11 N n11 (v1 ||| (D 73 (v3).toNatClampNeg)) (v2 + q1.1) (v3 + (1 : Int32)) q1.2))) else none) else none) else ((F_X9_stepsOf N v1 D).bind (fun q1 => (if (q1.2 67 11) < 0 then (F_X9_isBetter_82 N v2 q1.2) else (if q1.1 = (q1.2 67 11) then (F_X9_isBetter_82 N v2 q1.2) else (if q1.1 < (q1.2 67 11) then (some ((1 : Int32), q1.2)) else (some ((0 : Int32), q1.2)))))))) := by
  rfl
set_option maxRecDepth 100000 in
theorem F_X9_isBetter_82_eq (N : Nat) (v2 : Int32) (D : hy_M) : F_X9_isBetter_82 N v2 D = (if (D 67 11) < 0 then (F_X9_isBetter_114 N N (0 : Int32) D) else (if v2 = (D 67 12) then (F_X9_isBetter_114 N N (0 : Int32) D) else (if v2 < (D 67 12) then (some ((1 : Int32), D)) else (some ((0 : Int32), D))))) := by
  rfl
set_option maxRecDepth 100000 in
theorem F_X9_isBetter_114_eq (N : Nat) (n114 : Nat) (v4 : Int32) (D : hy_M) : F_X9_isBetter_114 N (n114 + 1) v4 D = (if v4 < (D 68 0) then (if (D 67 11) < 0 then (F_X9_isBetter_178 N D) else (if hy_in v4 8 = true then (if hy_in v4 8 = true then (if (D 73 (v4).toNatClampNeg) = (D 74 (v4).toNatClampNeg) then (F_X9_isBetter_114 N n114 (v4 + (1 : Int32)) D) else (if hy_in v4 8 = true then (if hy_in v4 8 = true then (if (D 73 (v4).toNatClampNeg) < (D 74 (v4).toNatClampNeg) then (some ((1 : Int32), D)) else (some ((0 : Int32), D))) else none) else none)) else none) else none)) else (F_X9_isBetter_178 N D)) := by
  rfl
set_option maxRecDepth 100000 in
theorem F_X9_isBetter_178_eq (N : Nat)  (D : hy_M) : F_X9_isBetter_178 N D = (if (D 67 11) < 0 then (some ((1 : Int32), D)) else (some ((0 : Int32), D))) := by
  rfl
set_option maxRecDepth 100000 in
theorem F_X9_isBetter_eq (N : Nat)  (D : hy_M) : F_X9_isBetter N D = (F_X9_isBetter_11 N N (0 : Int32) (D 68 0) (0 : Int32) D) := by
  rfl
def F_X9_lowAt (N : Nat) (a1 : Int32) (D : hy_M) : Option (Int32 × hy_M) := g_X9_lowAt N [.ref 67, .int a1] D
set_option maxRecDepth 100000 in
theorem F_X9_lowAt_eq (N : Nat) (a1 : Int32) (D : hy_M) : F_X9_lowAt N a1 D = (if a1 = 0 then (some ((0 : Int32), D)) else (if a1 = (D 68 28) then (some ((0 : Int32), D)) else (if hy_in (a1 - (1 : Int32)) 8 = true then (if hy_in (D 75 ((a1 - (1 : Int32))).toNatClampNeg) 8 = true then (if hy_in a1 8 = true then (if hy_in (a1 - (1 : Int32)) 8 = true then (if (D 75 (a1).toNatClampNeg) < (D 75 ((a1 - (1 : Int32))).toNatClampNeg) then (some (((D 73 ((D 75 ((a1 - (1 : Int32))).toNatClampNeg)).toNatClampNeg) + (1 : Int32)), D)) else (some (((D 73 ((D 75 ((a1 - (1 : Int32))).toNatClampNeg)).toNatClampNeg) + (0 : Int32)), D))) else none) else none) else none) else none))) := by
  rfl
def F_X9_findBounded_11 (N : Nat) (n11 : Nat) (v1 : Int32) (D : hy_M) : Option hy_M := b_X9_findBounded_11 N  n11 [some (.ref 67), some (.int v1)] [] D
def F_X9_findBounded_59 (N : Nat) (n59 : Nat) (v1 : Int32) (D : hy_M) : Option hy_M := b_X9_findBounded_59 N  n59 [some (.ref 67), some (.int v1)] [] D
def F_X9_findBounded_123 (N : Nat) (n59 : Nat) (v1 : Int32) (D : hy_M) : Option hy_M := b_X9_findBounded_123 N (b_X9_findBounded_59 N  n59) [some (.ref 67), some (.int v1)] [] D
def F_X9_findBounded_126 (N : Nat) (n59 : Nat) (n126 : Nat) (v1 : Int32) (D : hy_M) : Option hy_M := b_X9_findBounded_126 N (b_X9_findBounded_59 N  n59) n126 [some (.ref 67), some (.int v1)] [] D
def F_X9_findBounded (N : Nat)  (D : hy_M) : Option hy_M := g_X9_findBounded N [.ref 67] D
set_option maxRecDepth 100000 in
theorem F_X9_findBounded_11_eq (N : Nat) (n11 : Nat) (v1 : Int32) (D : hy_M) : F_X9_findBounded_11 N (n11 + 1) v1 D = (if v1 < (3 : Int32) then (if hy_in v1 3 = true then (F_X9_findBounded_11 N n11 (v1 + (1 : Int32)) (hy_w D 76 (v1).toNatClampNeg (0 : Int32))) else none) else (if 0 < (D 68 0) then (if hy_in (D 75 0) 8 = true then (F_X9_findBounded_59 N N (0 : Int32) (hy_w D 73 ((D 75 0)).toNatClampNeg (0 : Int32))) else none) else ((F_X9_isBest N D).bind (fun q1 => (F_X9_findBounded_59 N N (0 : Int32) q1))))) := by
  rfl
set_option maxRecDepth 100000 in
theorem F_X9_findBounded_59_eq (N : Nat) (n59 : Nat) (v1 : Int32) (D : hy_M) : F_X9_findBounded_59 N (n59 + 1) v1 D = (if v1 < 0 then (some D) else (if 0 < (D 68 0) then ((F_X9_goesOn N v1 D).bind (fun q1 => (if q1.1 = 0 then (F_X9_findBounded_123 N n59 v1 q1.2) else (if (v1 + (1 : Int32)) < (q1.2 68 0) then (if hy_in (v1 + (1 : Int32)) 8 = true then ((F_X9_lowAt N (v1 + (1 : Int32)) q1.2).bind (fun q2 => (if hy_in (q1.2 75 ((v1 + (1 : Int32))).toNatClampNeg) 8 = true then (F_X9_findBounded_59 N n59 (v1 + (1 : Int32)) (hy_w q2.2 73 ((q1.2 75 ((v1 + (1 : Int32))).toNatClampNeg)).toNatClampNeg q2.1)) else none))) else none) else ((F_X9_isBetter N q1.2).bind (fun q2 => (if q2.1 = 0 then (F_X9_findBounded_123 N n59 (v1 + (1 : Int32)) q2.2) else ((F_X9_isBest N q2.2).bind (fun q3 => (F_X9_findBounded_123 N n59 (v1 + (1 : Int32)) q3)))))))))) else (some D))) := by
  rfl
set_option maxRecDepth 100000 in
theorem F_X9_findBounded_123_eq (N : Nat) (n59 : Nat) (v1 : Int32) (D : hy_M) : F_X9_findBounded_123 N n59 v1 D = (F_X9_findBounded_126 N n59 N (v1 + (-1 : Int32)) D) := by
  rfl
set_option maxRecDepth 100000 in
theorem F_X9_findBounded_126_eq (N : Nat) (n59 : Nat) (n126 : Nat) (v1 : Int32) (D : hy_M) : F_X9_findBounded_126 N n59 (n126 + 1) v1 D = (if v1 < 0 then (F_X9_findBounded_59 N n59 v1 D) else (if hy_in v1 8 = true then ((F_X9_loads N (D 75 (v1).toNatClampNeg) (-1 : Int32) D).bind (fun q1 => (if hy_in v1 8 = true then (if hy_in (q1 75 (v1).toNatClampNeg) 8 = true then (if hy_in (q1 75 (v1).toNatClampNeg) 8 = true then (F_X9_findBounded_59 N n59 v1 (hy_w q1 73 ((q1 75 (v1).toNatClampNeg)).toNatClampNeg ((q1 73 ((q1 75 (v1).toNatClampNeg)).toNatClampNeg) + (1 : Int32)))) else none) else none) else none))) else none)) := by
  rfl
set_option maxRecDepth 100000 in
theorem F_X9_findBounded_eq (N : Nat)  (D : hy_M) : F_X9_findBounded N D = ((F_X9_orders N D).bind (fun q1 => (F_X9_findBounded_11 N N (0 : Int32) (hy_w q1 67 11 (-1 : Int32))))) := by
  rfl
def F_X9_bounded_33 (N : Nat) (v1 : Int32) (D : hy_M) : Option (Int32 × hy_M) := b_X9_bounded_33 N  [some (.ref 67), some (.int v1)] [] D
def F_X9_bounded (N : Nat) (a1 : Int32) (D : hy_M) : Option (Int32 × hy_M) := g_X9_bounded N [.ref 67, .int a1] D
set_option maxRecDepth 100000 in
theorem F_X9_bounded_33_eq (N : Nat) (v1 : Int32) (D : hy_M) : F_X9_bounded_33 N v1 D = ((F_X9_findBounded N D).bind (fun q1 => (if (q1 67 11) < 0 then (some ((-5 : Int32), q1)) else (if v1 = 0 then (some ((q1 67 11), q1)) else (if v1 = (1 : Int32) then (some ((q1 67 12), q1)) else (if hy_in (v1 - (10 : Int32)) 8 = true then (some ((q1 74 ((v1 - (10 : Int32))).toNatClampNeg), q1)) else none)))))) := by
  rfl
set_option maxRecDepth 100000 in
theorem F_X9_bounded_eq (N : Nat) (a1 : Int32) (D : hy_M) : F_X9_bounded N a1 D = ((F_X9_isIn N (a1).toInt64 (0 : Int64) (1 : Int64) D).bind (fun q1 => (if q1.1 = 0 then ((F_X9_isIn N (a1).toInt64 (10 : Int64) (((9 : Int32) + (q1.2 68 0))).toInt64 q1.2).bind (fun q2 => (if q2.1 = 0 then (some ((-1 : Int32), q2.2)) else (F_X9_bounded_33 N a1 q2.2)))) else (F_X9_bounded_33 N a1 q1.2)))) := by
  rfl
def F_X9_bind_29 (N : Nat) (n29 : Nat) (v1 : Int32) (D : hy_M) : Option (Int32 × hy_M) := b_X9_bind_29 N  n29 [some (.ref 67), some (.int v1)] [] D
def F_X9_bind (N : Nat)  (D : hy_M) : Option (Int32 × hy_M) := g_X9_bind N [.ref 67] D
set_option maxRecDepth 100000 in
theorem F_X9_bind_29_eq (N : Nat) (n29 : Nat) (v1 : Int32) (D : hy_M) : F_X9_bind_29 N (n29 + 1) v1 D = (if v1 < (D 68 0) then (if hy_in v1 8 = true then (if hy_in ((12 : Int32) + v1) 94 = true then (F_X9_bind_29 N n29 (v1 + (1 : Int32)) (hy_w D 68 (((12 : Int32) + v1)).toNatClampNeg (D 74 (v1).toNatClampNeg))) else none) else none) else (some ((D 67 12), D))) := by
  rfl
set_option maxRecDepth 100000 in
theorem F_X9_bind_eq (N : Nat)  (D : hy_M) : F_X9_bind N D = (if (D 68 2) = (1 : Int32) then (some ((-3 : Int32), D)) else ((F_X9_findBounded N D).bind (fun q1 => (if (q1 67 11) < 0 then (some ((-5 : Int32), q1)) else (F_X9_bind_29 N N (0 : Int32) q1))))) := by
  rfl
def F_X9_common_6 (N : Nat) (n6 : Nat) (v4 : Int64) (v6 : Int64) (D : hy_M) : Option (Int64 × hy_M) := b_X9_common_6 N  n6 [none, none, none, none, some (.long v4), none, some (.long v6), none, none, none] [] D
def F_X9_common (N : Nat) (a0 : Int64) (a1 : Int64) (D : hy_M) : Option (Int64 × hy_M) := g_X9_common N [.long a0, .long a1] D
set_option maxRecDepth 100000 in
theorem F_X9_common_6_eq (N : Nat) (n6 : Nat) (v4 : Int64) (v6 : Int64) (D : hy_M) : F_X9_common_6 N (n6 + 1) v4 v6 D = (if (lg_cmp v6 (0 : Int64)) = 0 then (some (v4, D)) else (if v6 = 0 then none else (F_X9_common_6 N n6 v6 (v4 - v4 / v6 * v6) D))) := by
  rfl
set_option maxRecDepth 100000 in
theorem F_X9_common_eq (N : Nat) (a0 : Int64) (a1 : Int64) (D : hy_M) : F_X9_common N a0 a1 D = (F_X9_common_6 N N a0 a1 D) := by
  rfl
def F_X9_partOf_10 (N : Nat) (v0 : Int64) (v2 : Int64) (vs0 : Int64) (D : hy_M) : Option (Int64 × hy_M) := b_X9_partOf_10 N  [some (.long v0), none, some (.long v2), none, none] [.long vs0] D
def F_X9_partOf (N : Nat) (a0 : Int64) (a1 : Int64) (a2 : Int32) (D : hy_M) : Option (Int64 × hy_M) := g_X9_partOf N [.long a0, .long a1, .int a2] D
set_option maxRecDepth 100000 in
theorem F_X9_partOf_10_eq (N : Nat) (v0 : Int64) (v2 : Int64) (vs0 : Int64) (D : hy_M) : F_X9_partOf_10 N v0 v2 vs0 D = ((F_X9_common N v0 v2 D).bind (fun q1 => (if q1.1 = 0 then none else (some ((vs0 / q1.1), q1.2))))) := by
  rfl
set_option maxRecDepth 100000 in
theorem F_X9_partOf_eq (N : Nat) (a0 : Int64) (a1 : Int64) (a2 : Int32) (D : hy_M) : F_X9_partOf N a0 a1 a2 D = (if a2 = 0 then (F_X9_partOf_10 N a0 a1 a0 D) else (F_X9_partOf_10 N a0 a1 a1 D)) := by
  rfl
def F_X9_mean (N : Nat) (a1 : Int32) (D : hy_M) : Option (Int64 × hy_M) := g_X9_mean N [.ref 67, .int a1] D
set_option maxRecDepth 100000 in
theorem F_X9_mean_eq (N : Nat) (a1 : Int32) (D : hy_M) : F_X9_mean N a1 D = ((F_X9_isIn N (a1).toInt64 (0 : Int64) (1 : Int64) D).bind (fun q1 => (if q1.1 = 0 then (some ((-9223372036854775808 : Int64), q1.2)) else (if 0 < (q1.2 68 0) then ((F_X9_rollsNow N q1.2).bind (fun q2 => ((F_X9_partOf N (q2.1).toInt64 ((q2.2 68 0)).toInt64 a1 q2.2).bind (fun q3 => (some (q3.1, q3.2)))))) else (some ((-9223372036854775808 : Int64), q1.2)))))) := by
  rfl
def F_X9_copies_2 (N : Nat) (n2 : Nat) (v3 : Int32) (D : hy_M) : Option hy_M := b_X9_copies_2 N  n2 [none, some (.ref 68), some (.ref 70), some (.int v3)] [] D
def F_X9_copies (N : Nat)  (D : hy_M) : Option hy_M := g_X9_copies N [.ref 67, .ref 68, .ref 70] D
set_option maxRecDepth 100000 in
theorem F_X9_copies_2_eq (N : Nat) (n2 : Nat) (v3 : Int32) (D : hy_M) : F_X9_copies_2 N (n2 + 1) v3 D = (if v3 < (94 : Int32) then (if hy_in v3 94 = true then (if hy_in v3 94 = true then (F_X9_copies_2 N n2 (v3 + (1 : Int32)) (hy_w D 70 (v3).toNatClampNeg (D 68 (v3).toNatClampNeg))) else none) else none) else (some D)) := by
  rfl
set_option maxRecDepth 100000 in
theorem F_X9_copies_eq (N : Nat)  (D : hy_M) : F_X9_copies N D = (F_X9_copies_2 N N (0 : Int32) D) := by
  rfl
def F_X9_says (N : Nat) (a1 : Int32) (D : hy_M) : Option hy_M := g_X9_says N [.ref 67, .int a1] D
set_option maxRecDepth 100000 in
theorem F_X9_says_eq (N : Nat) (a1 : Int32) (D : hy_M) : F_X9_says N a1 D = (if hy_in (D 67 16) 80 = true then (some (hy_w (hy_w D 77 ((D 67 16)).toNatClampNeg a1) 67 16 (((hy_w D 77 ((D 67 16)).toNatClampNeg a1) 67 16) + (1 : Int32)))) else none) := by
  rfl
def F_X9_rolls_12 (N : Nat) (n12 : Nat) (v1 : Int32) (v3 : Int32) (D : hy_M) : Option hy_M := b_X9_rolls_12 N  n12 [some (.ref 67), some (.int v1), none, some (.int v3), none] [] D
def F_X9_rolls_39 (N : Nat) (v1 : Int32) (v3 : Int32) (D : hy_M) : Option hy_M := b_X9_rolls_39 N  [some (.ref 67), some (.int v1), none, some (.int v3), none] [] D
def F_X9_rolls_93 (N : Nat) (v1 : Int32) (v3 : Int32) (v4 : Int32) (D : hy_M) : Option hy_M := b_X9_rolls_93 N  [some (.ref 67), some (.int v1), none, some (.int v3), some (.int v4)] [] D
def F_X9_rolls (N : Nat) (a1 : Int32) (a2 : Int32) (D : hy_M) : Option hy_M := g_X9_rolls N [.ref 67, .int a1, .int a2] D
set_option maxRecDepth 100000 in
theorem F_X9_rolls_12_eq (N : Nat) (n12 : Nat) (v1 : Int32) (v3 : Int32) (D : hy_M) : F_X9_rolls_12 N (n12 + 1) v1 v3 D = (if v3 < (3 : Int32) then (if hy_in ((12 : Int32) + v1) 94 = true then ((F_X9_has N (D 68 (((12 : Int32) + v1)).toNatClampNeg) v3 D).bind (fun q1 => (if q1.1 = 0 then (F_X9_rolls_12 N n12 v1 (v3 + (1 : Int32)) q1.2) else (F_X9_rolls_39 N v1 v3 q1.2)))) else none) else (F_X9_rolls_39 N v1 v3 D)) := by
  rfl
set_option maxRecDepth 100000 in
theorem F_X9_rolls_39_eq (N : Nat) (v1 : Int32) (v3 : Int32) (D : hy_M) : F_X9_rolls_39 N v1 v3 D = (if hy_in ((20 : Int32) + v1) 94 = true then (if (D 67 14) = 0 then (F_X9_rolls_93 N v1 v3 (D 68 (((20 : Int32) + v1)).toNatClampNeg) D) else ((F_X9_says N ((97 : Int32) + v1) D).bind (fun q1 => (if v3 < (3 : Int32) then ((F_X9_says N ((48 : Int32) + v3) q1).bind (fun q2 => (F_X9_rolls_93 N v1 v3 (D 68 (((20 : Int32) + v1)).toNatClampNeg) q2))) else (if (D 68 (((20 : Int32) + v1)).toNatClampNeg) = 0 then ((F_X9_says N (43 : Int32) q1).bind (fun q2 => (F_X9_rolls_93 N v1 v3 (D 68 (((20 : Int32) + v1)).toNatClampNeg) q2))) else ((F_X9_says N (45 : Int32) q1).bind (fun q2 => (F_X9_rolls_93 N v1 v3 (D 68 (((20 : Int32) + v1)).toNatClampNeg) q2)))))))) else none) := by
  rfl
set_option maxRecDepth 100000 in
theorem F_X9_rolls_93_eq (N : Nat) (v1 : Int32) (v3 : Int32) (v4 : Int32) (D : hy_M) : F_X9_rolls_93 N v1 v3 v4 D = (if v3 < (3 : Int32) then (if hy_in ((67 : Int32) + v3) 94 = true then (if hy_in (((70 : Int32) + ((8 : Int32) * v3)) + (D 68 (((67 : Int32) + v3)).toNatClampNeg)) 94 = true then (if hy_in ((67 : Int32) + v3) 94 = true then (if hy_in ((67 : Int32) + v3) 94 = true then (some (hy_w (hy_w D 68 ((((70 : Int32) + ((8 : Int32) * v3)) + (D 68 (((67 : Int32) + v3)).toNatClampNeg))).toNatClampNeg v1) 68 (((67 : Int32) + v3)).toNatClampNeg (((hy_w D 68 ((((70 : Int32) + ((8 : Int32) * v3)) + (D 68 (((67 : Int32) + v3)).toNatClampNeg))).toNatClampNeg v1) 68 (((67 : Int32) + v3)).toNatClampNeg) + (1 : Int32)))) else none) else none) else none) else none) else (if hy_in ((49 : Int32) + v4) 94 = true then (if hy_in (((51 : Int32) + ((8 : Int32) * v4)) + (D 68 (((49 : Int32) + v4)).toNatClampNeg)) 94 = true then (if hy_in ((49 : Int32) + v4) 94 = true then (if hy_in ((49 : Int32) + v4) 94 = true then (some (hy_w (hy_w D 68 ((((51 : Int32) + ((8 : Int32) * v4)) + (D 68 (((49 : Int32) + v4)).toNatClampNeg))).toNatClampNeg v1) 68 (((49 : Int32) + v4)).toNatClampNeg (((hy_w D 68 ((((51 : Int32) + ((8 : Int32) * v4)) + (D 68 (((49 : Int32) + v4)).toNatClampNeg))).toNatClampNeg v1) 68 (((49 : Int32) + v4)).toNatClampNeg) + (1 : Int32)))) else none) else none) else none) else none)) := by
  rfl
set_option maxRecDepth 100000 in
theorem F_X9_rolls_eq (N : Nat) (a1 : Int32) (a2 : Int32) (D : hy_M) : F_X9_rolls N a1 a2 D = (F_X9_rolls_12 N N a1 a2 (hy_w D 67 13 ((D 67 13) + (1 : Int32)))) := by
  rfl
def F_X9_humps_9 (N : Nat) (n9 : Nat) (v1 : Int32) (D : hy_M) : Option hy_M := b_X9_humps_9 N  n9 [some (.ref 67), some (.int v1)] [] D
def F_X9_humps (N : Nat)  (D : hy_M) : Option hy_M := g_X9_humps N [.ref 67] D
set_option maxRecDepth 100000 in
theorem F_X9_humps_9_eq (N : Nat) (n9 : Nat) (v1 : Int32) (D : hy_M) : F_X9_humps_9 N (n9 + 1) v1 D = (if v1 < (D 68 0) then ((F_X9_rolls N v1 (0 : Int32) D).bind (fun q1 => (F_X9_humps_9 N n9 (v1 + (1 : Int32)) q1))) else (some D)) := by
  rfl
set_option maxRecDepth 100000 in
theorem F_X9_humps_eq (N : Nat)  (D : hy_M) : F_X9_humps N D = (F_X9_humps_9 N N (0 : Int32) (hy_w D 68 2 (1 : Int32))) := by
  rfl
def F_X9_isOver_2 (N : Nat) (n2 : Nat) (v1 : Int32) (D : hy_M) : Option (Int32 × hy_M) := b_X9_isOver_2 N  n2 [some (.ref 67), some (.int v1)] [] D
def F_X9_isOver (N : Nat)  (D : hy_M) : Option (Int32 × hy_M) := g_X9_isOver N [.ref 67] D
set_option maxRecDepth 100000 in
theorem F_X9_isOver_2_eq (N : Nat) (n2 : Nat) (v1 : Int32) (D : hy_M) : F_X9_isOver_2 N (n2 + 1) v1 D = (if v1 < (3 : Int32) then ((F_X9_lengthsOn N v1 D).bind (fun q1 => (if hy_in ((46 : Int32) + v1) 94 = true then (if (q1.2 68 (((46 : Int32) + v1)).toNatClampNeg) < q1.1 then (some ((1 : Int32), q1.2)) else (F_X9_isOver_2 N n2 (v1 + (1 : Int32)) q1.2)) else none))) else (some ((0 : Int32), D))) := by
  rfl
set_option maxRecDepth 100000 in
theorem F_X9_isOver_eq (N : Nat)  (D : hy_M) : F_X9_isOver N D = (F_X9_isOver_2 N N (0 : Int32) D) := by
  rfl
def F_X9_copies_67_70_68_2 (N : Nat) (n2 : Nat) (v3 : Int32) (D : hy_M) : Option hy_M := b_X9_copies_2 N  n2 [none, some (.ref 70), some (.ref 68), some (.int v3)] [] D
def F_X9_copies_67_70_68 (N : Nat)  (D : hy_M) : Option hy_M := g_X9_copies N [.ref 67, .ref 70, .ref 68] D
set_option maxRecDepth 100000 in
theorem F_X9_copies_67_70_68_2_eq (N : Nat) (n2 : Nat) (v3 : Int32) (D : hy_M) : F_X9_copies_67_70_68_2 N (n2 + 1) v3 D = (if v3 < (94 : Int32) then (if hy_in v3 94 = true then (if hy_in v3 94 = true then (F_X9_copies_67_70_68_2 N n2 (v3 + (1 : Int32)) (hy_w D 68 (v3).toNatClampNeg (D 70 (v3).toNatClampNeg))) else none) else none) else (some D)) := by
  rfl
set_option maxRecDepth 100000 in
theorem F_X9_copies_67_70_68_eq (N : Nat)  (D : hy_M) : F_X9_copies_67_70_68 N D = (F_X9_copies_67_70_68_2 N N (0 : Int32) D) := by
  rfl
def F_X9_outs (N : Nat)  (D : hy_M) : Option (Int32 × hy_M) := g_X9_outs N [.ref 67] D
set_option maxRecDepth 100000 in
theorem F_X9_outs_eq (N : Nat)  (D : hy_M) : F_X9_outs N D = (some (((D 68 49) + (D 68 50)), D)) := by
  rfl
def F_X9_hump (N : Nat)  (D : hy_M) : Option (Int32 × hy_M) := g_X9_hump N [.ref 67] D
set_option maxRecDepth 100000 in
theorem F_X9_hump_eq (N : Nat)  (D : hy_M) : F_X9_hump N D = (if (D 68 2) = (1 : Int32) then (some ((-3 : Int32), D)) else ((F_X9_copies N D).bind (fun q1 => ((F_X9_humps N q1).bind (fun q2 => ((F_X9_isOver N q2).bind (fun q3 => (if q3.1 = 0 then ((F_X9_outs N q3.2).bind (fun q4 => (some (q4.1, q4.2)))) else ((F_X9_copies_67_70_68 N q3.2).bind (fun q4 => (some ((-4 : Int32), q4)))))))))))) := by
  rfl
def F_X9_pulls_32 (N : Nat) (n32 : Nat) (v1 : Int32) (v2 : Int32) (v3 : Int32) (D : hy_M) : Option hy_M := b_X9_pulls_32 N  n32 [some (.ref 67), some (.int v1), some (.int v2), some (.int v3)] [] D
def F_X9_pulls (N : Nat) (a1 : Int32) (D : hy_M) : Option hy_M := g_X9_pulls N [.ref 67, .int a1] D
set_option maxRecDepth 100000 in
theorem F_X9_pulls_32_eq (N : Nat) (n32 : Nat) (v1 : Int32) (v2 : Int32) (v3 : Int32) (D : hy_M) : F_X9_pulls_32 N (n32 + 1) v1 v2 v3 D = (if v3 < v2 then (if hy_in (((70 : Int32) + ((8 : Int32) * v1)) + v3) 94 = true then ((F_X9_rolls N (D 68 ((((70 : Int32) + ((8 : Int32) * v1)) + v3)).toNatClampNeg) (v1 + (1 : Int32)) D).bind (fun q1 => (F_X9_pulls_32 N n32 v1 v2 (v3 + (1 : Int32)) q1))) else none) else (some D)) := by
  rfl
set_option maxRecDepth 100000 in
theorem F_X9_pulls_eq (N : Nat) (a1 : Int32) (D : hy_M) : F_X9_pulls N a1 D = (if hy_in ((67 : Int32) + a1) 94 = true then (if hy_in ((67 : Int32) + a1) 94 = true then (F_X9_pulls_32 N N a1 (D 68 (((67 : Int32) + a1)).toNatClampNeg) (0 : Int32) (hy_w (hy_w D 68 (((67 : Int32) + a1)).toNatClampNeg (0 : Int32)) 68 3 (((hy_w D 68 (((67 : Int32) + a1)).toNatClampNeg (0 : Int32)) 68 3) + (1 : Int32)))) else none) else none) := by
  rfl
def F_X9_pull (N : Nat) (a1 : Int32) (D : hy_M) : Option (Int32 × hy_M) := g_X9_pull N [.ref 67, .int a1] D
set_option maxRecDepth 100000 in
theorem F_X9_pull_eq (N : Nat) (a1 : Int32) (D : hy_M) : F_X9_pull N a1 D = ((F_X9_isTrack N a1 D).bind (fun q1 => (if q1.1 = 0 then (some ((-1 : Int32), q1.2)) else (if (q1.2 68 2) = 0 then (some ((-3 : Int32), q1.2)) else ((F_X9_copies N q1.2).bind (fun q2 => ((F_X9_pulls N a1 (hy_w q2 67 13 (0 : Int32))).bind (fun q3 => ((F_X9_isOver N q3).bind (fun q4 => (if q4.1 = 0 then (some ((q4.2 67 13), q4.2)) else ((F_X9_copies_67_70_68 N q4.2).bind (fun q5 => (some ((-4 : Int32), q5))))))))))))))) := by
  rfl
def F_X9_clear (N : Nat)  (D : hy_M) : Option (Int32 × hy_M) := g_X9_clear N [.ref 67] D
set_option maxRecDepth 100000 in
theorem F_X9_clear_eq (N : Nat)  (D : hy_M) : F_X9_clear N D = ((F_X9_outs N D).bind (fun q1 => ((F_X9_clears N q1.2).bind (fun q2 => (some (q1.1, q2)))))) := by
  rfl
def F_X9_out (N : Nat) (a1 : Int32) (a2 : Int32) (D : hy_M) : Option (Int32 × hy_M) := g_X9_out N [.ref 67, .int a1, .int a2] D
set_option maxRecDepth 100000 in
theorem F_X9_out_eq (N : Nat) (a1 : Int32) (a2 : Int32) (D : hy_M) : F_X9_out N a1 a2 D = ((F_X9_isTrain N a1 D).bind (fun q1 => (if q1.1 = 0 then (some ((-1 : Int32), q1.2)) else (if hy_in ((49 : Int32) + a1) 94 = true then ((F_X9_isIn N (a2).toInt64 (-1 : Int64) (((q1.2 68 (((49 : Int32) + a1)).toNatClampNeg) - (1 : Int32))).toInt64 q1.2).bind (fun q2 => (if q2.1 = 0 then (some ((-1 : Int32), q2.2)) else (if a2 < 0 then (if hy_in ((49 : Int32) + a1) 94 = true then (some ((q2.2 68 (((49 : Int32) + a1)).toNatClampNeg), q2.2)) else none) else (if hy_in (((51 : Int32) + ((8 : Int32) * a1)) + a2) 94 = true then (some ((q2.2 68 ((((51 : Int32) + ((8 : Int32) * a1)) + a2)).toNatClampNeg), q2.2)) else none))))) else none)))) := by
  rfl
