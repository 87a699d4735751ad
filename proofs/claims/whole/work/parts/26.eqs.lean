def F_X9_isBest_14 (n14 : Nat) (v1 : Int32) (v2 : Int32) (D : hy_M) : Option hy_M := b_X9_isBest_14  n14 [some (.ref 67), some (.int v1), some (.int v2)] [] D
def F_X9_isBest  (D : hy_M) : Option hy_M := g_X9_isBest [.ref 67] D
set_option maxRecDepth 100000 in
theorem F_X9_isBest_14_eq (n14 : Nat) (v1 : Int32) (v2 : Int32) (D : hy_M) : F_X9_isBest_14 (n14 + 1) v1 v2 D = (if v2 < (D 68 0) then (if hy_in v2 8 = true then (if hy_in v2 8 = true then (if hy_in v2 8 = true then (if hy_in v2 8 = true then ((F_X9_ones ((hy_w D 74 (v2).toNatClampNeg (D 73 (v2).toNatClampNeg)) 73 (v2).toNatClampNeg) (hy_w D 74 (v2).toNatClampNeg (D 73 (v2).toNatClampNeg))).bind (fun q1 => (F_X9_isBest_14 n14 (v1 ||| ((hy_w D 74 (v2).toNatClampNeg (D 73 (v2).toNatClampNeg)) 73 (v2).toNatClampNeg)) (v2 + (1 : Int32)) (hy_w q1.2 67 12 (((hy_w D 74 (v2).toNatClampNeg (D 73 (v2).toNatClampNeg)) 67 12) + q1.1))))) else none) else none) else none) else none) else ((F_X9_stepsOf v1 D).bind (fun q1 => (some (hy_w q1.2 67 11 q1.1))))) := by
  rfl
set_option maxRecDepth 100000 in
theorem F_X9_isBest_eq  (D : hy_M) : F_X9_isBest D = (F_X9_isBest_14 300 (0 : Int32) (0 : Int32) (hy_w D 67 12 (D 68 0))) := by
  rfl
def F_X9_loads_2 (n2 : Nat) (v1 : Int32) (v2 : Int32) (v3 : Int32) (D : hy_M) : Option hy_M := b_X9_loads_2  n2 [some (.ref 67), some (.int v1), some (.int v2), some (.int v3)] [] D
def F_X9_loads (a1 : Int32) (a2 : Int32) (D : hy_M) : Option hy_M := g_X9_loads [.ref 67, .int a1, .int a2] D
set_option maxRecDepth 100000 in
theorem F_X9_loads_2_eq (n2 : Nat) (v1 : Int32) (v2 : Int32) (v3 : Int32) (D : hy_M) : F_X9_loads_2 (n2 + 1) v1 v2 v3 D = (if v3 < (3 : Int32) then (if hy_in v3 3 = true then (if hy_in v1 8 = true then ((F_X9_has (D 73 (v1).toNatClampNeg) v3 D).bind (fun q1 => (if q1.1 = 0 then (if hy_in v3 3 = true then (F_X9_loads_2 n2 v1 v2 (v3 + (1 : Int32)) (hy_w q1.2 76 (v3).toNatClampNeg ((D 76 (v3).toNatClampNeg) + (0 : Int32)))) else none) else (if hy_in ((4 : Int32) + v1) 94 = true then (if hy_in v3 3 = true then (F_X9_loads_2 n2 v1 v2 (v3 + (1 : Int32)) (hy_w q1.2 76 (v3).toNatClampNeg ((D 76 (v3).toNatClampNeg) + (v2 * (q1.2 68 (((4 : Int32) + v1)).toNatClampNeg))))) else none) else none)))) else none) else none) else (some D)) := by
  rfl
set_option maxRecDepth 100000 in
theorem F_X9_loads_eq (a1 : Int32) (a2 : Int32) (D : hy_M) : F_X9_loads a1 a2 D = (F_X9_loads_2 300 a1 a2 (0 : Int32) D) := by
  rfl
def F_X9_isRoomy_2 (n2 : Nat) (v1 : Int32) (D : hy_M) : Option (Int32 × hy_M) := b_X9_isRoomy_2  n2 [some (.ref 67), some (.int v1)] [] D
def F_X9_isRoomy  (D : hy_M) : Option (Int32 × hy_M) := g_X9_isRoomy [.ref 67] D
set_option maxRecDepth 100000 in
theorem F_X9_isRoomy_2_eq (n2 : Nat) (v1 : Int32) (D : hy_M) : F_X9_isRoomy_2 (n2 + 1) v1 D = (if v1 < (3 : Int32) then (if hy_in v1 3 = true then (if hy_in ((46 : Int32) + v1) 94 = true then (if (D 68 (((46 : Int32) + v1)).toNatClampNeg) < (D 76 (v1).toNatClampNeg) then (some ((0 : Int32), D)) else (F_X9_isRoomy_2 n2 (v1 + (1 : Int32)) D)) else none) else none) else (some ((1 : Int32), D))) := by
  rfl
set_option maxRecDepth 100000 in
theorem F_X9_isRoomy_eq  (D : hy_M) : F_X9_isRoomy D = (F_X9_isRoomy_2 300 (0 : Int32) D) := by
  rfl
def F_X9_isHopeless_12 (n12 : Nat) (v1 : Int32) (v2 : Int32) (v3 : Int32) (v4 : Int32) (D : hy_M) : Option (Int32 × hy_M) := b_X9_isHopeless_12  n12 [some (.ref 67), some (.int v1), some (.int v2), some (.int v3), some (.int v4)] [] D
def F_X9_isHopeless (a1 : Int32) (D : hy_M) : Option (Int32 × hy_M) := g_X9_isHopeless [.ref 67, .int a1] D
set_option maxRecDepth 100000 in
theorem F_X9_isHopeless_12_eq (n12 : Nat) (v1 : Int32) (v2 : Int32) (v3 : Int32) (v4 : Int32) (D : hy_M) : F_X9_isHopeless_12 (n12 + 1) v1 v2 v3 v4 D = (if v1 < v4 then ((F_X9_stepsOf v2 D).bind (fun q1 => (if (q1.2 67 11) < 0 then (some ((0 : Int32), q1.2)) else (if (q1.2 67 11) < q1.1 then (some ((1 : Int32), q1.2)) else (if q1.1 = (q1.2 67 11) then (if (q1.2 67 12) < v3 then (some ((1 : Int32), q1.2)) else (some ((0 : Int32), q1.2))) else (some ((0 : Int32), q1.2))))))) else (if hy_in v4 8 = true then (if hy_in (D 75 (v4).toNatClampNeg) 8 = true then (if hy_in v4 8 = true then (if hy_in (D 75 (v4).toNatClampNeg) 8 = true then ((F_X9_ones (D 73 ((D 75 (v4).toNatClampNeg)).toNatClampNeg) D).bind (fun q1 => (F_X9_isHopeless_12 n12 v1 (v2 ||| (D 73 ((D 75 (v4).toNatClampNeg)).toNatClampNeg)) (v3 + q1.1) (v4 + (1 : Int32)) q1.2))) else none) else none) else none) else none)) := by
  rfl
set_option maxRecDepth 100000 in
theorem F_X9_isHopeless_eq (a1 : Int32) (D : hy_M) : F_X9_isHopeless a1 D = (F_X9_isHopeless_12 300 a1 (0 : Int32) (D 68 0) (0 : Int32) D) := by
  rfl
def F_X9_goesOn_7 (n7 : Nat) (v1 : Int32) (v2 : Int32) (D : hy_M) : Option (Int32 × hy_M) := b_X9_goesOn_7  n7 [some (.ref 67), some (.int v1), some (.int v2)] [] D
def F_X9_goesOn_65 (n7 : Nat) (v1 : Int32) (v2 : Int32) (D : hy_M) : Option (Int32 × hy_M) := b_X9_goesOn_65 (b_X9_goesOn_7  n7) [some (.ref 67), some (.int v1), some (.int v2)] [] D
def F_X9_goesOn (a1 : Int32) (D : hy_M) : Option (Int32 × hy_M) := g_X9_goesOn [.ref 67, .int a1] D
set_option maxRecDepth 100000 in
theorem F_X9_goesOn_7_eq (n7 : Nat) (v1 : Int32) (v2 : Int32) (D : hy_M) : F_X9_goesOn_7 (n7 + 1) v1 v2 D = (if hy_in v2 8 = true then (if (D 73 (v2).toNatClampNeg) < (8 : Int32) then (if hy_in v2 8 = true then ((F_X9_mayBe (D 73 (v2).toNatClampNeg) (D 68 1) D).bind (fun q1 => (if q1.1 = 0 then (F_X9_goesOn_65 n7 v1 v2 q1.2) else ((F_X9_loads v2 (1 : Int32) q1.2).bind (fun q2 => ((F_X9_isRoomy q2).bind (fun q3 => (if q3.1 = 0 then ((F_X9_loads v2 (-1 : Int32) q3.2).bind (fun q4 => (F_X9_goesOn_65 n7 v1 v2 q4))) else ((F_X9_isHopeless v1 q3.2).bind (fun q4 => (if q4.1 = 0 then (some ((1 : Int32), q4.2)) else ((F_X9_loads v2 (-1 : Int32) q4.2).bind (fun q5 => (F_X9_goesOn_65 n7 v1 v2 q5)))))))))))))) else none) else (some ((0 : Int32), D))) else none) := by
  rfl
set_option maxRecDepth 100000 in
theorem F_X9_goesOn_65_eq (n7 : Nat) (v1 : Int32) (v2 : Int32) (D : hy_M) : F_X9_goesOn_65 n7 v1 v2 D = (if hy_in v2 8 = true then (if hy_in v2 8 = true then (F_X9_goesOn_7 n7 v1 v2 (hy_w D 73 (v2).toNatClampNeg ((D 73 (v2).toNatClampNeg) + (1 : Int32)))) else none) else none) := by
  rfl
set_option maxRecDepth 100000 in
theorem F_X9_goesOn_eq (a1 : Int32) (D : hy_M) : F_X9_goesOn a1 D = (if hy_in a1 8 = true then (F_X9_goesOn_7 300 a1 (D 75 (a1).toNatClampNeg) D) else none) := by
  rfl
def F_X9_isBetter_11 (n11 : Nat) (v1 : Int32) (v2 : Int32) (v3 : Int32) (D : hy_M) : Option (Int32 × hy_M) := b_X9_isBetter_11  n11 [some (.ref 67), some (.int v1), some (.int v2), some (.int v3), none] [] D
def F_X9_isBetter_82 (v2 : Int32) (D : hy_M) : Option (Int32 × hy_M) := b_X9_isBetter_82  [some (.ref 67), none, some (.int v2), none, none] [] D
def F_X9_isBetter_114 (n114 : Nat) (v4 : Int32) (D : hy_M) : Option (Int32 × hy_M) := b_X9_isBetter_114  n114 [some (.ref 67), none, none, none, some (.int v4)] [] D
def F_X9_isBetter_178  (D : hy_M) : Option (Int32 × hy_M) := b_X9_isBetter_178  [some (.ref 67), none, none, none, none] [] D
def F_X9_isBetter  (D : hy_M) : Option (Int32 × hy_M) := g_X9_isBetter [.ref 67] D
set_option maxRecDepth 100000 in
theorem F_X9_isBetter_11_eq (n11 : Nat) (v1 : Int32) (v2 : Int32) (v3 : Int32) (D : hy_M) : F_X9_isBetter_11 (n11 + 1) v1 v2 v3 D = (if v3 < (D 68 0) then (if hy_in v3 8 = true then (if hy_in v3 8 = true then ((F_X9_ones (D 73 (v3).toNatClampNeg) D).bind (fun q1 => (F_X9_isBetter_11 n11 (v1 ||| (D 73 (v3).toNatClampNeg)) (v2 + q1.1) (v3 + (1 : Int32)) q1.2))) else none) else none) else ((F_X9_stepsOf v1 D).bind (fun q1 => (if (q1.2 67 11) < 0 then (F_X9_isBetter_82 v2 q1.2) else (if q1.1 = (q1.2 67 11) then (F_X9_isBetter_82 v2 q1.2) else (if q1.1 < (q1.2 67 11) then (some ((1 : Int32), q1.2)) else (some ((0 : Int32), q1.2)))))))) := by
  rfl
set_option maxRecDepth 100000 in
theorem F_X9_isBetter_82_eq (v2 : Int32) (D : hy_M) : F_X9_isBetter_82 v2 D = (if (D 67 11) < 0 then (F_X9_isBetter_114 300 (0 : Int32) D) else (if v2 = (D 67 12) then (F_X9_isBetter_114 300 (0 : Int32) D) else (if v2 < (D 67 12) then (some ((1 : Int32), D)) else (some ((0 : Int32), D))))) := by
  rfl
set_option maxRecDepth 100000 in
theorem F_X9_isBetter_114_eq (n114 : Nat) (v4 : Int32) (D : hy_M) : F_X9_isBetter_114 (n114 + 1) v4 D = (if v4 < (D 68 0) then (if (D 67 11) < 0 then (F_X9_isBetter_178 D) else (if hy_in v4 8 = true then (if hy_in v4 8 = true then (if (D 73 (v4).toNatClampNeg) = (D 74 (v4).toNatClampNeg) then (F_X9_isBetter_114 n114 (v4 + (1 : Int32)) D) else (if hy_in v4 8 = true then (if hy_in v4 8 = true then (if (D 73 (v4).toNatClampNeg) < (D 74 (v4).toNatClampNeg) then (some ((1 : Int32), D)) else (some ((0 : Int32), D))) else none) else none)) else none) else none)) else (F_X9_isBetter_178 D)) := by
  rfl
set_option maxRecDepth 100000 in
theorem F_X9_isBetter_178_eq  (D : hy_M) : F_X9_isBetter_178 D = (if (D 67 11) < 0 then (some ((1 : Int32), D)) else (some ((0 : Int32), D))) := by
  rfl
set_option maxRecDepth 100000 in
theorem F_X9_isBetter_eq  (D : hy_M) : F_X9_isBetter D = (F_X9_isBetter_11 300 (0 : Int32) (D 68 0) (0 : Int32) D) := by
  rfl
def F_X9_lowAt (a1 : Int32) (D : hy_M) : Option (Int32 × hy_M) := g_X9_lowAt [.ref 67, .int a1] D
set_option maxRecDepth 100000 in
theorem F_X9_lowAt_eq (a1 : Int32) (D : hy_M) : F_X9_lowAt a1 D = (if a1 = 0 then (some ((0 : Int32), D)) else (if a1 = (D 68 28) then (some ((0 : Int32), D)) else (if hy_in (a1 - (1 : Int32)) 8 = true then (if hy_in (D 75 ((a1 - (1 : Int32))).toNatClampNeg) 8 = true then (if hy_in a1 8 = true then (if hy_in (a1 - (1 : Int32)) 8 = true then (if (D 75 (a1).toNatClampNeg) < (D 75 ((a1 - (1 : Int32))).toNatClampNeg) then (some (((D 73 ((D 75 ((a1 - (1 : Int32))).toNatClampNeg)).toNatClampNeg) + (1 : Int32)), D)) else (some (((D 73 ((D 75 ((a1 - (1 : Int32))).toNatClampNeg)).toNatClampNeg) + (0 : Int32)), D))) else none) else none) else none) else none))) := by
  rfl
def F_X9_findBounded_11 (n11 : Nat) (v1 : Int32) (D : hy_M) : Option hy_M := b_X9_findBounded_11  n11 [some (.ref 67), some (.int v1)] [] D
def F_X9_findBounded_59 (n59 : Nat) (v1 : Int32) (D : hy_M) : Option hy_M := b_X9_findBounded_59  n59 [some (.ref 67), some (.int v1)] [] D
def F_X9_findBounded_123 (n59 : Nat) (v1 : Int32) (D : hy_M) : Option hy_M := b_X9_findBounded_123 (b_X9_findBounded_59  n59) [some (.ref 67), some (.int v1)] [] D
def F_X9_findBounded  (D : hy_M) : Option hy_M := g_X9_findBounded [.ref 67] D
set_option maxRecDepth 100000 in
theorem F_X9_findBounded_11_eq (n11 : Nat) (v1 : Int32) (D : hy_M) : F_X9_findBounded_11 (n11 + 1) v1 D = (if v1 < (3 : Int32) then (if hy_in v1 3 = true then (F_X9_findBounded_11 n11 (v1 + (1 : Int32)) (hy_w D 76 (v1).toNatClampNeg (0 : Int32))) else none) else (if 0 < (D 68 0) then (if hy_in (D 75 0) 8 = true then (F_X9_findBounded_59 1000000000000 (0 : Int32) (hy_w D 73 ((D 75 0)).toNatClampNeg (0 : Int32))) else none) else ((F_X9_isBest D).bind (fun q1 => (F_X9_findBounded_59 1000000000000 (0 : Int32) q1))))) := by
  rfl
set_option maxRecDepth 100000 in
theorem F_X9_findBounded_59_eq (n59 : Nat) (v1 : Int32) (D : hy_M) : F_X9_findBounded_59 (n59 + 1) v1 D = (if v1 < 0 then (some D) else (if 0 < (D 68 0) then ((F_X9_goesOn v1 D).bind (fun q1 => (if q1.1 = 0 then (F_X9_findBounded_123 n59 v1 q1.2) else (if (v1 + (1 : Int32)) < (q1.2 68 0) then (if hy_in (v1 + (1 : Int32)) 8 = true then ((F_X9_lowAt (v1 + (1 : Int32)) q1.2).bind (fun q2 => (if hy_in (q1.2 75 ((v1 + (1 : Int32))).toNatClampNeg) 8 = true then (F_X9_findBounded_59 n59 (v1 + (1 : Int32)) (hy_w q2.2 73 ((q1.2 75 ((v1 + (1 : Int32))).toNatClampNeg)).toNatClampNeg q2.1)) else none))) else none) else ((F_X9_isBetter q1.2).bind (fun q2 => (if q2.1 = 0 then (F_X9_findBounded_123 n59 (v1 + (1 : Int32)) q2.2) else ((F_X9_isBest q2.2).bind (fun q3 => (F_X9_findBounded_123 n59 (v1 + (1 : Int32)) q3)))))))))) else (some D))) := by
  rfl
set_option maxRecDepth 100000 in
theorem F_X9_findBounded_123_eq (n59 : Nat) (v1 : Int32) (D : hy_M) : F_X9_findBounded_123 n59 v1 D = (if (v1 + (-1 : Int32)) < 0 then (F_X9_findBounded_59 n59 (v1 + (-1 : Int32)) D) else (if hy_in (v1 + (-1 : Int32)) 8 = true then ((F_X9_loads (D 75 ((v1 + (-1 : Int32))).toNatClampNeg) (-1 : Int32) D).bind (fun q1 => (if hy_in (v1 + (-1 : Int32)) 8 = true then (if hy_in (q1 75 ((v1 + (-1 : Int32))).toNatClampNeg) 8 = true then (if hy_in (q1 75 ((v1 + (-1 : Int32))).toNatClampNeg) 8 = true then (F_X9_findBounded_59 n59 (v1 + (-1 : Int32)) (hy_w q1 73 ((q1 75 ((v1 + (-1 : Int32))).toNatClampNeg)).toNatClampNeg ((q1 73 ((q1 75 ((v1 + (-1 : Int32))).toNatClampNeg)).toNatClampNeg) + (1 : Int32)))) else none) else none) else none))) else none)) := by
  rfl
set_option maxRecDepth 100000 in
theorem F_X9_findBounded_eq  (D : hy_M) : F_X9_findBounded D = ((F_X9_orders D).bind (fun q1 => (F_X9_findBounded_11 300 (0 : Int32) (hy_w q1 67 11 (-1 : Int32))))) := by
  rfl
def F_X9_bounded_33 (v1 : Int32) (D : hy_M) : Option (Int32 × hy_M) := b_X9_bounded_33  [some (.ref 67), some (.int v1)] [] D
def F_X9_bounded (a1 : Int32) (D : hy_M) : Option (Int32 × hy_M) := g_X9_bounded [.ref 67, .int a1] D
set_option maxRecDepth 100000 in
theorem F_X9_bounded_33_eq (v1 : Int32) (D : hy_M) : F_X9_bounded_33 v1 D = ((F_X9_findBounded D).bind (fun q1 => (if (q1 67 11) < 0 then (some ((-5 : Int32), q1)) else (if v1 = 0 then (some ((q1 67 11), q1)) else (if v1 = (1 : Int32) then (some ((q1 67 12), q1)) else (if hy_in (v1 - (10 : Int32)) 8 = true then (some ((q1 74 ((v1 - (10 : Int32))).toNatClampNeg), q1)) else none)))))) := by
  rfl
set_option maxRecDepth 100000 in
theorem F_X9_bounded_eq (a1 : Int32) (D : hy_M) : F_X9_bounded a1 D = ((F_X9_isIn (a1).toInt64 (0 : Int64) (1 : Int64) D).bind (fun q1 => (if q1.1 = 0 then ((F_X9_isIn (a1).toInt64 (10 : Int64) (((9 : Int32) + (q1.2 68 0))).toInt64 q1.2).bind (fun q2 => (if q2.1 = 0 then (some ((-1 : Int32), q2.2)) else (F_X9_bounded_33 a1 q2.2)))) else (F_X9_bounded_33 a1 q1.2)))) := by
  rfl
def F_X9_bind_29 (n29 : Nat) (v1 : Int32) (D : hy_M) : Option (Int32 × hy_M) := b_X9_bind_29  n29 [some (.ref 67), some (.int v1)] [] D
def F_X9_bind  (D : hy_M) : Option (Int32 × hy_M) := g_X9_bind [.ref 67] D
set_option maxRecDepth 100000 in
theorem F_X9_bind_29_eq (n29 : Nat) (v1 : Int32) (D : hy_M) : F_X9_bind_29 (n29 + 1) v1 D = (if v1 < (D 68 0) then (if hy_in v1 8 = true then (if hy_in ((12 : Int32) + v1) 94 = true then (F_X9_bind_29 n29 (v1 + (1 : Int32)) (hy_w D 68 (((12 : Int32) + v1)).toNatClampNeg (D 74 (v1).toNatClampNeg))) else none) else none) else (some ((D 67 12), D))) := by
  rfl
set_option maxRecDepth 100000 in
theorem F_X9_bind_eq  (D : hy_M) : F_X9_bind D = (if (D 68 2) = (1 : Int32) then (some ((-3 : Int32), D)) else ((F_X9_findBounded D).bind (fun q1 => (if (q1 67 11) < 0 then (some ((-5 : Int32), q1)) else (F_X9_bind_29 300 (0 : Int32) q1))))) := by
  rfl
def F_X9_common_6 (n6 : Nat) (v4 : Int64) (v6 : Int64) (D : hy_M) : Option (Int64 × hy_M) := b_X9_common_6  n6 [none, none, none, none, some (.long v4), none, some (.long v6), none, none, none] [] D
def F_X9_common (a0 : Int64) (a1 : Int64) (D : hy_M) : Option (Int64 × hy_M) := g_X9_common [.long a0, .long a1] D
set_option maxRecDepth 100000 in
theorem F_X9_common_6_eq (n6 : Nat) (v4 : Int64) (v6 : Int64) (D : hy_M) : F_X9_common_6 (n6 + 1) v4 v6 D = (if (lg_cmp v6 (0 : Int64)) = 0 then (some (v4, D)) else (if v6 = 0 then none else (F_X9_common_6 n6 v6 (v4 - v4 / v6 * v6) D))) := by
  rfl
set_option maxRecDepth 100000 in
theorem F_X9_common_eq (a0 : Int64) (a1 : Int64) (D : hy_M) : F_X9_common a0 a1 D = (F_X9_common_6 300 a0 a1 D) := by
  rfl
def F_X9_partOf_10 (v0 : Int64) (v2 : Int64) (vs0 : Int64) (D : hy_M) : Option (Int64 × hy_M) := b_X9_partOf_10  [some (.long v0), none, some (.long v2), none, none] [.long vs0] D
def F_X9_partOf (a0 : Int64) (a1 : Int64) (a2 : Int32) (D : hy_M) : Option (Int64 × hy_M) := g_X9_partOf [.long a0, .long a1, .int a2] D
set_option maxRecDepth 100000 in
theorem F_X9_partOf_10_eq (v0 : Int64) (v2 : Int64) (vs0 : Int64) (D : hy_M) : F_X9_partOf_10 v0 v2 vs0 D = ((F_X9_common v0 v2 D).bind (fun q1 => (if q1.1 = 0 then none else (some ((vs0 / q1.1), q1.2))))) := by
  rfl
set_option maxRecDepth 100000 in
theorem F_X9_partOf_eq (a0 : Int64) (a1 : Int64) (a2 : Int32) (D : hy_M) : F_X9_partOf a0 a1 a2 D = (if a2 = 0 then (F_X9_partOf_10 a0 a1 a0 D) else (F_X9_partOf_10 a0 a1 a1 D)) := by
  rfl
def F_X9_mean (a1 : Int32) (D : hy_M) : Option (Int64 × hy_M) := g_X9_mean [.ref 67, .int a1] D
set_option maxRecDepth 100000 in
theorem F_X9_mean_eq (a1 : Int32) (D : hy_M) : F_X9_mean a1 D = ((F_X9_isIn (a1).toInt64 (0 : Int64) (1 : Int64) D).bind (fun q1 => (if q1.1 = 0 then (some ((-9223372036854775808 : Int64), q1.2)) else (if 0 < (q1.2 68 0) then ((F_X9_rollsNow q1.2).bind (fun q2 => ((F_X9_partOf (q2.1).toInt64 ((q2.2 68 0)).toInt64 a1 q2.2).bind (fun q3 => (some (q3.1, q3.2)))))) else (some ((-9223372036854775808 : Int64), q1.2)))))) := by
  rfl
def F_X9_copies_2 (n2 : Nat) (v3 : Int32) (D : hy_M) : Option hy_M := b_X9_copies_2  n2 [none, some (.ref 68), some (.ref 70), some (.int v3)] [] D
def F_X9_copies  (D : hy_M) : Option hy_M := g_X9_copies [.ref 67, .ref 68, .ref 70] D
set_option maxRecDepth 100000 in
theorem F_X9_copies_2_eq (n2 : Nat) (v3 : Int32) (D : hy_M) : F_X9_copies_2 (n2 + 1) v3 D = (if v3 < (94 : Int32) then (if hy_in v3 94 = true then (if hy_in v3 94 = true then (F_X9_copies_2 n2 (v3 + (1 : Int32)) (hy_w D 70 (v3).toNatClampNeg (D 68 (v3).toNatClampNeg))) else none) else none) else (some D)) := by
  rfl
set_option maxRecDepth 100000 in
theorem F_X9_copies_eq  (D : hy_M) : F_X9_copies D = (F_X9_copies_2 300 (0 : Int32) D) := by
  rfl
def F_X9_says (a1 : Int32) (D : hy_M) : Option hy_M := g_X9_says [.ref 67, .int a1] D
set_option maxRecDepth 100000 in
theorem F_X9_says_eq (a1 : Int32) (D : hy_M) : F_X9_says a1 D = (if hy_in (D 67 16) 80 = true then (some (hy_w (hy_w D 77 ((D 67 16)).toNatClampNeg a1) 67 16 (((hy_w D 77 ((D 67 16)).toNatClampNeg a1) 67 16) + (1 : Int32)))) else none) := by
  rfl
def F_X9_rolls_12 (n12 : Nat) (v1 : Int32) (v3 : Int32) (D : hy_M) : Option hy_M := b_X9_rolls_12  n12 [some (.ref 67), some (.int v1), none, some (.int v3), none] [] D
def F_X9_rolls_39 (v1 : Int32) (v3 : Int32) (D : hy_M) : Option hy_M := b_X9_rolls_39  [some (.ref 67), some (.int v1), none, some (.int v3), none] [] D
def F_X9_rolls_93 (v1 : Int32) (v3 : Int32) (v4 : Int32) (D : hy_M) : Option hy_M := b_X9_rolls_93  [some (.ref 67), some (.int v1), none, some (.int v3), some (.int v4)] [] D
def F_X9_rolls (a1 : Int32) (a2 : Int32) (D : hy_M) : Option hy_M := g_X9_rolls [.ref 67, .int a1, .int a2] D
set_option maxRecDepth 100000 in
theorem F_X9_rolls_12_eq (n12 : Nat) (v1 : Int32) (v3 : Int32) (D : hy_M) : F_X9_rolls_12 (n12 + 1) v1 v3 D = (if v3 < (3 : Int32) then (if hy_in ((12 : Int32) + v1) 94 = true then ((F_X9_has (D 68 (((12 : Int32) + v1)).toNatClampNeg) v3 D).bind (fun q1 => (if q1.1 = 0 then (F_X9_rolls_12 n12 v1 (v3 + (1 : Int32)) q1.2) else (F_X9_rolls_39 v1 v3 q1.2)))) else none) else (F_X9_rolls_39 v1 v3 D)) := by
  rfl
set_option maxRecDepth 100000 in
theorem F_X9_rolls_39_eq (v1 : Int32) (v3 : Int32) (D : hy_M) : F_X9_rolls_39 v1 v3 D = (if hy_in ((20 : Int32) + v1) 94 = true then (if (D 67 14) = 0 then (F_X9_rolls_93 v1 v3 (D 68 (((20 : Int32) + v1)).toNatClampNeg) D) else ((F_X9_says ((97 : Int32) + v1) D).bind (fun q1 => (if v3 < (3 : Int32) then ((F_X9_says ((48 : Int32) + v3) q1).bind (fun q2 => (F_X9_rolls_93 v1 v3 (D 68 (((20 : Int32) + v1)).toNatClampNeg) q2))) else (if (D 68 (((20 : Int32) + v1)).toNatClampNeg) = 0 then ((F_X9_says (43 : Int32) q1).bind (fun q2 => (F_X9_rolls_93 v1 v3 (D 68 (((20 : Int32) + v1)).toNatClampNeg) q2))) else ((F_X9_says (45 : Int32) q1).bind (fun q2 => (F_X9_rolls_93 v1 v3 (D 68 (((20 : Int32) + v1)).toNatClampNeg) q2)))))))) else none) := by
  rfl
set_option maxRecDepth 100000 in
theorem F_X9_rolls_93_eq (v1 : Int32) (v3 : Int32) (v4 : Int32) (D : hy_M) : F_X9_rolls_93 v1 v3 v4 D = (if v3 < (3 : Int32) then (if hy_in ((67 : Int32) + v3) 94 = true then (if hy_in (((70 : Int32) + ((8 : Int32) * v3)) + (D 68 (((67 : Int32) + v3)).toNatClampNeg)) 94 = true then (if hy_in ((67 : Int32) + v3) 94 = true then (if hy_in ((67 : Int32) + v3) 94 = true then (some (hy_w (hy_w D 68 ((((70 : Int32) + ((8 : Int32) * v3)) + (D 68 (((67 : Int32) + v3)).toNatClampNeg))).toNatClampNeg v1) 68 (((67 : Int32) + v3)).toNatClampNeg (((hy_w D 68 ((((70 : Int32) + ((8 : Int32) * v3)) + (D 68 (((67 : Int32) + v3)).toNatClampNeg))).toNatClampNeg v1) 68 (((67 : Int32) + v3)).toNatClampNeg) + (1 : Int32)))) else none) else none) else none) else none) else (if hy_in ((49 : Int32) + v4) 94 = true then (if hy_in (((51 : Int32) + ((8 : Int32) * v4)) + (D 68 (((49 : Int32) + v4)).toNatClampNeg)) 94 = true then (if hy_in ((49 : Int32) + v4) 94 = true then (if hy_in ((49 : Int32) + v4) 94 = true then (some (hy_w (hy_w D 68 ((((51 : Int32) + ((8 : Int32) * v4)) + (D 68 (((49 : Int32) + v4)).toNatClampNeg))).toNatClampNeg v1) 68 (((49 : Int32) + v4)).toNatClampNeg (((hy_w D 68 ((((51 : Int32) + ((8 : Int32) * v4)) + (D 68 (((49 : Int32) + v4)).toNatClampNeg))).toNatClampNeg v1) 68 (((49 : Int32) + v4)).toNatClampNeg) + (1 : Int32)))) else none) else none) else none) else none)) := by
  rfl
set_option maxRecDepth 100000 in
theorem F_X9_rolls_eq (a1 : Int32) (a2 : Int32) (D : hy_M) : F_X9_rolls a1 a2 D = (F_X9_rolls_12 300 a1 a2 (hy_w D 67 13 ((D 67 13) + (1 : Int32)))) := by
  rfl
def F_X9_humps_9 (n9 : Nat) (v1 : Int32) (D : hy_M) : Option hy_M := b_X9_humps_9  n9 [some (.ref 67), some (.int v1)] [] D
def F_X9_humps  (D : hy_M) : Option hy_M := g_X9_humps [.ref 67] D
set_option maxRecDepth 100000 in
theorem F_X9_humps_9_eq (n9 : Nat) (v1 : Int32) (D : hy_M) : F_X9_humps_9 (n9 + 1) v1 D = (if v1 < (D 68 0) then ((F_X9_rolls v1 (0 : Int32) D).bind (fun q1 => (F_X9_humps_9 n9 (v1 + (1 : Int32)) q1))) else (some D)) := by
  rfl
set_option maxRecDepth 100000 in
theorem F_X9_humps_eq  (D : hy_M) : F_X9_humps D = (F_X9_humps_9 300 (0 : Int32) (hy_w D 68 2 (1 : Int32))) := by
  rfl
def F_X9_isOver_2 (n2 : Nat) (v1 : Int32) (D : hy_M) : Option (Int32 × hy_M) := b_X9_isOver_2  n2 [some (.ref 67), some (.int v1)] [] D
def F_X9_isOver  (D : hy_M) : Option (Int32 × hy_M) := g_X9_isOver [.ref 67] D
set_option maxRecDepth 100000 in
theorem F_X9_isOver_2_eq (n2 : Nat) (v1 : Int32) (D : hy_M) : F_X9_isOver_2 (n2 + 1) v1 D = (if v1 < (3 : Int32) then ((F_X9_lengthsOn v1 D).bind (fun q1 => (if hy_in ((46 : Int32) + v1) 94 = true then (if (q1.2 68 (((46 : Int32) + v1)).toNatClampNeg) < q1.1 then (some ((1 : Int32), q1.2)) else (F_X9_isOver_2 n2 (v1 + (1 : Int32)) q1.2)) else none))) else (some ((0 : Int32), D))) := by
  rfl
set_option maxRecDepth 100000 in
theorem F_X9_isOver_eq  (D : hy_M) : F_X9_isOver D = (F_X9_isOver_2 300 (0 : Int32) D) := by
  rfl
def F_X9_copies_67_70_68_2 (n2 : Nat) (v3 : Int32) (D : hy_M) : Option hy_M := b_X9_copies_2  n2 [none, some (.ref 70), some (.ref 68), some (.int v3)] [] D
def F_X9_copies_67_70_68  (D : hy_M) : Option hy_M := g_X9_copies [.ref 67, .ref 70, .ref 68] D
set_option maxRecDepth 100000 in
theorem F_X9_copies_67_70_68_2_eq (n2 : Nat) (v3 : Int32) (D : hy_M) : F_X9_copies_67_70_68_2 (n2 + 1) v3 D = (if v3 < (94 : Int32) then (if hy_in v3 94 = true then (if hy_in v3 94 = true then (F_X9_copies_67_70_68_2 n2 (v3 + (1 : Int32)) (hy_w D 68 (v3).toNatClampNeg (D 70 (v3).toNatClampNeg))) else none) else none) else (some D)) := by
  rfl
set_option maxRecDepth 100000 in
theorem F_X9_copies_67_70_68_eq  (D : hy_M) : F_X9_copies_67_70_68 D = (F_X9_copies_67_70_68_2 300 (0 : Int32) D) := by
  rfl
def F_X9_outs  (D : hy_M) : Option (Int32 × hy_M) := g_X9_outs [.ref 67] D
set_option maxRecDepth 100000 in
theorem F_X9_outs_eq  (D : hy_M) : F_X9_outs D = (some (((D 68 49) + (D 68 50)), D)) := by
  rfl
def F_X9_hump  (D : hy_M) : Option (Int32 × hy_M) := g_X9_hump [.ref 67] D
set_option maxRecDepth 100000 in
theorem F_X9_hump_eq  (D : hy_M) : F_X9_hump D = (if (D 68 2) = (1 : Int32) then (some ((-3 : Int32), D)) else ((F_X9_copies D).bind (fun q1 => ((F_X9_humps q1).bind (fun q2 => ((F_X9_isOver q2).bind (fun q3 => (if q3.1 = 0 then ((F_X9_outs q3.2).bind (fun q4 => (some (q4.1, q4.2)))) else ((F_X9_copies_67_70_68 q3.2).bind (fun q4 => (some ((-4 : Int32), q4)))))))))))) := by
  rfl
def F_X9_pulls_32 (n32 : Nat) (v1 : Int32) (v2 : Int32) (v3 : Int32) (D : hy_M) : Option hy_M := b_X9_pulls_32  n32 [some (.ref 67), some (.int v1), some (.int v2), some (.int v3)] [] D
def F_X9_pulls (a1 : Int32) (D : hy_M) : Option hy_M := g_X9_pulls [.ref 67, .int a1] D
set_option maxRecDepth 100000 in
theorem F_X9_pulls_32_eq (n32 : Nat) (v1 : Int32) (v2 : Int32) (v3 : Int32) (D : hy_M) : F_X9_pulls_32 (n32 + 1) v1 v2 v3 D = (if v3 < v2 then (if hy_in (((70 : Int32) + ((8 : Int32) * v1)) + v3) 94 = true then ((F_X9_rolls (D 68 ((((70 : Int32) + ((8 : Int32) * v1)) + v3)).toNatClampNeg) (v1 + (1 : Int32)) D).bind (fun q1 => (F_X9_pulls_32 n32 v1 v2 (v3 + (1 : Int32)) q1))) else none) else (some D)) := by
  rfl
set_option maxRecDepth 100000 in
theorem F_X9_pulls_eq (a1 : Int32) (D : hy_M) : F_X9_pulls a1 D = (if hy_in ((67 : Int32) + a1) 94 = true then (if hy_in ((67 : Int32) + a1) 94 = true then (F_X9_pulls_32 300 a1 (D 68 (((67 : Int32) + a1)).toNatClampNeg) (0 : Int32) (hy_w (hy_w D 68 (((67 : Int32) + a1)).toNatClampNeg (0 : Int32)) 68 3 (((hy_w D 68 (((67 : Int32) + a1)).toNatClampNeg (0 : Int32)) 68 3) + (1 : Int32)))) else none) else none) := by
  rfl
def F_X9_pull (a1 : Int32) (D : hy_M) : Option (Int32 × hy_M) := g_X9_pull [.ref 67, .int a1] D
set_option maxRecDepth 100000 in
theorem F_X9_pull_eq (a1 : Int32) (D : hy_M) : F_X9_pull a1 D = ((F_X9_isTrack a1 D).bind (fun q1 => (if q1.1 = 0 then (some ((-1 : Int32), q1.2)) else (if (q1.2 68 2) = 0 then (some ((-3 : Int32), q1.2)) else ((F_X9_copies q1.2).bind (fun q2 => ((F_X9_pulls a1 (hy_w q2 67 13 (0 : Int32))).bind (fun q3 => ((F_X9_isOver q3).bind (fun q4 => (if q4.1 = 0 then (some ((q4.2 67 13), q4.2)) else ((F_X9_copies_67_70_68 q4.2).bind (fun q5 => (some ((-4 : Int32), q5))))))))))))))) := by
  rfl
def F_X9_clear  (D : hy_M) : Option (Int32 × hy_M) := g_X9_clear [.ref 67] D
set_option maxRecDepth 100000 in
theorem F_X9_clear_eq  (D : hy_M) : F_X9_clear D = ((F_X9_outs D).bind (fun q1 => ((F_X9_clears q1.2).bind (fun q2 => (some (q1.1, q2)))))) := by
  rfl
def F_X9_out (a1 : Int32) (a2 : Int32) (D : hy_M) : Option (Int32 × hy_M) := g_X9_out [.ref 67, .int a1, .int a2] D
set_option maxRecDepth 100000 in
theorem F_X9_out_eq (a1 : Int32) (a2 : Int32) (D : hy_M) : F_X9_out a1 a2 D = ((F_X9_isTrain a1 D).bind (fun q1 => (if q1.1 = 0 then (some ((-1 : Int32), q1.2)) else (if hy_in ((49 : Int32) + a1) 94 = true then ((F_X9_isIn (a2).toInt64 (-1 : Int64) (((q1.2 68 (((49 : Int32) + a1)).toNatClampNeg) - (1 : Int32))).toInt64 q1.2).bind (fun q2 => (if q2.1 = 0 then (some ((-1 : Int32), q2.2)) else (if a2 < 0 then (if hy_in ((49 : Int32) + a1) 94 = true then (some ((q2.2 68 (((49 : Int32) + a1)).toNatClampNeg), q2.2)) else none) else (if hy_in (((51 : Int32) + ((8 : Int32) * a1)) + a2) 94 = true then (some ((q2.2 68 ((((51 : Int32) + ((8 : Int32) * a1)) + a2)).toNatClampNeg), q2.2)) else none))))) else none)))) := by
  rfl
