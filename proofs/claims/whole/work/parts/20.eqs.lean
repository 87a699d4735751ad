def F_X6_takes (N : Nat) (a0 : Int32) (D : hy_M) : Option (Int32 × hy_M) := g_X6_takes N [.int a0] D
set_option maxRecDepth 100000 in
theorem F_X6_takes_eq (N : Nat) (a0 : Int32) (D : hy_M) : F_X6_takes N a0 D = (if a0 < (1 : Int32) then (some ((0 : Int32), D)) else (if (127 : Int32) < a0 then (some ((0 : Int32), D)) else (some ((1 : Int32), D)))) := by
  rfl
def F_X6_append (N : Nat) (a1 : Int32) (D : hy_M) : Option hy_M := g_X6_append N [.ref 37, .int a1] D
set_option maxRecDepth 100000 in
theorem F_X6_append_eq (N : Nat) (a1 : Int32) (D : hy_M) : F_X6_append N a1 D = (if (D 37 1) < (40 : Int32) then (if hy_in (D 37 1) 40 = true then (some (hy_w (hy_w D 38 ((D 37 1)).toNatClampNeg a1) 37 1 (((hy_w D 38 ((D 37 1)).toNatClampNeg a1) 37 1) + (1 : Int32)))) else none) else (some D)) := by
  rfl
def F_X8_feed_81 (N : Nat) (v1 : Int32) (v4 : Int32) (v5 : Int32) (D : hy_M) : Option (Int32 × hy_M) := b_X8_feed_81 N  [some (.ref 0), some (.int v1), none, none, some (.int v4), some (.int v5)] [] D
def F_X8_feed_95 (N : Nat) (v1 : Int32) (v5 : Int32) (D : hy_M) : Option (Int32 × hy_M) := b_X8_feed_95 N  [some (.ref 0), some (.int v1), none, none, none, some (.int v5)] [] D
def F_X8_feed (N : Nat) (a1 : Int32) (a2 : Int32) (a3 : Int32) (a4 : Int32) (a5 : Int32) (D : hy_M) : Option (Int32 × hy_M) := g_X8_feed N [.ref 0, .int a1, .int a2, .int a3, .int a4, .int a5] D
set_option maxRecDepth 100000 in
theorem F_X8_feed_81_eq (N : Nat) (v1 : Int32) (v4 : Int32) (v5 : Int32) (D : hy_M) : F_X8_feed_81 N v1 v4 v5 D = (if (2 : Int32) < v1 then ((F_X6_append N v4 D).bind (fun q1 => (F_X8_feed_95 N v1 v5 q1))) else (F_X8_feed_95 N v1 v5 D)) := by
  rfl
set_option maxRecDepth 100000 in
theorem F_X8_feed_95_eq (N : Nat) (v1 : Int32) (v5 : Int32) (D : hy_M) : F_X8_feed_95 N v1 v5 D = (if (3 : Int32) < v1 then ((F_X6_append N v5 D).bind (fun q1 => (some ((q1 37 1), q1)))) else (some ((D 37 1), D))) := by
  rfl
set_option maxRecDepth 100000 in
theorem F_X8_feed_eq (N : Nat) (a1 : Int32) (a2 : Int32) (a3 : Int32) (a4 : Int32) (a5 : Int32) (D : hy_M) : F_X8_feed N a1 a2 a3 a4 a5 D = (if a1 < (1 : Int32) then (some ((-2 : Int32), D)) else (if (4 : Int32) < a1 then (some ((-2 : Int32), D)) else ((F_X6_takes N a2 D).bind (fun q1 => (if q1.1 = 0 then (some ((-2 : Int32), q1.2)) else ((F_X6_takes N a3 q1.2).bind (fun q2 => (if q2.1 = 0 then (some ((-2 : Int32), q2.2)) else ((F_X6_takes N a4 q2.2).bind (fun q3 => (if q3.1 = 0 then (some ((-2 : Int32), q3.2)) else ((F_X6_takes N a5 q3.2).bind (fun q4 => (if q4.1 = 0 then (some ((-2 : Int32), q4.2)) else (if (40 : Int32) < ((q4.2 37 1) + a1) then (some ((-4 : Int32), q4.2)) else ((F_X6_append N a2 q4.2).bind (fun q5 => (if (1 : Int32) < a1 then ((F_X6_append N a3 q5).bind (fun q6 => (F_X8_feed_81 N a1 a4 a5 q6))) else (F_X8_feed_81 N a1 a4 a5 q5))))))))))))))))))) := by
  rfl
def F_J6_bitCount_0f7a4 (N : Nat) (a0 : Int32) (D : hy_M) : Option (Int32 × hy_M) := g_J6_bitCount_0f7a4 N [.int a0] D
set_option maxRecDepth 100000 in
theorem F_J6_bitCount_0f7a4_eq (N : Nat) (a0 : Int32) (D : hy_M) : F_J6_bitCount_0f7a4 N a0 D = (some (((((((((a0 - (((a0).toUInt32 >>> (((1 : Int32)).toUInt32 &&& Int32.toUInt32 31)).toInt32 &&& (1431655765 : Int32))) &&& (858993459 : Int32)) + ((((a0 - (((a0).toUInt32 >>> (((1 : Int32)).toUInt32 &&& Int32.toUInt32 31)).toInt32 &&& (1431655765 : Int32)))).toUInt32 >>> (((2 : Int32)).toUInt32 &&& Int32.toUInt32 31)).toInt32 &&& (858993459 : Int32))) + (((((a0 - (((a0).toUInt32 >>> (((1 : Int32)).toUInt32 &&& Int32.toUInt32 31)).toInt32 &&& (1431655765 : Int32))) &&& (858993459 : Int32)) + ((((a0 - (((a0).toUInt32 >>> (((1 : Int32)).toUInt32 &&& Int32.toUInt32 31)).toInt32 &&& (1431655765 : Int32)))).toUInt32 >>> (((2 : Int32)).toUInt32 &&& Int32.toUInt32 31)).toInt32 &&& (858993459 : Int32)))).toUInt32 >>> (((4 : Int32)).toUInt32 &&& Int32.toUInt32 31)).toInt32) &&& (252645135 : Int32)) + (((((((a0 - (((a0).toUInt32 >>> (((1 : Int32)).toUInt32 &&& Int32.toUInt32 31)).toInt32 &&& (1431655765 : Int32))) &&& (858993459 : Int32)) + ((((a0 - (((a0).toUInt32 >>> (((1 : Int32)).toUInt32 &&& Int32.toUInt32 31)).toInt32 &&& (1431655765 : Int32)))).toUInt32 >>> (((2 : Int32)).toUInt32 &&& Int32.toUInt32 31)).toInt32 &&& (858993459 : Int32))) + (((((a0 - (((a0).toUInt32 >>> (((1 : Int32)).toUInt32 &&& Int32.toUInt32 31)).toInt32 &&& (1431655765 : Int32))) &&& (858993459 : Int32)) + ((((a0 - (((a0).toUInt32 >>> (((1 : Int32)).toUInt32 &&& Int32.toUInt32 31)).toInt32 &&& (1431655765 : Int32)))).toUInt32 >>> (((2 : Int32)).toUInt32 &&& Int32.toUInt32 31)).toInt32 &&& (858993459 : Int32)))).toUInt32 >>> (((4 : Int32)).toUInt32 &&& Int32.toUInt32 31)).toInt32) &&& (252645135 : Int32))).toUInt32 >>> (((8 : Int32)).toUInt32 &&& Int32.toUInt32 31)).toInt32) + ((((((((a0 - (((a0).toUInt32 >>> (((1 : Int32)).toUInt32 &&& Int32.toUInt32 31)).toInt32 &&& (1431655765 : Int32))) &&& (858993459 : Int32)) + ((((a0 - (((a0).toUInt32 >>> (((1 : Int32)).toUInt32 &&& Int32.toUInt32 31)).toInt32 &&& (1431655765 : Int32)))).toUInt32 >>> (((2 : Int32)).toUInt32 &&& Int32.toUInt32 31)).toInt32 &&& (858993459 : Int32))) + (((((a0 - (((a0).toUInt32 >>> (((1 : Int32)).toUInt32 &&& Int32.toUInt32 31)).toInt32 &&& (1431655765 : Int32))) &&& (858993459 : Int32)) + ((((a0 - (((a0).toUInt32 >>> (((1 : Int32)).toUInt32 &&& Int32.toUInt32 31)).toInt32 &&& (1431655765 : Int32)))).toUInt32 >>> (((2 : Int32)).toUInt32 &&& Int32.toUInt32 31)).toInt32 &&& (858993459 : Int32)))).toUInt32 >>> (((4 : Int32)).toUInt32 &&& Int32.toUInt32 31)).toInt32) &&& (252645135 : Int32)) + (((((((a0 - (((a0).toUInt32 >>> (((1 : Int32)).toUInt32 &&& Int32.toUInt32 31)).toInt32 &&& (1431655765 : Int32))) &&& (858993459 : Int32)) + ((((a0 - (((a0).toUInt32 >>> (((1 : Int32)).toUInt32 &&& Int32.toUInt32 31)).toInt32 &&& (1431655765 : Int32)))).toUInt32 >>> (((2 : Int32)).toUInt32 &&& Int32.toUInt32 31)).toInt32 &&& (858993459 : Int32))) + (((((a0 - (((a0).toUInt32 >>> (((1 : Int32)).toUInt32 &&& Int32.toUInt32 31)).toInt32 &&& (1431655765 : Int32))) &&& (858993459 : Int32)) + ((((a0 - (((a0).toUInt32 >>> (((1 : Int32)).toUInt32 &&& Int32.toUInt32 31)).toInt32 &&& (1431655765 : Int32)))).toUInt32 >>> (((2 : Int32)).toUInt32 &&& Int32.toUInt32 31)).toInt32 &&& (858993459 : Int32)))).toUInt32 >>> (((4 : Int32)).toUInt32 &&& Int32.toUInt32 31)).toInt32) &&& (252645135 : Int32))).toUInt32 >>> (((8 : Int32)).toUInt32 &&& Int32.toUInt32 31)).toInt32)).toUInt32 >>> (((16 : Int32)).toUInt32 &&& Int32.toUInt32 31)).toInt32) &&& (63 : Int32)), D)) := by
  rfl
def F_X6_firstLetterFrom_2 (N : Nat) (n2 : Nat) (v1 : Int32) (v2 : Int32) (D : hy_M) : Option (Int32 × hy_M) := b_X6_firstLetterFrom_2 N  n2 [some (.ref 37), some (.int v1), some (.int v2)] [] D
def F_X6_firstLetterFrom (N : Nat) (a1 : Int32) (D : hy_M) : Option (Int32 × hy_M) := g_X6_firstLetterFrom N [.ref 37, .int a1] D
set_option maxRecDepth 100000 in
theorem F_X6_firstLetterFrom_2_eq (N : Nat) (n2 : Nat) (v1 : Int32) (v2 : Int32) (D : hy_M) : F_X6_firstLetterFrom_2 N (n2 + 1) v1 v2 D = (if v2 < (D 37 1) then (if hy_in v2 40 = true then (if (D 38 (v2).toNatClampNeg) = (124 : Int32) then (F_X6_firstLetterFrom_2 N n2 v1 (v2 + (1 : Int32)) D) else (if hy_in v2 40 = true then (if ((D 38 (v2).toNatClampNeg) - (97 : Int32)) < v1 then (F_X6_firstLetterFrom_2 N n2 v1 (v2 + (1 : Int32)) D) else (some (v2, D))) else none)) else none) else (some ((-1 : Int32), D))) := by
  rfl
set_option maxRecDepth 100000 in
theorem F_X6_firstLetterFrom_eq (N : Nat) (a1 : Int32) (D : hy_M) : F_X6_firstLetterFrom N a1 D = (F_X6_firstLetterFrom_2 N N a1 (0 : Int32) D) := by
  rfl
def F_X6_faultOfYard_6 (N : Nat) (n6 : Nat) (v1 : Int32) (v2 : Int32) (v3 : Int32) (D : hy_M) : Option (Int32 × hy_M) := b_X6_faultOfYard_6 N  n6 [some (.ref 37), some (.int v1), some (.int v2), some (.int v3), none] [] D
def F_X6_faultOfYard (N : Nat)  (D : hy_M) : Option (Int32 × hy_M) := g_X6_faultOfYard N [.ref 37] D
set_option maxRecDepth 100000 in
theorem F_X6_faultOfYard_6_eq (N : Nat) (n6 : Nat) (v1 : Int32) (v2 : Int32) (v3 : Int32) (D : hy_M) : F_X6_faultOfYard_6 N (n6 + 1) v1 v2 v3 D = (if v3 < (D 37 1) then (if hy_in v3 40 = true then (if hy_in v3 40 = true then (if (D 38 (v3).toNatClampNeg) = (124 : Int32) then (if v2 = 0 then (F_X6_faultOfYard_6 N n6 v1 (1 : Int32) (v3 + (1 : Int32)) D) else (some (v3, D))) else (if ((D 38 (v3).toNatClampNeg) - (97 : Int32)) < 0 then (some (v3, D)) else (if ((D 38 (v3).toNatClampNeg) - (97 : Int32)) < (8 : Int32) then (if ((v1 >>> (((D 38 (v3).toNatClampNeg) - (97 : Int32)) &&& 31)) &&& (1 : Int32)) = (1 : Int32) then (some (v3, D)) else (F_X6_faultOfYard_6 N n6 (v1 ||| ((1 : Int32) <<< (((D 38 (v3).toNatClampNeg) - (97 : Int32)) &&& 31))) v2 (v3 + (1 : Int32)) D)) else (some (v3, D))))) else none) else none) else ((F_J6_bitCount_0f7a4 N v1 D).bind (fun q1 => ((F_X6_firstLetterFrom N q1.1 q1.2).bind (fun q2 => (some (q2.1, q2.2))))))) := by
  rfl
set_option maxRecDepth 100000 in
theorem F_X6_faultOfYard_eq (N : Nat)  (D : hy_M) : F_X6_faultOfYard N D = (F_X6_faultOfYard_6 N N (0 : Int32) (0 : Int32) (0 : Int32) D) := by
  rfl
def F_X2_empty_2 (N : Nat) (n2 : Nat) (v1 : Int32) (D : hy_M) : Option hy_M := b_X2_empty_2 N  n2 [some (.ref 11), some (.int v1)] [] D
def F_X2_empty (N : Nat)  (D : hy_M) : Option hy_M := g_X2_empty N [.ref 11] D
set_option maxRecDepth 100000 in
theorem F_X2_empty_2_eq (N : Nat) (n2 : Nat) (v1 : Int32) (D : hy_M) : F_X2_empty_2 N (n2 + 1) v1 D = (if v1 < (5 : Int32) then (if hy_in v1 5 = true then (F_X2_empty_2 N n2 (v1 + (1 : Int32)) (hy_w D 18 (v1).toNatClampNeg (0 : Int32))) else none) else (some D)) := by
  rfl
set_option maxRecDepth 100000 in
theorem F_X2_empty_eq (N : Nat)  (D : hy_M) : F_X2_empty N D = (F_X2_empty_2 N N (0 : Int32) D) := by
  rfl
def F_X7_becomeCleared (N : Nat)  (D : hy_M) : Option hy_M := g_X7_becomeCleared N [.ref 1] D
set_option maxRecDepth 100000 in
theorem F_X7_becomeCleared_eq (N : Nat)  (D : hy_M) : F_X7_becomeCleared N D = ((F_X2_empty N D).bind (fun q1 => (some (hy_w (hy_w q1 1 2 (0 : Int32)) 1 3 (0 : Int32))))) := by
  rfl
def F_X7_addWanted (N : Nat) (a1 : Int32) (a2 : Int32) (D : hy_M) : Option hy_M := g_X7_addWanted N [.ref 1, .int a1, .int a2] D
set_option maxRecDepth 100000 in
theorem F_X7_addWanted_eq (N : Nat) (a1 : Int32) (a2 : Int32) (D : hy_M) : F_X7_addWanted N a1 a2 D = (if a2 < 0 then (some D) else (if a2 < (8 : Int32) then (if hy_in a1 2 = true then (if (D 9 (a1).toNatClampNeg) < (8 : Int32) then (if hy_in a2 8 = true then (if hy_in a2 8 = true then (if hy_in a2 8 = true then (if hy_in a1 2 = true then (if hy_in a2 8 = true then (if hy_in a1 2 = true then (if hy_in a1 2 = true then (if hy_in ((hy_w (hy_w (hy_w (hy_w D 2 (a2).toNatClampNeg (1 : Int32)) 3 (a2).toNatClampNeg (0 : Int32)) 4 (a2).toNatClampNeg a1) 5 (a2).toNatClampNeg ((hy_w (hy_w (hy_w D 2 (a2).toNatClampNeg (1 : Int32)) 3 (a2).toNatClampNeg (0 : Int32)) 4 (a2).toNatClampNeg a1) 9 (a1).toNatClampNeg)) 9 (a1).toNatClampNeg) (hy_wl (hy_pr 6 (a1).toNatClampNeg)) = true then (if hy_in a1 2 = true then (if hy_in a1 2 = true then (some (hy_w (hy_w (hy_w (hy_w (hy_w (hy_w (hy_w D 2 (a2).toNatClampNeg (1 : Int32)) 3 (a2).toNatClampNeg (0 : Int32)) 4 (a2).toNatClampNeg a1) 5 (a2).toNatClampNeg ((hy_w (hy_w (hy_w D 2 (a2).toNatClampNeg (1 : Int32)) 3 (a2).toNatClampNeg (0 : Int32)) 4 (a2).toNatClampNeg a1) 9 (a1).toNatClampNeg)) (hy_pr 6 (a1).toNatClampNeg) (((hy_w (hy_w (hy_w (hy_w D 2 (a2).toNatClampNeg (1 : Int32)) 3 (a2).toNatClampNeg (0 : Int32)) 4 (a2).toNatClampNeg a1) 5 (a2).toNatClampNeg ((hy_w (hy_w (hy_w D 2 (a2).toNatClampNeg (1 : Int32)) 3 (a2).toNatClampNeg (0 : Int32)) 4 (a2).toNatClampNeg a1) 9 (a1).toNatClampNeg)) 9 (a1).toNatClampNeg)).toNatClampNeg a2) 9 (a1).toNatClampNeg (((hy_w (hy_w (hy_w (hy_w (hy_w D 2 (a2).toNatClampNeg (1 : Int32)) 3 (a2).toNatClampNeg (0 : Int32)) 4 (a2).toNatClampNeg a1) 5 (a2).toNatClampNeg ((hy_w (hy_w (hy_w D 2 (a2).toNatClampNeg (1 : Int32)) 3 (a2).toNatClampNeg (0 : Int32)) 4 (a2).toNatClampNeg a1) 9 (a1).toNatClampNeg)) (hy_pr 6 (a1).toNatClampNeg) (((hy_w (hy_w (hy_w (hy_w D 2 (a2).toNatClampNeg (1 : Int32)) 3 (a2).toNatClampNeg (0 : Int32)) 4 (a2).toNatClampNeg a1) 5 (a2).toNatClampNeg ((hy_w (hy_w (hy_w D 2 (a2).toNatClampNeg (1 : Int32)) 3 (a2).toNatClampNeg (0 : Int32)) 4 (a2).toNatClampNeg a1) 9 (a1).toNatClampNeg)) 9 (a1).toNatClampNeg)).toNatClampNeg a2) 9 (a1).toNatClampNeg) + (1 : Int32))) 1 0 (((hy_w (hy_w (hy_w (hy_w (hy_w (hy_w D 2 (a2).toNatClampNeg (1 : Int32)) 3 (a2).toNatClampNeg (0 : Int32)) 4 (a2).toNatClampNeg a1) 5 (a2).toNatClampNeg ((hy_w (hy_w (hy_w D 2 (a2).toNatClampNeg (1 : Int32)) 3 (a2).toNatClampNeg (0 : Int32)) 4 (a2).toNatClampNeg a1) 9 (a1).toNatClampNeg)) (hy_pr 6 (a1).toNatClampNeg) (((hy_w (hy_w (hy_w (hy_w D 2 (a2).toNatClampNeg (1 : Int32)) 3 (a2).toNatClampNeg (0 : Int32)) 4 (a2).toNatClampNeg a1) 5 (a2).toNatClampNeg ((hy_w (hy_w (hy_w D 2 (a2).toNatClampNeg (1 : Int32)) 3 (a2).toNatClampNeg (0 : Int32)) 4 (a2).toNatClampNeg a1) 9 (a1).toNatClampNeg)) 9 (a1).toNatClampNeg)).toNatClampNeg a2) 9 (a1).toNatClampNeg (((hy_w (hy_w (hy_w (hy_w (hy_w D 2 (a2).toNatClampNeg (1 : Int32)) 3 (a2).toNatClampNeg (0 : Int32)) 4 (a2).toNatClampNeg a1) 5 (a2).toNatClampNeg ((hy_w (hy_w (hy_w D 2 (a2).toNatClampNeg (1 : Int32)) 3 (a2).toNatClampNeg (0 : Int32)) 4 (a2).toNatClampNeg a1) 9 (a1).toNatClampNeg)) (hy_pr 6 (a1).toNatClampNeg) (((hy_w (hy_w (hy_w (hy_w D 2 (a2).toNatClampNeg (1 : Int32)) 3 (a2).toNatClampNeg (0 : Int32)) 4 (a2).toNatClampNeg a1) 5 (a2).toNatClampNeg ((hy_w (hy_w (hy_w D 2 (a2).toNatClampNeg (1 : Int32)) 3 (a2).toNatClampNeg (0 : Int32)) 4 (a2).toNatClampNeg a1) 9 (a1).toNatClampNeg)) 9 (a1).toNatClampNeg)).toNatClampNeg a2) 9 (a1).toNatClampNeg) + (1 : Int32))) 1 0) + (1 : Int32)))) else none) else none) else none) else none) else none) else none) else none) else none) else none) else none) else (some D)) else none) else (some D))) := by
  rfl
def F_X7_becomeNew_23 (N : Nat) (n23 : Nat) (v2 : Int32) (v3 : Int32) (D : hy_M) : Option hy_M := b_X7_becomeNew_23 N  n23 [some (.ref 1), some (.ref 37), some (.int v2), some (.int v3)] [] D
def F_X7_becomeNew (N : Nat)  (D : hy_M) : Option hy_M := g_X7_becomeNew N [.ref 1, .ref 37] D
set_option maxRecDepth 100000 in
theorem F_X7_becomeNew_23_eq (N : Nat) (n23 : Nat) (v2 : Int32) (v3 : Int32) (D : hy_M) : F_X7_becomeNew_23 N (n23 + 1) v2 v3 D = (if v3 < (D 37 1) then (if hy_in v3 40 = true then (if (D 38 (v3).toNatClampNeg) = (124 : Int32) then (F_X7_becomeNew_23 N n23 (1 : Int32) (v3 + (1 : Int32)) D) else (if hy_in v3 40 = true then ((F_X7_addWanted N v2 ((D 38 (v3).toNatClampNeg) - (97 : Int32)) D).bind (fun q1 => (F_X7_becomeNew_23 N n23 v2 (v3 + (1 : Int32)) q1))) else none)) else none) else ((F_X7_becomeCleared N D).bind (fun q1 => (some q1)))) := by
  rfl
set_option maxRecDepth 100000 in
theorem F_X7_becomeNew_eq (N : Nat)  (D : hy_M) : F_X7_becomeNew N D = (F_X7_becomeNew_23 N N (0 : Int32) (0 : Int32) (hy_w (hy_w (hy_w D 1 0 (0 : Int32)) 9 0 (0 : Int32)) 9 1 (0 : Int32))) := by
  rfl
def F_X8_yard_24 (N : Nat) (v1 : Int32) (D : hy_M) : Option (Int32 × hy_M) := b_X8_yard_24 N  [some (.ref 0), some (.int v1)] [] D
def F_X8_yard (N : Nat)  (D : hy_M) : Option (Int32 × hy_M) := g_X8_yard N [.ref 0] D
set_option maxRecDepth 100000 in
theorem F_X8_yard_24_eq (N : Nat) (v1 : Int32) (D : hy_M) : F_X8_yard_24 N v1 D = (if v1 = (-1 : Int32) then (some (((hy_w D 37 1 (0 : Int32)) 1 0), (hy_w D 37 1 (0 : Int32)))) else (some (((-100 : Int32) - v1), (hy_w D 37 1 (0 : Int32))))) := by
  rfl
set_option maxRecDepth 100000 in
theorem F_X8_yard_eq (N : Nat)  (D : hy_M) : F_X8_yard N D = ((F_X6_faultOfYard N D).bind (fun q1 => (if q1.1 = (-1 : Int32) then ((F_X7_becomeNew N q1.2).bind (fun q2 => (F_X8_yard_24 N q1.1 q2))) else (F_X8_yard_24 N q1.1 q1.2)))) := by
  rfl
def F_X6_figureAt (N : Nat) (a1 : Int32) (D : hy_M) : Option (Int32 × hy_M) := g_X6_figureAt N [.ref 37, .int a1] D
set_option maxRecDepth 100000 in
theorem F_X6_figureAt_eq (N : Nat) (a1 : Int32) (D : hy_M) : F_X6_figureAt N a1 D = (if hy_in a1 40 = true then (some (((D 38 (a1).toNatClampNeg) - (48 : Int32)), D)) else none) := by
  rfl
def F_X6_faultOfFigures_3 (N : Nat) (n3 : Nat) (v1 : Int32) (v2 : Int32) (v3 : Int32) (v4 : Int32) (D : hy_M) : Option (Int32 × hy_M) := b_X6_faultOfFigures_3 N  n3 [some (.ref 37), some (.int v1), some (.int v2), some (.int v3), some (.int v4)] [] D
def F_X6_faultOfFigures (N : Nat) (a1 : Int32) (a2 : Int32) (a3 : Int32) (D : hy_M) : Option (Int32 × hy_M) := g_X6_faultOfFigures N [.ref 37, .int a1, .int a2, .int a3] D
set_option maxRecDepth 100000 in
theorem F_X6_faultOfFigures_3_eq (N : Nat) (n3 : Nat) (v1 : Int32) (v2 : Int32) (v3 : Int32) (v4 : Int32) (D : hy_M) : F_X6_faultOfFigures_3 N (n3 + 1) v1 v2 v3 v4 D = (if v4 < (D 37 1) then (if v4 < v3 then ((F_X6_figureAt N v4 D).bind (fun q1 => (if q1.1 < 0 then (some (v4, q1.2)) else ((F_X6_figureAt N v4 q1.2).bind (fun q2 => (if q2.1 < v1 then (F_X6_faultOfFigures_3 N n3 v1 v2 v3 (v4 + (1 : Int32)) q2.2) else (some (v4, q2.2)))))))) else (some (v4, D))) else (if (D 37 1) < v2 then (some ((D 37 1), D)) else (some ((-1 : Int32), D)))) := by
  rfl
set_option maxRecDepth 100000 in
theorem F_X6_faultOfFigures_eq (N : Nat) (a1 : Int32) (a2 : Int32) (a3 : Int32) (D : hy_M) : F_X6_faultOfFigures N a1 a2 a3 D = (F_X6_faultOfFigures_3 N N a1 a2 a3 (0 : Int32) D) := by
  rfl
def F_X8_codes_44 (N : Nat) (n44 : Nat) (v1 : Int32) (v2 : Int32) (D : hy_M) : Option (Int32 × hy_M) := b_X8_codes_44 N  n44 [some (.ref 0), some (.int v1), some (.int v2)] [] D
def F_X8_codes_78 (N : Nat) (v1 : Int32) (D : hy_M) : Option (Int32 × hy_M) := b_X8_codes_78 N  [some (.ref 0), some (.int v1), none] [] D
def F_X8_codes (N : Nat)  (D : hy_M) : Option (Int32 × hy_M) := g_X8_codes N [.ref 0] D
set_option maxRecDepth 100000 in
theorem F_X8_codes_44_eq (N : Nat) (n44 : Nat) (v1 : Int32) (v2 : Int32) (D : hy_M) : F_X8_codes_44 N (n44 + 1) v1 v2 D = (if v2 < (D 1 0) then ((F_X6_figureAt N v2 D).bind (fun q1 => (if hy_in v2 8 = true then (F_X8_codes_44 N n44 v1 (v2 + (1 : Int32)) (hy_w q1.2 3 (v2).toNatClampNeg q1.1)) else none))) else (F_X8_codes_78 N v1 D)) := by
  rfl
set_option maxRecDepth 100000 in
theorem F_X8_codes_78_eq (N : Nat) (v1 : Int32) (D : hy_M) : F_X8_codes_78 N v1 D = (if v1 = (-1 : Int32) then (some (((hy_w D 37 1 (0 : Int32)) 1 0), (hy_w D 37 1 (0 : Int32)))) else (some (((-100 : Int32) - v1), (hy_w D 37 1 (0 : Int32))))) := by
  rfl
set_option maxRecDepth 100000 in
theorem F_X8_codes_eq (N : Nat)  (D : hy_M) : F_X8_codes N D = (if (D 1 2) = 0 then ((F_X6_faultOfFigures N (8 : Int32) (D 1 0) (D 1 0) D).bind (fun q1 => (if q1.1 = (-1 : Int32) then (F_X8_codes_44 N N q1.1 (0 : Int32) q1.2) else (F_X8_codes_78 N q1.1 q1.2)))) else (some ((-3 : Int32), D))) := by
  rfl
def F_X7_hasWagon (N : Nat) (a1 : Int32) (D : hy_M) : Option (Int32 × hy_M) := g_X7_hasWagon N [.ref 1, .int a1] D
set_option maxRecDepth 100000 in
theorem F_X7_hasWagon_eq (N : Nat) (a1 : Int32) (D : hy_M) : F_X7_hasWagon N a1 D = (if a1 < 0 then (some ((0 : Int32), D)) else (if a1 < (D 1 0) then (some ((1 : Int32), D)) else (some ((0 : Int32), D)))) := by
  rfl
def F_X8_set_59 (N : Nat) (v1 : Int32) (v2 : Int32) (v3 : Int32) (vs0 : Int32) (D : hy_M) : Option (Int32 × hy_M) := b_X8_set_59 N  [some (.ref 0), some (.int v1), some (.int v2), some (.int v3), none, none, none] [.int vs0] D
def F_X8_set_103 (N : Nat) (v1 : Int32) (v3 : Int32) (rs0 : Nat) (D : hy_M) : Option (Int32 × hy_M) := b_X8_set_103 N  [none, some (.int v1), none, some (.int v3), none, none, none] [.ref rs0] D
def F_X8_set (N : Nat) (a1 : Int32) (a2 : Int32) (a3 : Int32) (D : hy_M) : Option (Int32 × hy_M) := g_X8_set N [.ref 0, .int a1, .int a2, .int a3] D
set_option maxRecDepth 100000 in
theorem F_X8_set_59_eq (N : Nat) (v1 : Int32) (v2 : Int32) (v3 : Int32) (vs0 : Int32) (D : hy_M) : F_X8_set_59 N v1 v2 v3 vs0 D = (if vs0 = 0 then (some ((-2 : Int32), D)) else (if (D 1 2) = 0 then (if v2 = 0 then (F_X8_set_103 N v1 v3 2 D) else (F_X8_set_103 N v1 v3 3 D)) else (some ((-3 : Int32), D)))) := by
  rfl
set_option maxRecDepth 100000 in
theorem F_X8_set_103_eq (N : Nat) (v1 : Int32) (v3 : Int32) (rs0 : Nat) (D : hy_M) : F_X8_set_103 N v1 v3 rs0 D = (if hy_in v1 (hy_al rs0) = true then (if hy_in v1 (hy_wl rs0) = true then (some ((D rs0 (v1).toNatClampNeg), (hy_w D rs0 (v1).toNatClampNeg v3))) else none) else none) := by
  rfl
set_option maxRecDepth 100000 in
theorem F_X8_set_eq (N : Nat) (a1 : Int32) (a2 : Int32) (a3 : Int32) (D : hy_M) : F_X8_set N a1 a2 a3 D = ((F_X7_hasWagon N a1 D).bind (fun q1 => (if q1.1 = 0 then (some ((-1 : Int32), q1.2)) else (if a2 < 0 then (some ((-1 : Int32), q1.2)) else (if (1 : Int32) < a2 then (some ((-1 : Int32), q1.2)) else (if a2 = 0 then (if a3 < (1 : Int32) then (F_X8_set_59 N a1 a2 a3 (0 : Int32) q1.2) else (if (3 : Int32) < a3 then (F_X8_set_59 N a1 a2 a3 (0 : Int32) q1.2) else (F_X8_set_59 N a1 a2 a3 (1 : Int32) q1.2))) else (if a3 < 0 then (F_X8_set_59 N a1 a2 a3 (0 : Int32) q1.2) else (if a3 < (8 : Int32) then (F_X8_set_59 N a1 a2 a3 (1 : Int32) q1.2) else (F_X8_set_59 N a1 a2 a3 (0 : Int32) q1.2))))))))) := by
  rfl
def F_X8_isTrack (N : Nat) (a0 : Int32) (D : hy_M) : Option (Int32 × hy_M) := g_X8_isTrack N [.int a0] D
set_option maxRecDepth 100000 in
theorem F_X8_isTrack_eq (N : Nat) (a0 : Int32) (D : hy_M) : F_X8_isTrack N a0 D = (if a0 < 0 then (some ((0 : Int32), D)) else (if a0 < (3 : Int32) then (some ((1 : Int32), D)) else (some ((0 : Int32), D)))) := by
  rfl
def F_X8_room (N : Nat) (a1 : Int32) (a2 : Int32) (D : hy_M) : Option (Int32 × hy_M) := g_X8_room N [.ref 0, .int a1, .int a2] D
set_option maxRecDepth 100000 in
theorem F_X8_room_eq (N : Nat) (a1 : Int32) (a2 : Int32) (D : hy_M) : F_X8_room N a1 a2 D = ((F_X8_isTrack N a1 D).bind (fun q1 => (if q1.1 = 0 then (some ((-1 : Int32), q1.2)) else (if a2 < 0 then (some ((-2 : Int32), q1.2)) else (if (24 : Int32) < a2 then (some ((-2 : Int32), q1.2)) else (if (q1.2 1 2) = 0 then (if hy_in a1 3 = true then (if hy_in a1 3 = true then (some ((q1.2 10 (a1).toNatClampNeg), (hy_w q1.2 10 (a1).toNatClampNeg a2))) else none) else none) else (some ((-3 : Int32), q1.2)))))))) := by
  rfl
def F_X8_brand (N : Nat) (a1 : Int32) (D : hy_M) : Option (Int32 × hy_M) := g_X8_brand N [.ref 0, .int a1] D
set_option maxRecDepth 100000 in
theorem F_X8_brand_eq (N : Nat) (a1 : Int32) (D : hy_M) : F_X8_brand N a1 D = (if a1 < 0 then (some ((-1 : Int32), D)) else (if a1 < (4 : Int32) then (some ((D 1 1), (hy_w D 1 1 a1))) else (some ((-1 : Int32), D)))) := by
  rfl
def F_X7_wantedAt (N : Nat) (a1 : Int32) (a2 : Int32) (D : hy_M) : Option (Int32 × hy_M) := g_X7_wantedAt N [.ref 1, .int a1, .int a2] D
set_option maxRecDepth 100000 in
theorem F_X7_wantedAt_eq (N : Nat) (a1 : Int32) (a2 : Int32) (D : hy_M) : F_X7_wantedAt N a1 a2 D = (if hy_in a1 2 = true then (if hy_in a2 (hy_al (hy_pr 6 (a1).toNatClampNeg)) = true then (some ((D (hy_pr 6 (a1).toNatClampNeg) (a2).toNatClampNeg), D)) else none) else none) := by
  rfl
def F_X7_isCut (N : Nat) (a1 : Int32) (a2 : Int32) (D : hy_M) : Option (Int32 × hy_M) := g_X7_isCut N [.ref 1, .int a1, .int a2, .ref 1000] D
set_option maxRecDepth 100000 in
theorem F_X7_isCut_eq (N : Nat) (a1 : Int32) (a2 : Int32) (D : hy_M) : F_X7_isCut N a1 a2 D = ((F_X7_wantedAt N a1 a2 D).bind (fun q1 => (if hy_in q1.1 8 = true then ((F_X7_wantedAt N a1 (a2 - (1 : Int32)) q1.2).bind (fun q2 => (if hy_in q2.1 8 = true then (if (q1.2 1000 (q1.1).toNatClampNeg) < (q2.2 1000 (q2.1).toNatClampNeg) then (some ((1 : Int32), q2.2)) else (some ((0 : Int32), q2.2))) else none))) else none))) := by
  rfl
def F_X7_chainsOf_16 (N : Nat) (n16 : Nat) (v1 : Int32) (v3 : Int32) (v4 : Int32) (D : hy_M) : Option (Int32 × hy_M) := b_X7_chainsOf_16 N  n16 [some (.ref 1), some (.int v1), some (.ref 1000), some (.int v3), some (.int v4)] [] D
def F_X7_chainsOf (N : Nat) (a1 : Int32) (D : hy_M) : Option (Int32 × hy_M) := g_X7_chainsOf N [.ref 1, .int a1, .ref 1000] D
set_option maxRecDepth 100000 in
theorem F_X7_chainsOf_16_eq (N : Nat) (n16 : Nat) (v1 : Int32) (v3 : Int32) (v4 : Int32) (D : hy_M) : F_X7_chainsOf_16 N (n16 + 1) v1 v3 v4 D = (if hy_in v1 2 = true then (if v4 < (D 9 (v1).toNatClampNeg) then ((F_X7_isCut N v1 v4 D).bind (fun q1 => (if q1.1 = 0 then (F_X7_chainsOf_16 N n16 v1 v3 (v4 + (1 : Int32)) q1.2) else (F_X7_chainsOf_16 N n16 v1 (v3 + (1 : Int32)) (v4 + (1 : Int32)) q1.2)))) else (some (v3, D))) else none) := by
  rfl
set_option maxRecDepth 100000 in
theorem F_X7_chainsOf_eq (N : Nat) (a1 : Int32) (D : hy_M) : F_X7_chainsOf N a1 D = (if hy_in a1 2 = true then (if (D 9 (a1).toNatClampNeg) = 0 then (some ((0 : Int32), D)) else (F_X7_chainsOf_16 N N a1 (1 : Int32) (1 : Int32) D)) else none) := by
  rfl
def F_X7_needOf (N : Nat)  (D : hy_M) : Option (Int32 × hy_M) := g_X7_needOf N [.ref 1, .ref 1000] D
set_option maxRecDepth 100000 in
theorem F_X7_needOf_eq (N : Nat)  (D : hy_M) : F_X7_needOf N D = ((F_X7_chainsOf N (0 : Int32) D).bind (fun q1 => ((F_X7_chainsOf N (1 : Int32) q1.2).bind (fun q2 => (some ((if q1.1 < q2.1 then q2.1 else q1.1), q2.2)))))) := by
  rfl
def F_X1_mayBe (N : Nat) (a0 : Int32) (a1 : Int32) (D : hy_M) : Option (Int32 × hy_M) := g_X1_mayBe N [.int a0, .int a1] D
set_option maxRecDepth 100000 in
theorem F_X1_mayBe_eq (N : Nat) (a0 : Int32) (a1 : Int32) (D : hy_M) : F_X1_mayBe N a0 a1 D = ((F_J6_bitCount_0f7a4 N a1 D).bind (fun q1 => (if a0 = 0 then (some ((1 : Int32), q1.2)) else (if a0 = 1 then (if (1 : Int32) < q1.1 then (some ((0 : Int32), q1.2)) else (some ((1 : Int32), q1.2))) else (if a0 = 2 then (if (2 : Int32) < q1.1 then (some ((0 : Int32), q1.2)) else (some ((1 : Int32), q1.2))) else (if (1 : Int32) < q1.1 then (if q1.1 = (2 : Int32) then (if (a1 &&& (a1 >>> ((1 : Int32) &&& 31))) = 0 then (some ((0 : Int32), q1.2)) else (some ((1 : Int32), q1.2))) else (some ((0 : Int32), q1.2))) else (some ((1 : Int32), q1.2)))))))) := by
  rfl
def F_X1_codeOfRank_4 (N : Nat) (n4 : Nat) (v0 : Int32) (v1 : Int32) (v2 : Int32) (v3 : Int32) (D : hy_M) : Option (Int32 × hy_M) := b_X1_codeOfRank_4 N  n4 [some (.int v0), some (.int v1), some (.int v2), some (.int v3)] [] D
def F_X1_codeOfRank (N : Nat) (a0 : Int32) (a1 : Int32) (D : hy_M) : Option (Int32 × hy_M) := g_X1_codeOfRank N [.int a0, .int a1] D
set_option maxRecDepth 100000 in
theorem F_X1_codeOfRank_4_eq (N : Nat) (n4 : Nat) (v0 : Int32) (v1 : Int32) (v2 : Int32) (v3 : Int32) (D : hy_M) : F_X1_codeOfRank_4 N (n4 + 1) v0 v1 v2 v3 D = (if v3 < (256 : Int32) then ((F_X1_mayBe N v0 v3 D).bind (fun q1 => (if q1.1 = 0 then (F_X1_codeOfRank_4 N n4 v0 v1 v2 (v3 + (1 : Int32)) q1.2) else (if v2 = v1 then (some (v3, q1.2)) else (F_X1_codeOfRank_4 N n4 v0 v1 (v2 + (1 : Int32)) (v3 + (1 : Int32)) q1.2))))) else (some ((255 : Int32), D))) := by
  rfl
set_option maxRecDepth 100000 in
theorem F_X1_codeOfRank_eq (N : Nat) (a0 : Int32) (a1 : Int32) (D : hy_M) : F_X1_codeOfRank N a0 a1 D = (F_X1_codeOfRank_4 N N a0 a1 (0 : Int32) (0 : Int32) D) := by
  rfl
def F_X1_widthOf_2 (N : Nat) (n2 : Nat) (v0 : Int32) (v1 : Int32) (D : hy_M) : Option (Int32 × hy_M) := b_X1_widthOf_2 N  n2 [some (.int v0), some (.int v1)] [] D
def F_X1_widthOf (N : Nat) (a0 : Int32) (D : hy_M) : Option (Int32 × hy_M) := g_X1_widthOf N [.int a0] D
set_option maxRecDepth 100000 in
theorem F_X1_widthOf_2_eq (N : Nat) (n2 : Nat) (v0 : Int32) (v1 : Int32) (D : hy_M) : F_X1_widthOf_2 N (n2 + 1) v0 v1 D = (if v1 < (8 : Int32) then (if (v0 >>> (v1 &&& 31)) = 0 then (some (v1, D)) else (F_X1_widthOf_2 N n2 v0 (v1 + (1 : Int32)) D)) else (some (v1, D))) := by
  rfl
set_option maxRecDepth 100000 in
theorem F_X1_widthOf_eq (N : Nat) (a0 : Int32) (D : hy_M) : F_X1_widthOf N a0 D = (F_X1_widthOf_2 N N a0 (0 : Int32) D) := by
  rfl
def F_X1_fewestFor (N : Nat) (a0 : Int32) (a1 : Int32) (D : hy_M) : Option (Int32 × hy_M) := g_X1_fewestFor N [.int a0, .int a1] D
set_option maxRecDepth 100000 in
theorem F_X1_fewestFor_eq (N : Nat) (a0 : Int32) (a1 : Int32) (D : hy_M) : F_X1_fewestFor N a0 a1 D = (if a1 = 0 then (some ((0 : Int32), D)) else ((F_X1_codeOfRank N a0 (a1 - (1 : Int32)) D).bind (fun q1 => ((F_X1_widthOf N q1.1 q1.2).bind (fun q2 => (some (q2.1, q2.2))))))) := by
  rfl
def F_X8_fewestNow (N : Nat)  (D : hy_M) : Option (Int32 × hy_M) := g_X8_fewestNow N [.ref 0] D
set_option maxRecDepth 100000 in
theorem F_X8_fewestNow_eq (N : Nat)  (D : hy_M) : F_X8_fewestNow N D = ((F_X7_needOf N D).bind (fun q1 => ((F_X1_fewestFor N (D 1 1) q1.1 q1.2).bind (fun q2 => (some (q2.1, q2.2)))))) := by
  rfl
def F_X7_chainOf_4 (N : Nat) (n4 : Nat) (v1 : Int32) (v2 : Int32) (v3 : Int32) (D : hy_M) : Option (Int32 × hy_M) := b_X7_chainOf_4 N  n4 [some (.ref 1), some (.int v1), some (.int v2), some (.int v3)] [] D
def F_X7_chainOf (N : Nat) (a1 : Int32) (D : hy_M) : Option (Int32 × hy_M) := g_X7_chainOf N [.ref 1, .int a1] D
set_option maxRecDepth 100000 in
theorem F_X7_chainOf_4_eq (N : Nat) (n4 : Nat) (v1 : Int32) (v2 : Int32) (v3 : Int32) (D : hy_M) : F_X7_chainOf_4 N (n4 + 1) v1 v2 v3 D = (if hy_in v1 8 = true then (if (D 5 (v1).toNatClampNeg) < v3 then (some (v2, D)) else (if hy_in v1 8 = true then ((F_X7_isCut N (D 4 (v1).toNatClampNeg) v3 D).bind (fun q1 => (if q1.1 = 0 then (F_X7_chainOf_4 N n4 v1 v2 (v3 + (1 : Int32)) q1.2) else (F_X7_chainOf_4 N n4 v1 (v2 + (1 : Int32)) (v3 + (1 : Int32)) q1.2)))) else none)) else none) := by
  rfl
set_option maxRecDepth 100000 in
theorem F_X7_chainOf_eq (N : Nat) (a1 : Int32) (D : hy_M) : F_X7_chainOf N a1 D = (F_X7_chainOf_4 N N a1 (0 : Int32) (1 : Int32) D) := by
  rfl
def F_X8_presortedCode (N : Nat) (a1 : Int32) (D : hy_M) : Option (Int32 × hy_M) := g_X8_presortedCode N [.ref 0, .int a1] D
set_option maxRecDepth 100000 in
theorem F_X8_presortedCode_eq (N : Nat) (a1 : Int32) (D : hy_M) : F_X8_presortedCode N a1 D = ((F_X7_chainOf N a1 D).bind (fun q1 => ((F_X1_codeOfRank N (D 1 1) q1.1 q1.2).bind (fun q2 => (some (q2.1, q2.2)))))) := by
  rfl
def F_X2_laneOf_2 (N : Nat) (n2 : Nat) (v1 : Int32) (v2 : Int32) (D : hy_M) : Option (Int32 × hy_M) := b_X2_laneOf_2 N  n2 [some (.ref 11), some (.int v1), some (.int v2), none] [] D
def F_X2_laneOf_9 (N : Nat) (n2 : Nat) (n9 : Nat) (v1 : Int32) (v2 : Int32) (v3 : Int32) (D : hy_M) : Option (Int32 × hy_M) := b_X2_laneOf_9 N (b_X2_laneOf_2 N  n2) n9 [some (.ref 11), some (.int v1), some (.int v2), some (.int v3)] [] D
def F_X2_laneOf (N : Nat) (a1 : Int32) (D : hy_M) : Option (Int32 × hy_M) := g_X2_laneOf N [.ref 11, .int a1] D
set_option maxRecDepth 100000 in
theorem F_X2_laneOf_2_eq (N : Nat) (n2 : Nat) (v1 : Int32) (v2 : Int32) (D : hy_M) : F_X2_laneOf_2 N (n2 + 1) v1 v2 D = (if v2 < (5 : Int32) then (F_X2_laneOf_9 N n2 N v1 v2 (0 : Int32) D) else (some ((-1 : Int32), D))) := by
  rfl
set_option maxRecDepth 100000 in
theorem F_X2_laneOf_9_eq (N : Nat) (n2 : Nat) (n9 : Nat) (v1 : Int32) (v2 : Int32) (v3 : Int32) (D : hy_M) : F_X2_laneOf_9 N n2 (n9 + 1) v1 v2 v3 D = (if hy_in v2 5 = true then (if v3 < (D 18 (v2).toNatClampNeg) then (if hy_in v2 5 = true then (if hy_in v3 (hy_al (hy_pr 12 (v2).toNatClampNeg)) = true then (if (D (hy_pr 12 (v2).toNatClampNeg) (v3).toNatClampNeg) = v1 then (some (v2, D)) else (F_X2_laneOf_9 N n2 n9 v1 v2 (v3 + (1 : Int32)) D)) else none) else none) else (F_X2_laneOf_2 N n2 v1 (v2 + (1 : Int32)) D)) else none) := by
  rfl
set_option maxRecDepth 100000 in
theorem F_X2_laneOf_eq (N : Nat) (a1 : Int32) (D : hy_M) : F_X2_laneOf N a1 D = (F_X2_laneOf_2 N N a1 (0 : Int32) D) := by
  rfl
def F_X8_whereIs (N : Nat) (a1 : Int32) (D : hy_M) : Option (Int32 × hy_M) := g_X8_whereIs N [.ref 0, .int a1] D
set_option maxRecDepth 100000 in
theorem F_X8_whereIs_eq (N : Nat) (a1 : Int32) (D : hy_M) : F_X8_whereIs N a1 D = ((F_X2_laneOf N a1 D).bind (fun q1 => (if q1.1 = (-1 : Int32) then (some ((-5 : Int32), q1.2)) else (if q1.1 < (3 : Int32) then (some (q1.1, q1.2)) else (if hy_in a1 8 = true then (some (((10 : Int32) + (q1.2 4 (a1).toNatClampNeg)), q1.2)) else none))))) := by
  rfl
def F_X8_wagon (N : Nat) (a1 : Int32) (a2 : Int32) (D : hy_M) : Option (Int32 × hy_M) := g_X8_wagon N [.ref 0, .int a1, .int a2] D
set_option maxRecDepth 100000 in
theorem F_X8_wagon_eq (N : Nat) (a1 : Int32) (a2 : Int32) (D : hy_M) : F_X8_wagon N a1 a2 D = ((F_X7_hasWagon N a1 D).bind (fun q1 => (if q1.1 = 0 then (some ((-1 : Int32), q1.2)) else (if a2 = 0 then (if hy_in a1 8 = true then (some ((q1.2 2 (a1).toNatClampNeg), q1.2)) else none) else (if a2 = 1 then (if hy_in a1 8 = true then (some ((q1.2 3 (a1).toNatClampNeg), q1.2)) else none) else (if a2 = 2 then (if hy_in a1 8 = true then (some ((q1.2 4 (a1).toNatClampNeg), q1.2)) else none) else (if a2 = 3 then (if hy_in a1 8 = true then (some ((q1.2 5 (a1).toNatClampNeg), q1.2)) else none) else (if a2 = 4 then ((F_X7_chainOf N a1 q1.2).bind (fun q6 => (some (q6.1, q6.2)))) else (if a2 = 5 then ((F_X8_whereIs N a1 q1.2).bind (fun q5 => (some (q5.1, q5.2)))) else (if a2 = 6 then (if hy_in a1 8 = true then ((F_J6_bitCount_0f7a4 N (q1.2 3 (a1).toNatClampNeg) q1.2).bind (fun q4 => (some (q4.1, q4.2)))) else none) else (if a2 = 7 then ((F_X8_fewestNow N q1.2).bind (fun q2 => (if (3 : Int32) < q2.1 then (some ((-5 : Int32), q2.2)) else ((F_X8_presortedCode N a1 q2.2).bind (fun q3 => (some (q3.1, q3.2))))))) else (some ((-1 : Int32), q1.2))))))))))))) := by
  rfl
def F_X8_isTrain (N : Nat) (a0 : Int32) (D : hy_M) : Option (Int32 × hy_M) := g_X8_isTrain N [.int a0] D
set_option maxRecDepth 100000 in
theorem F_X8_isTrain_eq (N : Nat) (a0 : Int32) (D : hy_M) : F_X8_isTrain N a0 D = (if a0 < 0 then (some ((0 : Int32), D)) else (if a0 < (2 : Int32) then (some ((1 : Int32), D)) else (some ((0 : Int32), D)))) := by
  rfl
def F_X8_wanted (N : Nat) (a1 : Int32) (a2 : Int32) (D : hy_M) : Option (Int32 × hy_M) := g_X8_wanted N [.ref 0, .int a1, .int a2] D
set_option maxRecDepth 100000 in
theorem F_X8_wanted_eq (N : Nat) (a1 : Int32) (a2 : Int32) (D : hy_M) : F_X8_wanted N a1 a2 D = ((F_X8_isTrain N a1 D).bind (fun q1 => (if q1.1 = 0 then (some ((-1 : Int32), q1.2)) else (if a2 = (-1 : Int32) then (if hy_in a1 2 = true then (some ((q1.2 9 (a1).toNatClampNeg), q1.2)) else none) else (if a2 < 0 then (some ((-1 : Int32), q1.2)) else (if hy_in a1 2 = true then (if a2 < (q1.2 9 (a1).toNatClampNeg) then ((F_X7_wantedAt N a1 a2 q1.2).bind (fun q2 => (some (q2.1, q2.2)))) else (some ((-1 : Int32), q1.2))) else none)))))) := by
  rfl
