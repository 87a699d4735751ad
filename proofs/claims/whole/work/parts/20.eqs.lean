def F_X6_takes (a0 : Int32) (D : hy_M) : Option (Int32 × hy_M) := g_X6_takes [.int a0] D
set_option maxRecDepth 100000 in
theorem F_X6_takes_eq (a0 : Int32) (D : hy_M) : F_X6_takes a0 D = (if a0 < (1 : Int32) then (some ((0 : Int32), D)) else (if (127 : Int32) < a0 then (some ((0 : Int32), D)) else (some ((1 : Int32), D)))) := by
  rfl
def F_X6_append (a1 : Int32) (D : hy_M) : Option hy_M := g_X6_append [.ref 37, .int a1] D
set_option maxRecDepth 100000 in
theorem F_X6_append_eq (a1 : Int32) (D : hy_M) : F_X6_append a1 D = (if (D 37 1) < (40 : Int32) then (if hy_in (D 37 1) 40 = true then (some (hy_w (hy_w D 38 ((D 37 1)).toNatClampNeg a1) 37 1 (((hy_w D 38 ((D 37 1)).toNatClampNeg a1) 37 1) + (1 : Int32)))) else none) else (some D)) := by
  rfl
def F_X8_feed_81 (v1 : Int32) (v4 : Int32) (v5 : Int32) (D : hy_M) : Option (Int32 × hy_M) := b_X8_feed_81  [some (.ref 0), some (.int v1), none, none, some (.int v4), some (.int v5)] [] D
def F_X8_feed_95 (v1 : Int32) (v5 : Int32) (D : hy_M) : Option (Int32 × hy_M) := b_X8_feed_95  [some (.ref 0), some (.int v1), none, none, none, some (.int v5)] [] D
def F_X8_feed (a1 : Int32) (a2 : Int32) (a3 : Int32) (a4 : Int32) (a5 : Int32) (D : hy_M) : Option (Int32 × hy_M) := g_X8_feed [.ref 0, .int a1, .int a2, .int a3, .int a4, .int a5] D
set_option maxRecDepth 100000 in
theorem F_X8_feed_81_eq (v1 : Int32) (v4 : Int32) (v5 : Int32) (D : hy_M) : F_X8_feed_81 v1 v4 v5 D = (if (2 : Int32) < v1 then ((F_X6_append v4 D).bind (fun q1 => (F_X8_feed_95 v1 v5 q1))) else (F_X8_feed_95 v1 v5 D)) := by
  rfl
set_option maxRecDepth 100000 in
theorem F_X8_feed_95_eq (v1 : Int32) (v5 : Int32) (D : hy_M) : F_X8_feed_95 v1 v5 D = (if (3 : Int32) < v1 then ((F_X6_append v5 D).bind (fun q1 => (some ((q1 37 1), q1)))) else (some ((D 37 1), D))) := by
  rfl
set_option maxRecDepth 100000 in
theorem F_X8_feed_eq (a1 : Int32) (a2 : Int32) (a3 : Int32) (a4 : Int32) (a5 : Int32) (D : hy_M) : F_X8_feed a1 a2 a3 a4 a5 D = (if a1 < (1 : Int32) then (some ((-2 : Int32), D)) else (if (4 : Int32) < a1 then (some ((-2 : Int32), D)) else ((F_X6_takes a2 D).bind (fun q1 => (if q1.1 = 0 then (some ((-2 : Int32), q1.2)) else ((F_X6_takes a3 q1.2).bind (fun q2 => (if q2.1 = 0 then (some ((-2 : Int32), q2.2)) else ((F_X6_takes a4 q2.2).bind (fun q3 => (if q3.1 = 0 then (some ((-2 : Int32), q3.2)) else ((F_X6_takes a5 q3.2).bind (fun q4 => (if q4.1 = 0 then (some ((-2 : Int32), q4.2)) else (if (40 : Int32) < ((q4.2 37 1) + a1) then (some ((-4 : Int32), q4.2)) else ((F_X6_append a2 q4.2).bind (fun q5 => (if (1 : Int32) < a1 then ((F_X6_append a3 q5).bind (fun q6 => (F_X8_feed_81 a1 a4 a5 q6))) else (F_X8_feed_81 a1 a4 a5 q5))))))))))))))))))) := by
  rfl
def F_J6_bitCount_0f7a4 (a0 : Int32) (D : hy_M) : Option (Int32 × hy_M) := g_J6_bitCount_0f7a4 [.int a0] D
set_option maxRecDepth 100000 in
theorem F_J6_bitCount_0f7a4_eq (a0 : Int32) (D : hy_M) : F_J6_bitCount_0f7a4 a0 D = (some (((((((((a0 - (((a0).toUInt32 >>> (((1 : Int32)).toUInt32 &&& Int32.toUInt32 31)).toInt32 &&& (1431655765 : Int32))) &&& (858993459 : Int32)) + ((((a0 - (((a0).toUInt32 >>> (((1 : Int32)).toUInt32 &&& Int32.toUInt32 31)).toInt32 &&& (1431655765 : Int32)))).toUInt32 >>> (((2 : Int32)).toUInt32 &&& Int32.toUInt32 31)).toInt32 &&& (858993459 : Int32))) + (((((a0 - (((a0).toUInt32 >>> (((1 : Int32)).toUInt32 &&& Int32.toUInt32 31)).toInt32 &&& (1431655765 : Int32))) &&& (858993459 : Int32)) + ((((a0 - (((a0).toUInt32 >>> (((1 : Int32)).toUInt32 &&& Int32.toUInt32 31)).toInt32 &&& (1431655765 : Int32)))).toUInt32 >>> (((2 : Int32)).toUInt32 &&& Int32.toUInt32 31)).toInt32 &&& (858993459 : Int32)))).toUInt32 >>> (((4 : Int32)).toUInt32 &&& Int32.toUInt32 31)).toInt32) &&& (252645135 : Int32)) + (((((((a0 - (((a0).toUInt32 >>> (((1 : Int32)).toUInt32 &&& Int32.toUInt32 31)).toInt32 &&& (1431655765 : Int32))) &&& (858993459 : Int32)) + ((((a0 - (((a0).toUInt32 >>> (((1 : Int32)).toUInt32 &&& Int32.toUInt32 31)).toInt32 &&& (1431655765 : Int32)))).toUInt32 >>> (((2 : Int32)).toUInt32 &&& Int32.toUInt32 31)).toInt32 &&& (858993459 : Int32))) + (((((a0 - (((a0).toUInt32 >>> (((1 : Int32)).toUInt32 &&& Int32.toUInt32 31)).toInt32 &&& (1431655765 : Int32))) &&& (858993459 : Int32)) + ((((a0 - (((a0).toUInt32 >>> (((1 : Int32)).toUInt32 &&& Int32.toUInt32 31)).toInt32 &&& (1431655765 : Int32)))).toUInt32 >>> (((2 : Int32)).toUInt32 &&& Int32.toUInt32 31)).toInt32 &&& (858993459 : Int32)))).toUInt32 >>> (((4 : Int32)).toUInt32 &&& Int32.toUInt32 31)).toInt32) &&& (252645135 : Int32))).toUInt32 >>> (((8 : Int32)).toUInt32 &&& Int32.toUInt32 31)).toInt32) + ((((((((a0 - (((a0).toUInt32 >>> (((1 : Int32)).toUInt32 &&& Int32.toUInt32 31)).toInt32 &&& (1431655765 : Int32))) &&& (858993459 : Int32)) + ((((a0 - (((a0).toUInt32 >>> (((1 : Int32)).toUInt32 &&& Int32.toUInt32 31)).toInt32 &&& (1431655765 : Int32)))).toUInt32 >>> (((2 : Int32)).toUInt32 &&& Int32.toUInt32 31)).toInt32 &&& (858993459 : Int32))) + (((((a0 - (((a0).toUInt32 >>> (((1 : Int32)).toUInt32 &&& Int32.toUInt32 31)).toInt32 &&& (1431655765 : Int32))) &&& (858993459 : Int32)) + ((((a0 - (((a0).toUInt32 >>> (((1 : Int32)).toUInt32 &&& Int32.toUInt32 31)).toInt32 &&& (1431655765 : Int32)))).toUInt32 >>> (((2 : Int32)).toUInt32 &&& Int32.toUInt32 31)).toInt32 &&& (858993459 : Int32)))).toUInt32 >>> (((4 : Int32)).toUInt32 &&& Int32.toUInt32 31)).toInt32) &&& (252645135 : Int32)) + (((((((a0 - (((a0).toUInt32 >>> (((1 : Int32)).toUInt32 &&& Int32.toUInt32 31)).toInt32 &&& (1431655765 : Int32))) &&& (858993459 : Int32)) + ((((a0 - (((a0).toUInt32 >>> (((1 : Int32)).toUInt32 &&& Int32.toUInt32 31)).toInt32 &&& (1431655765 : Int32)))).toUInt32 >>> (((2 : Int32)).toUInt32 &&& Int32.toUInt32 31)).toInt32 &&& (858993459 : Int32))) + (((((a0 - (((a0).toUInt32 >>> (((1 : Int32)).toUInt32 &&& Int32.toUInt32 31)).toInt32 &&& (1431655765 : Int32))) &&& (858993459 : Int32)) + ((((a0 - (((a0).toUInt32 >>> (((1 : Int32)).toUInt32 &&& Int32.toUInt32 31)).toInt32 &&& (1431655765 : Int32)))).toUInt32 >>> (((2 : Int32)).toUInt32 &&& Int32.toUInt32 31)).toInt32 &&& (858993459 : Int32)))).toUInt32 >>> (((4 : Int32)).toUInt32 &&& Int32.toUInt32 31)).toInt32) &&& (252645135 : Int32))).toUInt32 >>> (((8 : Int32)).toUInt32 &&& Int32.toUInt32 31)).toInt32)).toUInt32 >>> (((16 : Int32)).toUInt32 &&& Int32.toUInt32 31)).toInt32) &&& (63 : Int32)), D)) := by
  rfl
def F_X6_firstLetterFrom_2 (n2 : Nat) (v1 : Int32) (v2 : Int32) (D : hy_M) : Option (Int32 × hy_M) := b_X6_firstLetterFrom_2  n2 [some (.ref 37), some (.int v1), some (.int v2)] [] D
def F_X6_firstLetterFrom (a1 : Int32) (D : hy_M) : Option (Int32 × hy_M) := g_X6_firstLetterFrom [.ref 37, .int a1] D
set_option maxRecDepth 100000 in
theorem F_X6_firstLetterFrom_2_eq (n2 : Nat) (v1 : Int32) (v2 : Int32) (D : hy_M) : F_X6_firstLetterFrom_2 (n2 + 1) v1 v2 D = (if v2 < (D 37 1) then (if hy_in v2 40 = true then (if (D 38 (v2).toNatClampNeg) = (124 : Int32) then (F_X6_firstLetterFrom_2 n2 v1 (v2 + (1 : Int32)) D) else (if hy_in v2 40 = true then (if ((D 38 (v2).toNatClampNeg) - (97 : Int32)) < v1 then (F_X6_firstLetterFrom_2 n2 v1 (v2 + (1 : Int32)) D) else (some (v2, D))) else none)) else none) else (some ((-1 : Int32), D))) := by
  rfl
set_option maxRecDepth 100000 in
theorem F_X6_firstLetterFrom_eq (a1 : Int32) (D : hy_M) : F_X6_firstLetterFrom a1 D = (F_X6_firstLetterFrom_2 300 a1 (0 : Int32) D) := by
  rfl
def F_X6_faultOfYard_6 (n6 : Nat) (v1 : Int32) (v2 : Int32) (v3 : Int32) (D : hy_M) : Option (Int32 × hy_M) := b_X6_faultOfYard_6  n6 [some (.ref 37), some (.int v1), some (.int v2), some (.int v3), none] [] D
def F_X6_faultOfYard  (D : hy_M) : Option (Int32 × hy_M) := g_X6_faultOfYard [.ref 37] D
set_option maxRecDepth 100000 in
theorem F_X6_faultOfYard_6_eq (n6 : Nat) (v1 : Int32) (v2 : Int32) (v3 : Int32) (D : hy_M) : F_X6_faultOfYard_6 (n6 + 1) v1 v2 v3 D = (if v3 < (D 37 1) then (if hy_in v3 40 = true then (if hy_in v3 40 = true then (if (D 38 (v3).toNatClampNeg) = (124 : Int32) then (if v2 = 0 then (F_X6_faultOfYard_6 n6 v1 (1 : Int32) (v3 + (1 : Int32)) D) else (some (v3, D))) else (if ((D 38 (v3).toNatClampNeg) - (97 : Int32)) < 0 then (some (v3, D)) else (if ((D 38 (v3).toNatClampNeg) - (97 : Int32)) < (8 : Int32) then (if ((v1 >>> (((D 38 (v3).toNatClampNeg) - (97 : Int32)) &&& 31)) &&& (1 : Int32)) = (1 : Int32) then (some (v3, D)) else (F_X6_faultOfYard_6 n6 (v1 ||| ((1 : Int32) <<< (((D 38 (v3).toNatClampNeg) - (97 : Int32)) &&& 31))) v2 (v3 + (1 : Int32)) D)) else (some (v3, D))))) else none) else none) else ((F_J6_bitCount_0f7a4 v1 D).bind (fun q1 => ((F_X6_firstLetterFrom q1.1 q1.2).bind (fun q2 => (some (q2.1, q2.2))))))) := by
  rfl
set_option maxRecDepth 100000 in
theorem F_X6_faultOfYard_eq  (D : hy_M) : F_X6_faultOfYard D = (F_X6_faultOfYard_6 300 (0 : Int32) (0 : Int32) (0 : Int32) D) := by
  rfl
def F_X2_empty_2 (n2 : Nat) (v1 : Int32) (D : hy_M) : Option hy_M := b_X2_empty_2  n2 [some (.ref 11), some (.int v1)] [] D
def F_X2_empty  (D : hy_M) : Option hy_M := g_X2_empty [.ref 11] D
set_option maxRecDepth 100000 in
theorem F_X2_empty_2_eq (n2 : Nat) (v1 : Int32) (D : hy_M) : F_X2_empty_2 (n2 + 1) v1 D = (if v1 < (5 : Int32) then (if hy_in v1 5 = true then (F_X2_empty_2 n2 (v1 + (1 : Int32)) (hy_w D 18 (v1).toNatClampNeg (0 : Int32))) else none) else (some D)) := by
  rfl
set_option maxRecDepth 100000 in
theorem F_X2_empty_eq  (D : hy_M) : F_X2_empty D = (F_X2_empty_2 300 (0 : Int32) D) := by
  rfl
def F_X7_becomeCleared  (D : hy_M) : Option hy_M := g_X7_becomeCleared [.ref 1] D
set_option maxRecDepth 100000 in
theorem F_X7_becomeCleared_eq  (D : hy_M) : F_X7_becomeCleared D = ((F_X2_empty D).bind (fun q1 => (some (hy_w (hy_w q1 1 2 (0 : Int32)) 1 3 (0 : Int32))))) := by
  rfl
def F_X7_addWanted (a1 : Int32) (a2 : Int32) (D : hy_M) : Option hy_M := g_X7_addWanted [.ref 1, .int a1, .int a2] D
set_option maxRecDepth 100000 in
theorem F_X7_addWanted_eq (a1 : Int32) (a2 : Int32) (D : hy_M) : F_X7_addWanted a1 a2 D = (if a2 < 0 then (some D) else (if a2 < (8 : Int32) then (if hy_in a1 2 = true then (if (D 9 (a1).toNatClampNeg) < (8 : Int32) then (if hy_in a2 8 = true then (if hy_in a2 8 = true then (if hy_in a2 8 = true then (if hy_in a1 2 = true then (if hy_in a2 8 = true then (if hy_in a1 2 = true then (if hy_in a1 2 = true then (if hy_in ((hy_w (hy_w (hy_w (hy_w D 2 (a2).toNatClampNeg (1 : Int32)) 3 (a2).toNatClampNeg (0 : Int32)) 4 (a2).toNatClampNeg a1) 5 (a2).toNatClampNeg ((hy_w (hy_w (hy_w D 2 (a2).toNatClampNeg (1 : Int32)) 3 (a2).toNatClampNeg (0 : Int32)) 4 (a2).toNatClampNeg a1) 9 (a1).toNatClampNeg)) 9 (a1).toNatClampNeg) (hy_wl (hy_pr 6 (a1).toNatClampNeg)) = true then (if hy_in a1 2 = true then (if hy_in a1 2 = true then (some (hy_w (hy_w (hy_w (hy_w (hy_w (hy_w (hy_w D 2 (a2).toNatClampNeg (1 : Int32)) 3 (a2).toNatClampNeg (0 : Int32)) 4 (a2).toNatClampNeg a1) 5 (a2).toNatClampNeg ((hy_w (hy_w (hy_w D 2 (a2).toNatClampNeg (1 : Int32)) 3 (a2).toNatClampNeg (0 : Int32)) 4 (a2).toNatClampNeg a1) 9 (a1).toNatClampNeg)) (hy_pr 6 (a1).toNatClampNeg) (((hy_w (hy_w (hy_w (hy_w D 2 (a2).toNatClampNeg (1 : Int32)) 3 (a2).toNatClampNeg (0 : Int32)) 4 (a2).toNatClampNeg a1) 5 (a2).toNatClampNeg ((hy_w (hy_w (hy_w D 2 (a2).toNatClampNeg (1 : Int32)) 3 (a2).toNatClampNeg (0 : Int32)) 4 (a2).toNatClampNeg a1) 9 (a1).toNatClampNeg)) 9 (a1).toNatClampNeg)).toNatClampNeg a2) 9 (a1).toNatClampNeg (((hy_w (hy_w (hy_w (hy_w (hy_w D 2 (a2).toNatClampNeg (1 : Int32)) 3 (a2).toNatClampNeg (0 : Int32)) 4 (a2).toNatClampNeg a1) 5 (a2).toNatClampNeg ((hy_w (hy_w (hy_w D 2 (a2).toNatClampNeg (1 : Int32)) 3 (a2).toNatClampNeg (0 : Int32)) 4 (a2).toNatClampNeg a1) 9 (a1).toNatClampNeg)) (hy_pr 6 (a1).toNatClampNeg) (((hy_w (hy_w (hy_w (hy_w D 2 (a2).toNatClampNeg (1 : Int32)) 3 (a2).toNatClampNeg (0 : Int32)) 4 (a2).toNatClampNeg a1) 5 (a2).toNatClampNeg ((hy_w (hy_w (hy_w D 2 (a2).toNatClampNeg (1 : Int32)) 3 (a2).toNatClampNeg (0 : Int32)) 4 (a2).toNatClampNeg a1) 9 (a1).toNatClampNeg)) 9 (a1).toNatClampNeg)).toNatClampNeg a2) 9 (a1).toNatClampNeg) + (1 : Int32))) 1 0 (((hy_w (hy_w (hy_w (hy_w (hy_w (hy_w D 2 (a2).toNatClampNeg (1 : Int32)) 3 (a2).toNatClampNeg (0 : Int32)) 4 (a2).toNatClampNeg a1) 5 (a2).toNatClampNeg ((hy_w (hy_w (hy_w D 2 (a2).toNatClampNeg (1 : Int32)) 3 (a2).toNatClampNeg (0 : Int32)) 4 (a2).toNatClampNeg a1) 9 (a1).toNatClampNeg)) (hy_pr 6 (a1).toNatClampNeg) (((hy_w (hy_w (hy_w (hy_w D 2 (a2).toNatClampNeg (1 : Int32)) 3 (a2).toNatClampNeg (0 : Int32)) 4 (a2).toNatClampNeg a1) 5 (a2).toNatClampNeg ((hy_w (hy_w (hy_w D 2 (a2).toNatClampNeg (1 : Int32)) 3 (a2).toNatClampNeg (0 : Int32)) 4 (a2).toNatClampNeg a1) 9 (a1).toNatClampNeg)) 9 (a1).toNatClampNeg)).toNatClampNeg a2) 9 (a1).toNatClampNeg (((hy_w (hy_w (hy_w (hy_w (hy_w D 2 (a2).toNatClampNeg (1 : Int32)) 3 (a2).toNatClampNeg (0 : Int32)) 4 (a2).toNatClampNeg a1) 5 (a2).toNatClampNeg ((hy_w (hy_w (hy_w D 2 (a2).toNatClampNeg (1 : Int32)) 3 (a2).toNatClampNeg (0 : Int32)) 4 (a2).toNatClampNeg a1) 9 (a1).toNatClampNeg)) (hy_pr 6 (a1).toNatClampNeg) (((hy_w (hy_w (hy_w (hy_w D 2 (a2).toNatClampNeg (1 : Int32)) 3 (a2).toNatClampNeg (0 : Int32)) 4 (a2).toNatClampNeg a1) 5 (a2).toNatClampNeg ((hy_w (hy_w (hy_w D 2 (a2).toNatClampNeg (1 : Int32)) 3 (a2).toNatClampNeg (0 : Int32)) 4 (a2).toNatClampNeg a1) 9 (a1).toNatClampNeg)) 9 (a1).toNatClampNeg)).toNatClampNeg a2) 9 (a1).toNatClampNeg) + (1 : Int32))) 1 0) + (1 : Int32)))) else none) else none) else none) else none) else none) else none) else none) else none) else none) else none) else (some D)) else none) else (some D))) := by
  rfl
def F_X7_becomeNew_23 (n23 : Nat) (v2 : Int32) (v3 : Int32) (D : hy_M) : Option hy_M := b_X7_becomeNew_23  n23 [some (.ref 1), some (.ref 37), some (.int v2), some (.int v3)] [] D
def F_X7_becomeNew  (D : hy_M) : Option hy_M := g_X7_becomeNew [.ref 1, .ref 37] D
set_option maxRecDepth 100000 in
theorem F_X7_becomeNew_23_eq (n23 : Nat) (v2 : Int32) (v3 : Int32) (D : hy_M) : F_X7_becomeNew_23 (n23 + 1) v2 v3 D = (if v3 < (D 37 1) then (if hy_in v3 40 = true then (if (D 38 (v3).toNatClampNeg) = (124 : Int32) then (F_X7_becomeNew_23 n23 (1 : Int32) (v3 + (1 : Int32)) D) else (if hy_in v3 40 = true then ((F_X7_addWanted v2 ((D 38 (v3).toNatClampNeg) - (97 : Int32)) D).bind (fun q1 => (F_X7_becomeNew_23 n23 v2 (v3 + (1 : Int32)) q1))) else none)) else none) else ((F_X7_becomeCleared D).bind (fun q1 => (some q1)))) := by
  rfl
set_option maxRecDepth 100000 in
theorem F_X7_becomeNew_eq  (D : hy_M) : F_X7_becomeNew D = (F_X7_becomeNew_23 300 (0 : Int32) (0 : Int32) (hy_w (hy_w (hy_w D 1 0 (0 : Int32)) 9 0 (0 : Int32)) 9 1 (0 : Int32))) := by
  rfl
def F_X8_yard_24 (v1 : Int32) (D : hy_M) : Option (Int32 × hy_M) := b_X8_yard_24  [some (.ref 0), some (.int v1)] [] D
def F_X8_yard  (D : hy_M) : Option (Int32 × hy_M) := g_X8_yard [.ref 0] D
set_option maxRecDepth 100000 in
theorem F_X8_yard_24_eq (v1 : Int32) (D : hy_M) : F_X8_yard_24 v1 D = (if v1 = (-1 : Int32) then (some (((hy_w D 37 1 (0 : Int32)) 1 0), (hy_w D 37 1 (0 : Int32)))) else (some (((-100 : Int32) - v1), (hy_w D 37 1 (0 : Int32))))) := by
  rfl
set_option maxRecDepth 100000 in
theorem F_X8_yard_eq  (D : hy_M) : F_X8_yard D = ((F_X6_faultOfYard D).bind (fun q1 => (if q1.1 = (-1 : Int32) then ((F_X7_becomeNew q1.2).bind (fun q2 => (F_X8_yard_24 q1.1 q2))) else (F_X8_yard_24 q1.1 q1.2)))) := by
  rfl
def F_X6_figureAt (a1 : Int32) (D : hy_M) : Option (Int32 × hy_M) := g_X6_figureAt [.ref 37, .int a1] D
set_option maxRecDepth 100000 in
theorem F_X6_figureAt_eq (a1 : Int32) (D : hy_M) : F_X6_figureAt a1 D = (if hy_in a1 40 = true then (some (((D 38 (a1).toNatClampNeg) - (48 : Int32)), D)) else none) := by
  rfl
def F_X6_faultOfFigures_3 (n3 : Nat) (v1 : Int32) (v2 : Int32) (v3 : Int32) (v4 : Int32) (D : hy_M) : Option (Int32 × hy_M) := b_X6_faultOfFigures_3  n3 [some (.ref 37), some (.int v1), some (.int v2), some (.int v3), some (.int v4)] [] D
def F_X6_faultOfFigures (a1 : Int32) (a2 : Int32) (a3 : Int32) (D : hy_M) : Option (Int32 × hy_M) := g_X6_faultOfFigures [.ref 37, .int a1, .int a2, .int a3] D
set_option maxRecDepth 100000 in
theorem F_X6_faultOfFigures_3_eq (n3 : Nat) (v1 : Int32) (v2 : Int32) (v3 : Int32) (v4 : Int32) (D : hy_M) : F_X6_faultOfFigures_3 (n3 + 1) v1 v2 v3 v4 D = (if v4 < (D 37 1) then (if v4 < v3 then ((F_X6_figureAt v4 D).bind (fun q1 => (if q1.1 < 0 then (some (v4, q1.2)) else ((F_X6_figureAt v4 q1.2).bind (fun q2 => (if q2.1 < v1 then (F_X6_faultOfFigures_3 n3 v1 v2 v3 (v4 + (1 : Int32)) q2.2) else (some (v4, q2.2)))))))) else (some (v4, D))) else (if (D 37 1) < v2 then (some ((D 37 1), D)) else (some ((-1 : Int32), D)))) := by
  rfl
set_option maxRecDepth 100000 in
theorem F_X6_faultOfFigures_eq (a1 : Int32) (a2 : Int32) (a3 : Int32) (D : hy_M) : F_X6_faultOfFigures a1 a2 a3 D = (F_X6_faultOfFigures_3 300 a1 a2 a3 (0 : Int32) D) := by
  rfl
def F_X8_codes_44 (n44 : Nat) (v1 : Int32) (v2 : Int32) (D : hy_M) : Option (Int32 × hy_M) := b_X8_codes_44  n44 [some (.ref 0), some (.int v1), some (.int v2)] [] D
def F_X8_codes_78 (v1 : Int32) (D : hy_M) : Option (Int32 × hy_M) := b_X8_codes_78  [some (.ref 0), some (.int v1), none] [] D
def F_X8_codes  (D : hy_M) : Option (Int32 × hy_M) := g_X8_codes [.ref 0] D
set_option maxRecDepth 100000 in
theorem F_X8_codes_44_eq (n44 : Nat) (v1 : Int32) (v2 : Int32) (D : hy_M) : F_X8_codes_44 (n44 + 1) v1 v2 D = (if v2 < (D 1 0) then ((F_X6_figureAt v2 D).bind (fun q1 => (if hy_in v2 8 = true then (F_X8_codes_44 n44 v1 (v2 + (1 : Int32)) (hy_w q1.2 3 (v2).toNatClampNeg q1.1)) else none))) else (F_X8_codes_78 v1 D)) := by
  rfl
set_option maxRecDepth 100000 in
theorem F_X8_codes_78_eq (v1 : Int32) (D : hy_M) : F_X8_codes_78 v1 D = (if v1 = (-1 : Int32) then (some (((hy_w D 37 1 (0 : Int32)) 1 0), (hy_w D 37 1 (0 : Int32)))) else (some (((-100 : Int32) - v1), (hy_w D 37 1 (0 : Int32))))) := by
  rfl
set_option maxRecDepth 100000 in
theorem F_X8_codes_eq  (D : hy_M) : F_X8_codes D = (if (D 1 2) = 0 then ((F_X6_faultOfFigures (8 : Int32) (D 1 0) (D 1 0) D).bind (fun q1 => (if q1.1 = (-1 : Int32) then (F_X8_codes_44 300 q1.1 (0 : Int32) q1.2) else (F_X8_codes_78 q1.1 q1.2)))) else (some ((-3 : Int32), D))) := by
  rfl
def F_X7_hasWagon (a1 : Int32) (D : hy_M) : Option (Int32 × hy_M) := g_X7_hasWagon [.ref 1, .int a1] D
set_option maxRecDepth 100000 in
theorem F_X7_hasWagon_eq (a1 : Int32) (D : hy_M) : F_X7_hasWagon a1 D = (if a1 < 0 then (some ((0 : Int32), D)) else (if a1 < (D 1 0) then (some ((1 : Int32), D)) else (some ((0 : Int32), D)))) := by
  rfl
def F_X8_set_59 (v1 : Int32) (v2 : Int32) (v3 : Int32) (vs0 : Int32) (D : hy_M) : Option (Int32 × hy_M) := b_X8_set_59  [some (.ref 0), some (.int v1), some (.int v2), some (.int v3), none, none, none] [.int vs0] D
def F_X8_set_103 (v1 : Int32) (v3 : Int32) (rs0 : Nat) (D : hy_M) : Option (Int32 × hy_M) := b_X8_set_103  [none, some (.int v1), none, some (.int v3), none, none, none] [.ref rs0] D
def F_X8_set (a1 : Int32) (a2 : Int32) (a3 : Int32) (D : hy_M) : Option (Int32 × hy_M) := g_X8_set [.ref 0, .int a1, .int a2, .int a3] D
set_option maxRecDepth 100000 in
theorem F_X8_set_59_eq (v1 : Int32) (v2 : Int32) (v3 : Int32) (vs0 : Int32) (D : hy_M) : F_X8_set_59 v1 v2 v3 vs0 D = (if vs0 = 0 then (some ((-2 : Int32), D)) else (if (D 1 2) = 0 then (if v2 = 0 then (F_X8_set_103 v1 v3 2 D) else (F_X8_set_103 v1 v3 3 D)) else (some ((-3 : Int32), D)))) := by
  rfl
set_option maxRecDepth 100000 in
theorem F_X8_set_103_eq (v1 : Int32) (v3 : Int32) (rs0 : Nat) (D : hy_M) : F_X8_set_103 v1 v3 rs0 D = (if hy_in v1 (hy_al rs0) = true then (if hy_in v1 (hy_wl rs0) = true then (some ((D rs0 (v1).toNatClampNeg), (hy_w D rs0 (v1).toNatClampNeg v3))) else none) else none) := by
  rfl
set_option maxRecDepth 100000 in
theorem F_X8_set_eq (a1 : Int32) (a2 : Int32) (a3 : Int32) (D : hy_M) : F_X8_set a1 a2 a3 D = ((F_X7_hasWagon a1 D).bind (fun q1 => (if q1.1 = 0 then (some ((-1 : Int32), q1.2)) else (if a2 < 0 then (some ((-1 : Int32), q1.2)) else (if (1 : Int32) < a2 then (some ((-1 : Int32), q1.2)) else (if a2 = 0 then (if a3 < (1 : Int32) then (F_X8_set_59 a1 a2 a3 (0 : Int32) q1.2) else (if (3 : Int32) < a3 then (F_X8_set_59 a1 a2 a3 (0 : Int32) q1.2) else (F_X8_set_59 a1 a2 a3 (1 : Int32) q1.2))) else (if a3 < 0 then (F_X8_set_59 a1 a2 a3 (0 : Int32) q1.2) else (if a3 < (8 : Int32) then (F_X8_set_59 a1 a2 a3 (1 : Int32) q1.2) else (F_X8_set_59 a1 a2 a3 (0 : Int32) q1.2))))))))) := by
  rfl
def F_X8_isTrack (a0 : Int32) (D : hy_M) : Option (Int32 × hy_M) := g_X8_isTrack [.int a0] D
set_option maxRecDepth 100000 in
theorem F_X8_isTrack_eq (a0 : Int32) (D : hy_M) : F_X8_isTrack a0 D = (if a0 < 0 then (some ((0 : Int32), D)) else (if a0 < (3 : Int32) then (some ((1 : Int32), D)) else (some ((0 : Int32), D)))) := by
  rfl
def F_X8_room (a1 : Int32) (a2 : Int32) (D : hy_M) : Option (Int32 × hy_M) := g_X8_room [.ref 0, .int a1, .int a2] D
set_option maxRecDepth 100000 in
theorem F_X8_room_eq (a1 : Int32) (a2 : Int32) (D : hy_M) : F_X8_room a1 a2 D = ((F_X8_isTrack a1 D).bind (fun q1 => (if q1.1 = 0 then (some ((-1 : Int32), q1.2)) else (if a2 < 0 then (some ((-2 : Int32), q1.2)) else (if (24 : Int32) < a2 then (some ((-2 : Int32), q1.2)) else (if (q1.2 1 2) = 0 then (if hy_in a1 3 = true then (if hy_in a1 3 = true then (some ((q1.2 10 (a1).toNatClampNeg), (hy_w q1.2 10 (a1).toNatClampNeg a2))) else none) else none) else (some ((-3 : Int32), q1.2)))))))) := by
  rfl
def F_X8_brand (a1 : Int32) (D : hy_M) : Option (Int32 × hy_M) := g_X8_brand [.ref 0, .int a1] D
set_option maxRecDepth 100000 in
theorem F_X8_brand_eq (a1 : Int32) (D : hy_M) : F_X8_brand a1 D = (if a1 < 0 then (some ((-1 : Int32), D)) else (if a1 < (4 : Int32) then (some ((D 1 1), (hy_w D 1 1 a1))) else (some ((-1 : Int32), D)))) := by
  rfl
def F_X7_wantedAt (a1 : Int32) (a2 : Int32) (D : hy_M) : Option (Int32 × hy_M) := g_X7_wantedAt [.ref 1, .int a1, .int a2] D
set_option maxRecDepth 100000 in
theorem F_X7_wantedAt_eq (a1 : Int32) (a2 : Int32) (D : hy_M) : F_X7_wantedAt a1 a2 D = (if hy_in a1 2 = true then (if hy_in a2 (hy_al (hy_pr 6 (a1).toNatClampNeg)) = true then (some ((D (hy_pr 6 (a1).toNatClampNeg) (a2).toNatClampNeg), D)) else none) else none) := by
  rfl
def F_X7_isCut (a1 : Int32) (a2 : Int32) (D : hy_M) : Option (Int32 × hy_M) := g_X7_isCut [.ref 1, .int a1, .int a2, .ref 1000] D
set_option maxRecDepth 100000 in
theorem F_X7_isCut_eq (a1 : Int32) (a2 : Int32) (D : hy_M) : F_X7_isCut a1 a2 D = ((F_X7_wantedAt a1 a2 D).bind (fun q1 => (if hy_in q1.1 8 = true then ((F_X7_wantedAt a1 (a2 - (1 : Int32)) q1.2).bind (fun q2 => (if hy_in q2.1 8 = true then (if (q1.2 1000 (q1.1).toNatClampNeg) < (q2.2 1000 (q2.1).toNatClampNeg) then (some ((1 : Int32), q2.2)) else (some ((0 : Int32), q2.2))) else none))) else none))) := by
  rfl
def F_X7_chainsOf_16 (n16 : Nat) (v1 : Int32) (v3 : Int32) (v4 : Int32) (D : hy_M) : Option (Int32 × hy_M) := b_X7_chainsOf_16  n16 [some (.ref 1), some (.int v1), some (.ref 1000), some (.int v3), some (.int v4)] [] D
def F_X7_chainsOf (a1 : Int32) (D : hy_M) : Option (Int32 × hy_M) := g_X7_chainsOf [.ref 1, .int a1, .ref 1000] D
set_option maxRecDepth 100000 in
theorem F_X7_chainsOf_16_eq (n16 : Nat) (v1 : Int32) (v3 : Int32) (v4 : Int32) (D : hy_M) : F_X7_chainsOf_16 (n16 + 1) v1 v3 v4 D = (if hy_in v1 2 = true then (if v4 < (D 9 (v1).toNatClampNeg) then ((F_X7_isCut v1 v4 D).bind (fun q1 => (if q1.1 = 0 then (F_X7_chainsOf_16 n16 v1 v3 (v4 + (1 : Int32)) q1.2) else (F_X7_chainsOf_16 n16 v1 (v3 + (1 : Int32)) (v4 + (1 : Int32)) q1.2)))) else (some (v3, D))) else none) := by
  rfl
set_option maxRecDepth 100000 in
theorem F_X7_chainsOf_eq (a1 : Int32) (D : hy_M) : F_X7_chainsOf a1 D = (if hy_in a1 2 = true then (if (D 9 (a1).toNatClampNeg) = 0 then (some ((0 : Int32), D)) else (F_X7_chainsOf_16 300 a1 (1 : Int32) (1 : Int32) D)) else none) := by
  rfl
def F_X7_needOf  (D : hy_M) : Option (Int32 × hy_M) := g_X7_needOf [.ref 1, .ref 1000] D
set_option maxRecDepth 100000 in
theorem F_X7_needOf_eq  (D : hy_M) : F_X7_needOf D = ((F_X7_chainsOf (0 : Int32) D).bind (fun q1 => ((F_X7_chainsOf (1 : Int32) q1.2).bind (fun q2 => (some ((if q1.1 < q2.1 then q2.1 else q1.1), q2.2)))))) := by
  rfl
def F_X1_mayBe (a0 : Int32) (a1 : Int32) (D : hy_M) : Option (Int32 × hy_M) := g_X1_mayBe [.int a0, .int a1] D
set_option maxRecDepth 100000 in
theorem F_X1_mayBe_eq (a0 : Int32) (a1 : Int32) (D : hy_M) : F_X1_mayBe a0 a1 D = ((F_J6_bitCount_0f7a4 a1 D).bind (fun q1 => (if a0 = 0 then (some ((1 : Int32), q1.2)) else (if a0 = 1 then (if (1 : Int32) < q1.1 then (some ((0 : Int32), q1.2)) else (some ((1 : Int32), q1.2))) else (if a0 = 2 then (if (2 : Int32) < q1.1 then (some ((0 : Int32), q1.2)) else (some ((1 : Int32), q1.2))) else (if (1 : Int32) < q1.1 then (if q1.1 = (2 : Int32) then (if (a1 &&& (a1 >>> ((1 : Int32) &&& 31))) = 0 then (some ((0 : Int32), q1.2)) else (some ((1 : Int32), q1.2))) else (some ((0 : Int32), q1.2))) else (some ((1 : Int32), q1.2)))))))) := by
  rfl
def F_X1_codeOfRank_4 (n4 : Nat) (v0 : Int32) (v1 : Int32) (v2 : Int32) (v3 : Int32) (D : hy_M) : Option (Int32 × hy_M) := b_X1_codeOfRank_4  n4 [some (.int v0), some (.int v1), some (.int v2), some (.int v3)] [] D
def F_X1_codeOfRank (a0 : Int32) (a1 : Int32) (D : hy_M) : Option (Int32 × hy_M) := g_X1_codeOfRank [.int a0, .int a1] D
set_option maxRecDepth 100000 in
theorem F_X1_codeOfRank_4_eq (n4 : Nat) (v0 : Int32) (v1 : Int32) (v2 : Int32) (v3 : Int32) (D : hy_M) : F_X1_codeOfRank_4 (n4 + 1) v0 v1 v2 v3 D = (if v3 < (256 : Int32) then ((F_X1_mayBe v0 v3 D).bind (fun q1 => (if q1.1 = 0 then (F_X1_codeOfRank_4 n4 v0 v1 v2 (v3 + (1 : Int32)) q1.2) else (if v2 = v1 then (some (v3, q1.2)) else (F_X1_codeOfRank_4 n4 v0 v1 (v2 + (1 : Int32)) (v3 + (1 : Int32)) q1.2))))) else (some ((255 : Int32), D))) := by
  rfl
set_option maxRecDepth 100000 in
theorem F_X1_codeOfRank_eq (a0 : Int32) (a1 : Int32) (D : hy_M) : F_X1_codeOfRank a0 a1 D = (F_X1_codeOfRank_4 300 a0 a1 (0 : Int32) (0 : Int32) D) := by
  rfl
def F_X1_widthOf_2 (n2 : Nat) (v0 : Int32) (v1 : Int32) (D : hy_M) : Option (Int32 × hy_M) := b_X1_widthOf_2  n2 [some (.int v0), some (.int v1)] [] D
def F_X1_widthOf (a0 : Int32) (D : hy_M) : Option (Int32 × hy_M) := g_X1_widthOf [.int a0] D
set_option maxRecDepth 100000 in
theorem F_X1_widthOf_2_eq (n2 : Nat) (v0 : Int32) (v1 : Int32) (D : hy_M) : F_X1_widthOf_2 (n2 + 1) v0 v1 D = (if v1 < (8 : Int32) then (if (v0 >>> (v1 &&& 31)) = 0 then (some (v1, D)) else (F_X1_widthOf_2 n2 v0 (v1 + (1 : Int32)) D)) else (some (v1, D))) := by
  rfl
set_option maxRecDepth 100000 in
theorem F_X1_widthOf_eq (a0 : Int32) (D : hy_M) : F_X1_widthOf a0 D = (F_X1_widthOf_2 300 a0 (0 : Int32) D) := by
  rfl
def F_X1_fewestFor (a0 : Int32) (a1 : Int32) (D : hy_M) : Option (Int32 × hy_M) := g_X1_fewestFor [.int a0, .int a1] D
set_option maxRecDepth 100000 in
theorem F_X1_fewestFor_eq (a0 : Int32) (a1 : Int32) (D : hy_M) : F_X1_fewestFor a0 a1 D = (if a1 = 0 then (some ((0 : Int32), D)) else ((F_X1_codeOfRank a0 (a1 - (1 : Int32)) D).bind (fun q1 => ((F_X1_widthOf q1.1 q1.2).bind (fun q2 => (some (q2.1, q2.2))))))) := by
  rfl
def F_X8_fewestNow  (D : hy_M) : Option (Int32 × hy_M) := g_X8_fewestNow [.ref 0] D
set_option maxRecDepth 100000 in
theorem F_X8_fewestNow_eq  (D : hy_M) : F_X8_fewestNow D = ((F_X7_needOf D).bind (fun q1 => ((F_X1_fewestFor (D 1 1) q1.1 q1.2).bind (fun q2 => (some (q2.1, q2.2)))))) := by
  rfl
def F_X7_chainOf_4 (n4 : Nat) (v1 : Int32) (v2 : Int32) (v3 : Int32) (D : hy_M) : Option (Int32 × hy_M) := b_X7_chainOf_4  n4 [some (.ref 1), some (.int v1), some (.int v2), some (.int v3)] [] D
def F_X7_chainOf (a1 : Int32) (D : hy_M) : Option (Int32 × hy_M) := g_X7_chainOf [.ref 1, .int a1] D
set_option maxRecDepth 100000 in
theorem F_X7_chainOf_4_eq (n4 : Nat) (v1 : Int32) (v2 : Int32) (v3 : Int32) (D : hy_M) : F_X7_chainOf_4 (n4 + 1) v1 v2 v3 D = (if hy_in v1 8 = true then (if (D 5 (v1).toNatClampNeg) < v3 then (some (v2, D)) else (if hy_in v1 8 = true then ((F_X7_isCut (D 4 (v1).toNatClampNeg) v3 D).bind (fun q1 => (if q1.1 = 0 then (F_X7_chainOf_4 n4 v1 v2 (v3 + (1 : Int32)) q1.2) else (F_X7_chainOf_4 n4 v1 (v2 + (1 : Int32)) (v3 + (1 : Int32)) q1.2)))) else none)) else none) := by
  rfl
set_option maxRecDepth 100000 in
theorem F_X7_chainOf_eq (a1 : Int32) (D : hy_M) : F_X7_chainOf a1 D = (F_X7_chainOf_4 300 a1 (0 : Int32) (1 : Int32) D) := by
  rfl
def F_X8_presortedCode (a1 : Int32) (D : hy_M) : Option (Int32 × hy_M) := g_X8_presortedCode [.ref 0, .int a1] D
set_option maxRecDepth 100000 in
theorem F_X8_presortedCode_eq (a1 : Int32) (D : hy_M) : F_X8_presortedCode a1 D = ((F_X7_chainOf a1 D).bind (fun q1 => ((F_X1_codeOfRank (D 1 1) q1.1 q1.2).bind (fun q2 => (some (q2.1, q2.2)))))) := by
  rfl
def F_X2_laneOf_2 (n2 : Nat) (v1 : Int32) (v2 : Int32) (D : hy_M) : Option (Int32 × hy_M) := b_X2_laneOf_2  n2 [some (.ref 11), some (.int v1), some (.int v2), none] [] D
def F_X2_laneOf_9 (n2 : Nat) (n9 : Nat) (v1 : Int32) (v2 : Int32) (v3 : Int32) (D : hy_M) : Option (Int32 × hy_M) := b_X2_laneOf_9 (b_X2_laneOf_2  n2) n9 [some (.ref 11), some (.int v1), some (.int v2), some (.int v3)] [] D
def F_X2_laneOf (a1 : Int32) (D : hy_M) : Option (Int32 × hy_M) := g_X2_laneOf [.ref 11, .int a1] D
set_option maxRecDepth 100000 in
theorem F_X2_laneOf_2_eq (n2 : Nat) (v1 : Int32) (v2 : Int32) (D : hy_M) : F_X2_laneOf_2 (n2 + 1) v1 v2 D = (if v2 < (5 : Int32) then (F_X2_laneOf_9 n2 300 v1 v2 (0 : Int32) D) else (some ((-1 : Int32), D))) := by
  rfl
set_option maxRecDepth 100000 in
theorem F_X2_laneOf_9_eq (n2 : Nat) (n9 : Nat) (v1 : Int32) (v2 : Int32) (v3 : Int32) (D : hy_M) : F_X2_laneOf_9 n2 (n9 + 1) v1 v2 v3 D = (if hy_in v2 5 = true then (if v3 < (D 18 (v2).toNatClampNeg) then (if hy_in v2 5 = true then (if hy_in v3 (hy_al (hy_pr 12 (v2).toNatClampNeg)) = true then (if (D (hy_pr 12 (v2).toNatClampNeg) (v3).toNatClampNeg) = v1 then (some (v2, D)) else (F_X2_laneOf_9 n2 n9 v1 v2 (v3 + (1 : Int32)) D)) else none) else none) else (F_X2_laneOf_2 n2 v1 (v2 + (1 : Int32)) D)) else none) := by
  rfl
set_option maxRecDepth 100000 in
theorem F_X2_laneOf_eq (a1 : Int32) (D : hy_M) : F_X2_laneOf a1 D = (F_X2_laneOf_2 300 a1 (0 : Int32) D) := by
  rfl
def F_X8_whereIs (a1 : Int32) (D : hy_M) : Option (Int32 × hy_M) := g_X8_whereIs [.ref 0, .int a1] D
set_option maxRecDepth 100000 in
theorem F_X8_whereIs_eq (a1 : Int32) (D : hy_M) : F_X8_whereIs a1 D = ((F_X2_laneOf a1 D).bind (fun q1 => (if q1.1 = (-1 : Int32) then (some ((-5 : Int32), q1.2)) else (if q1.1 < (3 : Int32) then (some (q1.1, q1.2)) else (if hy_in a1 8 = true then (some (((10 : Int32) + (q1.2 4 (a1).toNatClampNeg)), q1.2)) else none))))) := by
  rfl
def F_X8_wagon (a1 : Int32) (a2 : Int32) (D : hy_M) : Option (Int32 × hy_M) := g_X8_wagon [.ref 0, .int a1, .int a2] D
set_option maxRecDepth 100000 in
theorem F_X8_wagon_eq (a1 : Int32) (a2 : Int32) (D : hy_M) : F_X8_wagon a1 a2 D = ((F_X7_hasWagon a1 D).bind (fun q1 => (if q1.1 = 0 then (some ((-1 : Int32), q1.2)) else (if a2 = 0 then (if hy_in a1 8 = true then (some ((q1.2 2 (a1).toNatClampNeg), q1.2)) else none) else (if a2 = 1 then (if hy_in a1 8 = true then (some ((q1.2 3 (a1).toNatClampNeg), q1.2)) else none) else (if a2 = 2 then (if hy_in a1 8 = true then (some ((q1.2 4 (a1).toNatClampNeg), q1.2)) else none) else (if a2 = 3 then (if hy_in a1 8 = true then (some ((q1.2 5 (a1).toNatClampNeg), q1.2)) else none) else (if a2 = 4 then ((F_X7_chainOf a1 q1.2).bind (fun q6 => (some (q6.1, q6.2)))) else (if a2 = 5 then ((F_X8_whereIs a1 q1.2).bind (fun q5 => (some (q5.1, q5.2)))) else (if a2 = 6 then (if hy_in a1 8 = true then ((F_J6_bitCount_0f7a4 (q1.2 3 (a1).toNatClampNeg) q1.2).bind (fun q4 => (some (q4.1, q4.2)))) else none) else (if a2 = 7 then ((F_X8_fewestNow q1.2).bind (fun q2 => (if (3 : Int32) < q2.1 then (some ((-5 : Int32), q2.2)) else ((F_X8_presortedCode a1 q2.2).bind (fun q3 => (some (q3.1, q3.2))))))) else (some ((-1 : Int32), q1.2))))))))))))) := by
  rfl
def F_X8_isTrain (a0 : Int32) (D : hy_M) : Option (Int32 × hy_M) := g_X8_isTrain [.int a0] D
set_option maxRecDepth 100000 in
theorem F_X8_isTrain_eq (a0 : Int32) (D : hy_M) : F_X8_isTrain a0 D = (if a0 < 0 then (some ((0 : Int32), D)) else (if a0 < (2 : Int32) then (some ((1 : Int32), D)) else (some ((0 : Int32), D)))) := by
  rfl
def F_X8_wanted (a1 : Int32) (a2 : Int32) (D : hy_M) : Option (Int32 × hy_M) := g_X8_wanted [.ref 0, .int a1, .int a2] D
set_option maxRecDepth 100000 in
theorem F_X8_wanted_eq (a1 : Int32) (a2 : Int32) (D : hy_M) : F_X8_wanted a1 a2 D = ((F_X8_isTrain a1 D).bind (fun q1 => (if q1.1 = 0 then (some ((-1 : Int32), q1.2)) else (if a2 = (-1 : Int32) then (if hy_in a1 2 = true then (some ((q1.2 9 (a1).toNatClampNeg), q1.2)) else none) else (if a2 < 0 then (some ((-1 : Int32), q1.2)) else (if hy_in a1 2 = true then (if a2 < (q1.2 9 (a1).toNatClampNeg) then ((F_X7_wantedAt a1 a2 q1.2).bind (fun q2 => (some (q2.1, q2.2)))) else (some ((-1 : Int32), q1.2))) else none)))))) := by
  rfl
