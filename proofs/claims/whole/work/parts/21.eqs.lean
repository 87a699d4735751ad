def F_X2_wagonAt (N : Nat) (a1 : Int32) (a2 : Int32) (D : hy_M) : Option (Int32 × hy_M) := g_X2_wagonAt N [.ref 11, .int a1, .int a2] D
set_option maxRecDepth 100000 in
theorem F_X2_wagonAt_eq (N : Nat) (a1 : Int32) (a2 : Int32) (D : hy_M) : F_X2_wagonAt N a1 a2 D = (if a2 < 0 then (some ((-1 : Int32), D)) else (if hy_in a1 5 = true then (if a2 < (D 18 (a1).toNatClampNeg) then (if hy_in a1 5 = true then (if hy_in a2 (hy_al (hy_pr 12 (a1).toNatClampNeg)) = true then (some ((D (hy_pr 12 (a1).toNatClampNeg) (a2).toNatClampNeg), D)) else none) else none) else (some ((-1 : Int32), D))) else none)) := by
  rfl
def F_X7_loadOf_5 (N : Nat) (n5 : Nat) (v2 : Int32) (v3 : Int32) (v4 : Int32) (D : hy_M) : Option (Int32 × hy_M) := b_X7_loadOf_5 N  n5 [some (.ref 1), some (.ref 3), some (.int v2), some (.int v3), some (.int v4)] [] D
def F_X7_loadOf (N : Nat) (a2 : Int32) (D : hy_M) : Option (Int32 × hy_M) := g_X7_loadOf N [.ref 1, .ref 3, .int a2] D
set_option maxRecDepth 100000 in
theorem F_X7_loadOf_5_eq (N : Nat) (n5 : Nat) (v2 : Int32) (v3 : Int32) (v4 : Int32) (D : hy_M) : F_X7_loadOf_5 N (n5 + 1) v2 v3 v4 D = (if v4 < (D 1 0) then (if hy_in v4 8 = true then (if (((D 3 (v4).toNatClampNeg) >>> (v2 &&& 31)) &&& (1 : Int32)) = (1 : Int32) then (if hy_in v4 8 = true then (F_X7_loadOf_5 N n5 v2 (v3 + (D 2 (v4).toNatClampNeg)) (v4 + (1 : Int32)) D) else none) else (F_X7_loadOf_5 N n5 v2 v3 (v4 + (1 : Int32)) D)) else none) else (some (v3, D))) := by
  rfl
set_option maxRecDepth 100000 in
theorem F_X7_loadOf_eq (N : Nat) (a2 : Int32) (D : hy_M) : F_X7_loadOf N a2 D = (F_X7_loadOf_5 N N a2 (0 : Int32) (0 : Int32) D) := by
  rfl
def F_X7_lengthsOn_5 (N : Nat) (n5 : Nat) (v2 : Int32) (v3 : Int32) (v4 : Int32) (D : hy_M) : Option (Int32 × hy_M) := b_X7_lengthsOn_5 N  n5 [some (.ref 1), some (.ref 11), some (.int v2), some (.int v3), some (.int v4)] [] D
def F_X7_lengthsOn (N : Nat) (a2 : Int32) (D : hy_M) : Option (Int32 × hy_M) := g_X7_lengthsOn N [.ref 1, .ref 11, .int a2] D
set_option maxRecDepth 100000 in
theorem F_X7_lengthsOn_5_eq (N : Nat) (n5 : Nat) (v2 : Int32) (v3 : Int32) (v4 : Int32) (D : hy_M) : F_X7_lengthsOn_5 N (n5 + 1) v2 v3 v4 D = (if hy_in v2 5 = true then (if v4 < (D 18 (v2).toNatClampNeg) then (if hy_in v2 5 = true then (if hy_in v4 (hy_al (hy_pr 12 (v2).toNatClampNeg)) = true then (if hy_in (D (hy_pr 12 (v2).toNatClampNeg) (v4).toNatClampNeg) 8 = true then (F_X7_lengthsOn_5 N n5 v2 (v3 + (D 2 ((D (hy_pr 12 (v2).toNatClampNeg) (v4).toNatClampNeg)).toNatClampNeg)) (v4 + (1 : Int32)) D) else none) else none) else none) else (some (v3, D))) else none) := by
  rfl
set_option maxRecDepth 100000 in
theorem F_X7_lengthsOn_eq (N : Nat) (a2 : Int32) (D : hy_M) : F_X7_lengthsOn N a2 D = (F_X7_lengthsOn_5 N N a2 (0 : Int32) (0 : Int32) D) := by
  rfl
def F_X8_track (N : Nat) (a1 : Int32) (a2 : Int32) (D : hy_M) : Option (Int32 × hy_M) := g_X8_track N [.ref 0, .int a1, .int a2] D
set_option maxRecDepth 100000 in
theorem F_X8_track_eq (N : Nat) (a1 : Int32) (a2 : Int32) (D : hy_M) : F_X8_track N a1 a2 D = ((F_X8_isTrack N a1 D).bind (fun q1 => (if q1.1 = 0 then (some ((-1 : Int32), q1.2)) else (if a2 = 0 then (if hy_in a1 3 = true then (some ((q1.2 10 (a1).toNatClampNeg), q1.2)) else none) else (if a2 = 1 then ((F_X7_lengthsOn N a1 q1.2).bind (fun q4 => (some (q4.1, q4.2)))) else (if a2 = 2 then ((F_X7_loadOf N a1 q1.2).bind (fun q3 => (some (q3.1, q3.2)))) else (if a2 < (10 : Int32) then (some ((-1 : Int32), q1.2)) else ((F_X2_wagonAt N a1 (a2 - (10 : Int32)) q1.2).bind (fun q2 => (some (q2.1, q2.2))))))))))) := by
  rfl
def F_X8_chains (N : Nat) (a1 : Int32) (D : hy_M) : Option (Int32 × hy_M) := g_X8_chains N [.ref 0, .int a1] D
set_option maxRecDepth 100000 in
theorem F_X8_chains_eq (N : Nat) (a1 : Int32) (D : hy_M) : F_X8_chains N a1 D = (if a1 = (2 : Int32) then ((F_X7_needOf N D).bind (fun q1 => (some (q1.1, q1.2)))) else ((F_X8_isTrain N a1 D).bind (fun q1 => (if q1.1 = 0 then (some ((-1 : Int32), q1.2)) else ((F_X7_chainsOf N a1 q1.2).bind (fun q2 => (some (q2.1, q2.2)))))))) := by
  rfl
def F_X1_howMany_4 (N : Nat) (n4 : Nat) (v0 : Int32) (v1 : Int32) (v2 : Int32) (D : hy_M) : Option (Int32 × hy_M) := b_X1_howMany_4 N  n4 [some (.int v0), some (.int v1), some (.int v2)] [] D
def F_X1_howMany (N : Nat) (a0 : Int32) (D : hy_M) : Option (Int32 × hy_M) := g_X1_howMany N [.int a0] D
set_option maxRecDepth 100000 in
theorem F_X1_howMany_4_eq (N : Nat) (n4 : Nat) (v0 : Int32) (v1 : Int32) (v2 : Int32) (D : hy_M) : F_X1_howMany_4 N (n4 + 1) v0 v1 v2 D = (if v2 < (8 : Int32) then ((F_X1_mayBe N v0 v2 D).bind (fun q1 => (if q1.1 = 0 then (F_X1_howMany_4 N n4 v0 v1 (v2 + (1 : Int32)) q1.2) else (F_X1_howMany_4 N n4 v0 (v1 + (1 : Int32)) (v2 + (1 : Int32)) q1.2)))) else (some (v1, D))) := by
  rfl
set_option maxRecDepth 100000 in
theorem F_X1_howMany_eq (N : Nat) (a0 : Int32) (D : hy_M) : F_X1_howMany N a0 D = (F_X1_howMany_4 N N a0 (0 : Int32) (0 : Int32) D) := by
  rfl
def F_X8_fewest (N : Nat) (a1 : Int32) (D : hy_M) : Option (Int32 × hy_M) := g_X8_fewest N [.ref 0, .int a1] D
set_option maxRecDepth 100000 in
theorem F_X8_fewest_eq (N : Nat) (a1 : Int32) (D : hy_M) : F_X8_fewest N a1 D = (if a1 = 0 then ((F_X8_fewestNow N D).bind (fun q1 => (some (q1.1, q1.2)))) else (if a1 = (1 : Int32) then ((F_X1_howMany N (D 1 1) D).bind (fun q1 => (some (q1.1, q1.2)))) else (if a1 < (10 : Int32) then (some ((-1 : Int32), D)) else (if a1 < (18 : Int32) then ((F_X1_mayBe N (D 1 1) (a1 - (10 : Int32)) D).bind (fun q1 => (if q1.1 = 0 then (some ((0 : Int32), q1.2)) else (some ((1 : Int32), q1.2))))) else (some ((-1 : Int32), D)))))) := by
  rfl
def F_X7_stepsOf_4 (N : Nat) (n4 : Nat) (v2 : Int32) (v3 : Int32) (D : hy_M) : Option (Int32 × hy_M) := b_X7_stepsOf_4 N  n4 [some (.ref 1), some (.ref 3), some (.int v2), some (.int v3)] [] D
def F_X7_stepsOf (N : Nat)  (D : hy_M) : Option (Int32 × hy_M) := g_X7_stepsOf N [.ref 1, .ref 3] D
set_option maxRecDepth 100000 in
theorem F_X7_stepsOf_4_eq (N : Nat) (n4 : Nat) (v2 : Int32) (v3 : Int32) (D : hy_M) : F_X7_stepsOf_4 N (n4 + 1) v2 v3 D = (if v3 < (D 1 0) then (if hy_in v3 8 = true then (F_X7_stepsOf_4 N n4 (v2 ||| (D 3 (v3).toNatClampNeg)) (v3 + (1 : Int32)) D) else none) else ((F_X1_widthOf N v2 D).bind (fun q1 => (some (q1.1, q1.2))))) := by
  rfl
set_option maxRecDepth 100000 in
theorem F_X7_stepsOf_eq (N : Nat)  (D : hy_M) : F_X7_stepsOf N D = (F_X7_stepsOf_4 N N (0 : Int32) (0 : Int32) D) := by
  rfl
def F_X8_presort_26 (N : Nat) (n26 : Nat) (v1 : Int32) (D : hy_M) : Option (Int32 × hy_M) := b_X8_presort_26 N  n26 [some (.ref 0), some (.int v1)] [] D
def F_X8_presort (N : Nat)  (D : hy_M) : Option (Int32 × hy_M) := g_X8_presort N [.ref 0] D
set_option maxRecDepth 100000 in
theorem F_X8_presort_26_eq (N : Nat) (n26 : Nat) (v1 : Int32) (D : hy_M) : F_X8_presort_26 N (n26 + 1) v1 D = (if v1 < (D 1 0) then ((F_X8_presortedCode N v1 D).bind (fun q1 => (if hy_in v1 8 = true then (F_X8_presort_26 N n26 (v1 + (1 : Int32)) (hy_w q1.2 3 (v1).toNatClampNeg q1.1)) else none))) else ((F_X7_stepsOf N D).bind (fun q1 => (some (q1.1, q1.2))))) := by
  rfl
set_option maxRecDepth 100000 in
theorem F_X8_presort_eq (N : Nat)  (D : hy_M) : F_X8_presort N D = (if (D 1 2) = 0 then ((F_X8_fewestNow N D).bind (fun q1 => (if (3 : Int32) < q1.1 then (some ((-5 : Int32), q1.2)) else (F_X8_presort_26 N N (0 : Int32) q1.2)))) else (some ((-3 : Int32), D))) := by
  rfl
def F_X7_rollsOf_7 (N : Nat) (n7 : Nat) (v2 : Int32) (v3 : Int32) (D : hy_M) : Option (Int32 × hy_M) := b_X7_rollsOf_7 N  n7 [some (.ref 1), some (.ref 3), some (.int v2), some (.int v3)] [] D
def F_X7_rollsOf (N : Nat)  (D : hy_M) : Option (Int32 × hy_M) := g_X7_rollsOf N [.ref 1, .ref 3] D
set_option maxRecDepth 100000 in
theorem F_X7_rollsOf_7_eq (N : Nat) (n7 : Nat) (v2 : Int32) (v3 : Int32) (D : hy_M) : F_X7_rollsOf_7 N (n7 + 1) v2 v3 D = (if v3 < (D 1 0) then (if hy_in v3 8 = true then ((F_J6_bitCount_0f7a4 N (D 3 (v3).toNatClampNeg) D).bind (fun q1 => (F_X7_rollsOf_7 N n7 (v2 + q1.1) (v3 + (1 : Int32)) q1.2))) else none) else (some (v2, D))) := by
  rfl
set_option maxRecDepth 100000 in
theorem F_X7_rollsOf_eq (N : Nat)  (D : hy_M) : F_X7_rollsOf N D = (F_X7_rollsOf_7 N N (D 1 0) (0 : Int32) D) := by
  rfl
def F_X7_firstNotRight_2 (N : Nat) (n2 : Nat) (v2 : Int32) (D : hy_M) : Option (Int32 × hy_M) := b_X7_firstNotRight_2 N  n2 [some (.ref 1), some (.ref 3), some (.int v2), none, none, none, none] [] D
def F_X7_firstNotRight_9 (N : Nat) (n2 : Nat) (n9 : Nat) (v2 : Int32) (v3 : Int32) (D : hy_M) : Option (Int32 × hy_M) := b_X7_firstNotRight_9 N (b_X7_firstNotRight_2 N  n2) n9 [some (.ref 1), some (.ref 3), some (.int v2), some (.int v3), none, none, none] [] D
def F_X7_firstNotRight_79 (N : Nat) (n2 : Nat) (n9 : Nat) (v2 : Int32) (v3 : Int32) (v5 : Int32) (vs0 : Int32) (D : hy_M) : Option (Int32 × hy_M) := b_X7_firstNotRight_79 N (b_X7_firstNotRight_2 N  n2) (b_X7_firstNotRight_9 N (b_X7_firstNotRight_2 N  n2) n9) [some (.ref 1), some (.ref 3), some (.int v2), some (.int v3), none, some (.int v5), none] [.int vs0] D
def F_X7_firstNotRight (N : Nat)  (D : hy_M) : Option (Int32 × hy_M) := g_X7_firstNotRight N [.ref 1, .ref 3] D
set_option maxRecDepth 100000 in
theorem F_X7_firstNotRight_2_eq (N : Nat) (n2 : Nat) (v2 : Int32) (D : hy_M) : F_X7_firstNotRight_2 N (n2 + 1) v2 D = (if v2 < (2 : Int32) then (F_X7_firstNotRight_9 N n2 N v2 (1 : Int32) D) else (some ((-1 : Int32), D))) := by
  rfl
set_option maxRecDepth 100000 in
theorem F_X7_firstNotRight_9_eq (N : Nat) (n2 : Nat) (n9 : Nat) (v2 : Int32) (v3 : Int32) (D : hy_M) : F_X7_firstNotRight_9 N n2 (n9 + 1) v2 v3 D = (if hy_in v2 2 = true then (if v3 < (D 9 (v2).toNatClampNeg) then ((F_X7_wantedAt N v2 (v3 - (1 : Int32)) D).bind (fun q1 => ((F_X7_wantedAt N v2 v3 q1.2).bind (fun q2 => (if q2.1 < q1.1 then (if hy_in q2.1 8 = true then (if hy_in q1.1 8 = true then (if (q2.2 3 (q1.1).toNatClampNeg) < (q2.2 3 (q2.1).toNatClampNeg) then (F_X7_firstNotRight_79 N n2 n9 v2 v3 q2.1 (1 : Int32) q2.2) else (F_X7_firstNotRight_79 N n2 n9 v2 v3 q2.1 (0 : Int32) q2.2)) else none) else none) else (if hy_in q2.1 8 = true then (if hy_in q1.1 8 = true then (if (q2.2 3 (q2.1).toNatClampNeg) < (q2.2 3 (q1.1).toNatClampNeg) then (F_X7_firstNotRight_79 N n2 n9 v2 v3 q2.1 (0 : Int32) q2.2) else (F_X7_firstNotRight_79 N n2 n9 v2 v3 q2.1 (1 : Int32) q2.2)) else none) else none)))))) else (F_X7_firstNotRight_2 N n2 (v2 + (1 : Int32)) D)) else none) := by
  rfl
set_option maxRecDepth 100000 in
theorem F_X7_firstNotRight_79_eq (N : Nat) (n2 : Nat) (n9 : Nat) (v2 : Int32) (v3 : Int32) (v5 : Int32) (vs0 : Int32) (D : hy_M) : F_X7_firstNotRight_79 N n2 n9 v2 v3 v5 vs0 D = (if vs0 = 0 then (some (v5, D)) else (F_X7_firstNotRight_9 N n2 n9 v2 (v3 + (1 : Int32)) D)) := by
  rfl
set_option maxRecDepth 100000 in
theorem F_X7_firstNotRight_eq (N : Nat)  (D : hy_M) : F_X7_firstNotRight N D = (F_X7_firstNotRight_2 N N (0 : Int32) D) := by
  rfl
def F_X7_judgeCodes_2 (N : Nat) (n2 : Nat) (v2 : Int32) (v3 : Int32) (D : hy_M) : Option (Int32 × hy_M) := b_X7_judgeCodes_2 N  n2 [some (.ref 1), some (.ref 3), some (.int v2), some (.int v3), none] [] D
def F_X7_judgeCodes_69 (N : Nat) (n69 : Nat) (v4 : Int32) (D : hy_M) : Option (Int32 × hy_M) := b_X7_judgeCodes_69 N  n69 [some (.ref 1), some (.ref 3), none, none, some (.int v4)] [] D
def F_X7_judgeCodes (N : Nat) (a2 : Int32) (D : hy_M) : Option (Int32 × hy_M) := g_X7_judgeCodes N [.ref 1, .ref 3, .int a2] D
set_option maxRecDepth 100000 in
theorem F_X7_judgeCodes_2_eq (N : Nat) (n2 : Nat) (v2 : Int32) (v3 : Int32) (D : hy_M) : F_X7_judgeCodes_2 N (n2 + 1) v2 v3 D = (if v3 < (D 1 0) then (if v3 < v2 then (if hy_in v3 8 = true then (if (D 3 (v3).toNatClampNeg) < 0 then (some (v3, D)) else (if hy_in v3 8 = true then (if (D 3 (v3).toNatClampNeg) < (8 : Int32) then (if hy_in v3 8 = true then ((F_X1_mayBe N (D 1 1) (D 3 (v3).toNatClampNeg) D).bind (fun q1 => (if q1.1 = 0 then (some (v3, q1.2)) else (F_X7_judgeCodes_2 N n2 v2 (v3 + (1 : Int32)) q1.2)))) else none) else (some (v3, D))) else none)) else none) else (some (v3, D))) else ((F_X7_firstNotRight N D).bind (fun q1 => (if q1.1 = (-1 : Int32) then (F_X7_judgeCodes_69 N N (0 : Int32) q1.2) else (some (((100 : Int32) + q1.1), q1.2)))))) := by
  rfl
set_option maxRecDepth 100000 in
theorem F_X7_judgeCodes_69_eq (N : Nat) (n69 : Nat) (v4 : Int32) (D : hy_M) : F_X7_judgeCodes_69 N (n69 + 1) v4 D = (if v4 < (3 : Int32) then ((F_X7_loadOf N v4 D).bind (fun q1 => (if hy_in v4 3 = true then (if (q1.2 10 (v4).toNatClampNeg) < q1.1 then (some (((200 : Int32) + v4), q1.2)) else (F_X7_judgeCodes_69 N n69 (v4 + (1 : Int32)) q1.2)) else none))) else (some ((-5 : Int32), D))) := by
  rfl
set_option maxRecDepth 100000 in
theorem F_X7_judgeCodes_eq (N : Nat) (a2 : Int32) (D : hy_M) : F_X7_judgeCodes N a2 D = (F_X7_judgeCodes_2 N N a2 (0 : Int32) D) := by
  rfl
def F_X8_right (N : Nat) (a1 : Int32) (D : hy_M) : Option (Int32 × hy_M) := g_X8_right N [.ref 0, .int a1] D
set_option maxRecDepth 100000 in
theorem F_X8_right_eq (N : Nat) (a1 : Int32) (D : hy_M) : F_X8_right N a1 D = (if a1 = 0 then ((F_X7_firstNotRight N D).bind (fun q4 => (if q4.1 = (-1 : Int32) then (some ((1 : Int32), q4.2)) else (some ((0 : Int32), q4.2))))) else (if a1 = 1 then ((F_X7_judgeCodes N (D 1 0) D).bind (fun q3 => (if q3.1 = (-5 : Int32) then (some ((1 : Int32), q3.2)) else (some ((0 : Int32), q3.2))))) else (if a1 = 2 then ((F_X7_stepsOf N D).bind (fun q2 => (some (q2.1, q2.2)))) else (if a1 = 3 then ((F_X7_rollsOf N D).bind (fun q1 => (some (q1.1, q1.2)))) else (some ((-1 : Int32), D)))))) := by
  rfl
def F_X0_allowBelow_7 (N : Nat) (n7 : Nat) (v1 : Int32) (v2 : Int32) (v3 : Int32) (D : hy_M) : Option hy_M := b_X0_allowBelow_7 N  n7 [some (.ref 48), some (.int v1), some (.int v2), some (.int v3)] [] D
def F_X0_allowBelow (N : Nat) (a1 : Int32) (a2 : Int32) (D : hy_M) : Option hy_M := g_X0_allowBelow N [.ref 48, .int a1, .int a2] D
set_option maxRecDepth 100000 in
theorem F_X0_allowBelow_7_eq (N : Nat) (n7 : Nat) (v1 : Int32) (v2 : Int32) (v3 : Int32) (D : hy_M) : F_X0_allowBelow_7 N (n7 + 1) v1 v2 v3 D = (if v3 < v2 then (if v3 < (8 : Int32) then ((F_X1_mayBe N v1 v3 D).bind (fun q1 => (if q1.1 = 0 then (F_X0_allowBelow_7 N n7 v1 v2 (v3 + (1 : Int32)) q1.2) else (if hy_in (q1.2 48 1) 8 = true then (F_X0_allowBelow_7 N n7 v1 v2 (v3 + (1 : Int32)) (hy_w (hy_w q1.2 49 ((q1.2 48 1)).toNatClampNeg v3) 48 1 (((hy_w q1.2 49 ((q1.2 48 1)).toNatClampNeg v3) 48 1) + (1 : Int32)))) else none)))) else (some D)) else (some D)) := by
  rfl
set_option maxRecDepth 100000 in
theorem F_X0_allowBelow_eq (N : Nat) (a1 : Int32) (a2 : Int32) (D : hy_M) : F_X0_allowBelow N a1 a2 D = (F_X0_allowBelow_7 N N a1 a2 (0 : Int32) (hy_w D 48 1 (0 : Int32))) := by
  rfl
def F_X0_highest (N : Nat) (a2 : Int32) (D : hy_M) : Option (Int32 × hy_M) := g_X0_highest N [.ref 48, .ref 1, .int a2] D
set_option maxRecDepth 100000 in
theorem F_X0_highest_eq (N : Nat) (a2 : Int32) (D : hy_M) : F_X0_highest N a2 D = (if hy_in a2 8 = true then (if hy_in (D 4 (a2).toNatClampNeg) 2 = true then ((F_X7_wantedAt N (D 4 (a2).toNatClampNeg) ((D 9 ((D 4 (a2).toNatClampNeg)).toNatClampNeg) - (1 : Int32)) D).bind (fun q1 => (if hy_in q1.1 8 = true then (if hy_in a2 8 = true then (some ((((q1.2 48 1) - (1 : Int32)) - ((q1.2 50 (q1.1).toNatClampNeg) - (q1.2 50 (a2).toNatClampNeg))), q1.2)) else none) else none))) else none) else none) := by
  rfl
def F_X0_foresee_17 (N : Nat) (n17 : Nat) (v2 : Int32) (D : hy_M) : Option hy_M := b_X0_foresee_17 N  n17 [some (.ref 48), some (.ref 1), some (.int v2), none, none] [] D
def F_X0_foresee_31 (N : Nat) (n17 : Nat) (n31 : Nat) (v2 : Int32) (v3 : Int32) (v4 : Int32) (D : hy_M) : Option hy_M := b_X0_foresee_31 N (b_X0_foresee_17 N  n17) n31 [some (.ref 48), some (.ref 1), some (.int v2), some (.int v3), some (.int v4)] [] D
def F_X0_foresee (N : Nat)  (D : hy_M) : Option hy_M := g_X0_foresee N [.ref 48, .ref 1] D
set_option maxRecDepth 100000 in
theorem F_X0_foresee_17_eq (N : Nat) (n17 : Nat) (v2 : Int32) (D : hy_M) : F_X0_foresee_17 N (n17 + 1) v2 D = (if v2 < 0 then (some D) else (if hy_in v2 8 = true then (F_X0_foresee_31 N n17 N v2 (3 : Int32) (D 50 (v2).toNatClampNeg) D) else none)) := by
  rfl
set_option maxRecDepth 100000 in
theorem F_X0_foresee_31_eq (N : Nat) (n17 : Nat) (n31 : Nat) (v2 : Int32) (v3 : Int32) (v4 : Int32) (D : hy_M) : F_X0_foresee_31 N n17 (n31 + 1) v2 v3 v4 D = ((F_X0_highest N v2 D).bind (fun q1 => (if q1.1 < v4 then (if hy_in (v2 + (1 : Int32)) 9 = true then (if hy_in v2 9 = true then (F_X0_foresee_17 N n17 (v2 + (-1 : Int32)) (hy_w q1.2 53 (v2).toNatClampNeg ((q1.2 53 ((v2 + (1 : Int32))).toNatClampNeg) + v3))) else none) else none) else (if hy_in v4 8 = true then ((F_J6_bitCount_0f7a4 N (q1.2 49 (v4).toNatClampNeg) q1.2).bind (fun q2 => (F_X0_foresee_31 N n17 n31 v2 (if q2.1 < v3 then q2.1 else v3) (v4 + (1 : Int32)) q2.2))) else none)))) := by
  rfl
set_option maxRecDepth 100000 in
theorem F_X0_foresee_eq (N : Nat)  (D : hy_M) : F_X0_foresee N D = (if hy_in (D 1 0) 9 = true then (F_X0_foresee_17 N N (((hy_w D 53 ((D 1 0)).toNatClampNeg (0 : Int32)) 1 0) - (1 : Int32)) (hy_w D 53 ((D 1 0)).toNatClampNeg (0 : Int32))) else none) := by
  rfl
def F_X0_highFor_17 (N : Nat) (n17 : Nat) (v2 : Int32) (v3 : Int32) (v4 : Int32) (D : hy_M) : Option (Int32 × hy_M) := b_X0_highFor_17 N  n17 [some (.ref 48), some (.ref 1), some (.int v2), some (.int v3), some (.int v4), none] [] D
def F_X0_highFor (N : Nat) (a2 : Int32) (D : hy_M) : Option (Int32 × hy_M) := g_X0_highFor N [.ref 48, .ref 1, .int a2] D
set_option maxRecDepth 100000 in
theorem F_X0_highFor_17_eq (N : Nat) (n17 : Nat) (v2 : Int32) (v3 : Int32) (v4 : Int32) (D : hy_M) : F_X0_highFor_17 N (n17 + 1) v2 v3 v4 D = (if hy_in v3 2 = true then (if v4 < (D 9 (v3).toNatClampNeg) then ((F_X7_wantedAt N v3 v4 D).bind (fun q1 => (if q1.1 < v2 then (if hy_in q1.1 8 = true then (if hy_in v2 8 = true then (if hy_in q1.1 8 = true then (some ((((q1.2 51 (q1.1).toNatClampNeg) + (q1.2 50 (v2).toNatClampNeg)) - (q1.2 50 (q1.1).toNatClampNeg)), q1.2)) else none) else none) else none) else (F_X0_highFor_17 N n17 v2 v3 (v4 + (1 : Int32)) q1.2)))) else ((F_X0_highest N v2 D).bind (fun q1 => (some (q1.1, q1.2))))) else none) := by
  rfl
set_option maxRecDepth 100000 in
theorem F_X0_highFor_eq (N : Nat) (a2 : Int32) (D : hy_M) : F_X0_highFor N a2 D = (if hy_in a2 8 = true then (if hy_in a2 8 = true then (F_X0_highFor_17 N N a2 (D 4 (a2).toNatClampNeg) ((D 5 (a2).toNatClampNeg) + (1 : Int32)) D) else none) else none) := by
  rfl
def F_X0_lowFor_17 (N : Nat) (n17 : Nat) (v2 : Int32) (v3 : Int32) (v4 : Int32) (D : hy_M) : Option (Int32 × hy_M) := b_X0_lowFor_17 N  n17 [some (.ref 48), some (.ref 1), some (.int v2), some (.int v3), some (.int v4), none] [] D
def F_X0_lowFor (N : Nat) (a2 : Int32) (D : hy_M) : Option (Int32 × hy_M) := g_X0_lowFor N [.ref 48, .ref 1, .int a2] D
set_option maxRecDepth 100000 in
theorem F_X0_lowFor_17_eq (N : Nat) (n17 : Nat) (v2 : Int32) (v3 : Int32) (v4 : Int32) (D : hy_M) : F_X0_lowFor_17 N (n17 + 1) v2 v3 v4 D = (if v4 < 0 then (if hy_in v2 8 = true then (some ((D 50 (v2).toNatClampNeg), D)) else none) else ((F_X7_wantedAt N v3 v4 D).bind (fun q1 => (if q1.1 < v2 then (if hy_in q1.1 8 = true then (if hy_in v2 8 = true then (if hy_in q1.1 8 = true then (some ((((q1.2 51 (q1.1).toNatClampNeg) + (q1.2 50 (v2).toNatClampNeg)) - (q1.2 50 (q1.1).toNatClampNeg)), q1.2)) else none) else none) else none) else (F_X0_lowFor_17 N n17 v2 v3 (v4 + (-1 : Int32)) q1.2))))) := by
  rfl
set_option maxRecDepth 100000 in
theorem F_X0_lowFor_eq (N : Nat) (a2 : Int32) (D : hy_M) : F_X0_lowFor N a2 D = (if hy_in a2 8 = true then (if hy_in a2 8 = true then (F_X0_lowFor_17 N N a2 (D 4 (a2).toNatClampNeg) ((D 5 (a2).toNatClampNeg) - (1 : Int32)) D) else none) else none) := by
  rfl
def F_X0_addLoad_2 (N : Nat) (n2 : Nat) (v1 : Int32) (v2 : Int32) (v3 : Int32) (D : hy_M) : Option hy_M := b_X0_addLoad_2 N  n2 [some (.ref 48), some (.int v1), some (.int v2), some (.int v3)] [] D
def F_X0_addLoad (N : Nat) (a1 : Int32) (a2 : Int32) (D : hy_M) : Option hy_M := g_X0_addLoad N [.ref 48, .int a1, .int a2] D
set_option maxRecDepth 100000 in
theorem F_X0_addLoad_2_eq (N : Nat) (n2 : Nat) (v1 : Int32) (v2 : Int32) (v3 : Int32) (D : hy_M) : F_X0_addLoad_2 N (n2 + 1) v1 v2 v3 D = (if v3 < (3 : Int32) then (if ((v1 >>> (v3 &&& 31)) &&& (1 : Int32)) = (1 : Int32) then (if hy_in v3 3 = true then (if hy_in v3 3 = true then (F_X0_addLoad_2 N n2 v1 v2 (v3 + (1 : Int32)) (hy_w D 52 (v3).toNatClampNeg ((D 52 (v3).toNatClampNeg) + v2))) else none) else none) else (F_X0_addLoad_2 N n2 v1 v2 (v3 + (1 : Int32)) D)) else (some D)) := by
  rfl
set_option maxRecDepth 100000 in
theorem F_X0_addLoad_eq (N : Nat) (a1 : Int32) (a2 : Int32) (D : hy_M) : F_X0_addLoad N a1 a2 D = (F_X0_addLoad_2 N N a1 a2 (0 : Int32) D) := by
  rfl
def F_X0_loadsFit_2 (N : Nat) (n2 : Nat) (v2 : Int32) (D : hy_M) : Option (Int32 × hy_M) := b_X0_loadsFit_2 N  n2 [some (.ref 48), some (.ref 10), some (.int v2)] [] D
def F_X0_loadsFit (N : Nat)  (D : hy_M) : Option (Int32 × hy_M) := g_X0_loadsFit N [.ref 48, .ref 10] D
set_option maxRecDepth 100000 in
theorem F_X0_loadsFit_2_eq (N : Nat) (n2 : Nat) (v2 : Int32) (D : hy_M) : F_X0_loadsFit_2 N (n2 + 1) v2 D = (if v2 < (3 : Int32) then (if hy_in v2 3 = true then (if hy_in v2 3 = true then (if (D 10 (v2).toNatClampNeg) < (D 52 (v2).toNatClampNeg) then (some ((0 : Int32), D)) else (F_X0_loadsFit_2 N n2 (v2 + (1 : Int32)) D)) else none) else none) else (some ((1 : Int32), D))) := by
  rfl
set_option maxRecDepth 100000 in
theorem F_X0_loadsFit_eq (N : Nat)  (D : hy_M) : F_X0_loadsFit N D = (F_X0_loadsFit_2 N N (0 : Int32) D) := by
  rfl
def F_X0_choose_16 (N : Nat) (d : Nat) (n16 : Nat) (v4 : Int32) (D : hy_M) : Option hy_M := b_X0_choose_16 N (gd_X0_choose N d)  n16 [some (.ref 48), some (.ref 1), none, none, some (.int v4), none, none, none] [] D
def F_X0_choose_67 (N : Nat) (d : Nat) (n67 : Nat) (v2 : Int32) (v3 : Int32) (v4 : Int32) (v5 : Int32) (D : hy_M) : Option hy_M := b_X0_choose_67 N (gd_X0_choose N d)  n67 [some (.ref 48), some (.ref 1), some (.int v2), some (.int v3), some (.int v4), some (.int v5), none, none] [] D
def F_X0_choose_151 (N : Nat) (d : Nat) (n67 : Nat) (v2 : Int32) (v3 : Int32) (v4 : Int32) (v5 : Int32) (v6 : Int32) (D : hy_M) : Option hy_M := b_X0_choose_151 N (gd_X0_choose N d) (b_X0_choose_67 N (gd_X0_choose N d)  n67) [some (.ref 48), some (.ref 1), some (.int v2), some (.int v3), some (.int v4), some (.int v5), some (.int v6), none] [] D
def F_X0_choose (N : Nat) (d : Nat) (a2 : Int32) (a3 : Int32) (D : hy_M) : Option hy_M := gd_X0_choose N d [.ref 48, .ref 1, .int a2, .int a3] D
set_option maxRecDepth 100000 in
theorem F_X0_choose_16_eq (N : Nat) (d : Nat) (n16 : Nat) (v4 : Int32) (D : hy_M) : F_X0_choose_16 N d (n16 + 1) v4 D = (if v4 < (D 1 0) then (if hy_in v4 8 = true then (if hy_in (D 51 (v4).toNatClampNeg) 8 = true then (if hy_in v4 8 = true then (F_X0_choose_16 N d n16 (v4 + (1 : Int32)) (hy_w D 54 (v4).toNatClampNeg (D 49 ((D 51 (v4).toNatClampNeg)).toNatClampNeg))) else none) else none) else none) else (some D)) := by
  rfl
set_option maxRecDepth 100000 in
theorem F_X0_choose_67_eq (N : Nat) (d : Nat) (n67 : Nat) (v2 : Int32) (v3 : Int32) (v4 : Int32) (v5 : Int32) (D : hy_M) : F_X0_choose_67 N d (n67 + 1) v2 v3 v4 v5 D = (if v4 < v5 then (some D) else (if hy_in v5 8 = true then ((F_J6_bitCount_0f7a4 N (D 49 (v5).toNatClampNeg) D).bind (fun q1 => (if hy_in (v2 + (1 : Int32)) 9 = true then (if ((v3 + q1.1) + (q1.2 53 ((v2 + (1 : Int32))).toNatClampNeg)) < (q1.2 48 6) then (if hy_in v2 8 = true then (if hy_in v2 8 = true then ((F_X0_addLoad N (D 49 (v5).toNatClampNeg) ((hy_w q1.2 51 (v2).toNatClampNeg v5) 2 (v2).toNatClampNeg) (hy_w q1.2 51 (v2).toNatClampNeg v5)).bind (fun q2 => ((F_X0_loadsFit N q2).bind (fun q3 => (if q3.1 = 0 then (F_X0_choose_151 N d n67 v2 v3 v4 v5 (D 49 (v5).toNatClampNeg) q3.2) else ((F_X0_choose N d (v2 + (1 : Int32)) (v3 + q1.1) q3.2).bind (fun q4 => (F_X0_choose_151 N d n67 v2 v3 v4 v5 (D 49 (v5).toNatClampNeg) q4)))))))) else none) else none) else (F_X0_choose_67 N d n67 v2 v3 v4 (v5 + (1 : Int32)) q1.2)) else none))) else none)) := by
  rfl
set_option maxRecDepth 100000 in
theorem F_X0_choose_151_eq (N : Nat) (d : Nat) (n67 : Nat) (v2 : Int32) (v3 : Int32) (v4 : Int32) (v5 : Int32) (v6 : Int32) (D : hy_M) : F_X0_choose_151 N d n67 v2 v3 v4 v5 v6 D = (if hy_in v2 8 = true then ((F_X0_addLoad N v6 (-(D 2 (v2).toNatClampNeg)) D).bind (fun q1 => (F_X0_choose_67 N d n67 v2 v3 v4 (v5 + (1 : Int32)) q1))) else none) := by
  rfl
set_option maxRecDepth 100000 in
theorem F_X0_choose_eq (N : Nat) (d : Nat) (a2 : Int32) (a3 : Int32) (D : hy_M) : F_X0_choose N (d + 1) a2 a3 D = (if a2 < (D 1 0) then ((F_X0_highFor N a2 D).bind (fun q1 => ((F_X0_lowFor N a2 q1.2).bind (fun q2 => (F_X0_choose_67 N d N a2 a3 q1.1 q2.1 q2.2))))) else (F_X0_choose_16 N d N (0 : Int32) (hy_w D 48 6 a3))) := by
  rfl
def F_X0_findBest_2 (N : Nat) (n2 : Nat) (v2 : Int32) (D : hy_M) : Option (Int32 × hy_M) := b_X0_findBest_2 N  n2 [some (.ref 48), some (.ref 1), some (.int v2)] [] D
def F_X0_findBest_36 (N : Nat) (n36 : Nat) (v2 : Int32) (D : hy_M) : Option (Int32 × hy_M) := b_X0_findBest_36 N  n36 [some (.ref 48), some (.ref 1), some (.int v2)] [] D
def F_X0_findBest_80 (N : Nat)  (D : hy_M) : Option (Int32 × hy_M) := b_X0_findBest_80 N  [some (.ref 48), none, none] [] D
def F_X0_findBest (N : Nat)  (D : hy_M) : Option (Int32 × hy_M) := g_X0_findBest N [.ref 48, .ref 1] D
set_option maxRecDepth 100000 in
theorem F_X0_findBest_2_eq (N : Nat) (n2 : Nat) (v2 : Int32) (D : hy_M) : F_X0_findBest_2 N (n2 + 1) v2 D = (if v2 < (D 1 0) then ((F_X7_chainOf N v2 D).bind (fun q1 => (if hy_in v2 8 = true then (F_X0_findBest_2 N n2 (v2 + (1 : Int32)) (hy_w q1.2 50 (v2).toNatClampNeg q1.1)) else none))) else (F_X0_findBest_36 N N (0 : Int32) (hy_w D 48 6 (1000 : Int32)))) := by
  rfl
set_option maxRecDepth 100000 in
theorem F_X0_findBest_36_eq (N : Nat) (n36 : Nat) (v2 : Int32) (D : hy_M) : F_X0_findBest_36 N (n36 + 1) v2 D = (if (3 : Int32) < v2 then (F_X0_findBest_80 N D) else (if (D 48 6) = (1000 : Int32) then ((F_X0_allowBelow N (D 1 1) ((1 : Int32) <<< (v2 &&& 31)) D).bind (fun q1 => ((F_X0_foresee N q1).bind (fun q2 => ((F_X0_choose N 10 (0 : Int32) (0 : Int32) q2).bind (fun q3 => (F_X0_findBest_36 N n36 (v2 + (1 : Int32)) q3))))))) else (F_X0_findBest_80 N D))) := by
  rfl
set_option maxRecDepth 100000 in
theorem F_X0_findBest_80_eq (N : Nat)  (D : hy_M) : F_X0_findBest_80 N D = (if (D 48 6) = (1000 : Int32) then (some ((0 : Int32), D)) else (some ((1 : Int32), D))) := by
  rfl
set_option maxRecDepth 100000 in
theorem F_X0_findBest_eq (N : Nat)  (D : hy_M) : F_X0_findBest N D = (F_X0_findBest_2 N N (0 : Int32) D) := by
  rfl
def F_X7_rollsOf_1_54_7 (N : Nat) (n7 : Nat) (v2 : Int32) (v3 : Int32) (D : hy_M) : Option (Int32 × hy_M) := b_X7_rollsOf_7 N  n7 [some (.ref 1), some (.ref 54), some (.int v2), some (.int v3)] [] D
def F_X7_rollsOf_1_54 (N : Nat)  (D : hy_M) : Option (Int32 × hy_M) := g_X7_rollsOf N [.ref 1, .ref 54] D
set_option maxRecDepth 100000 in
theorem F_X7_rollsOf_1_54_7_eq (N : Nat) (n7 : Nat) (v2 : Int32) (v3 : Int32) (D : hy_M) : F_X7_rollsOf_1_54_7 N (n7 + 1) v2 v3 D = (if v3 < (D 1 0) then (if hy_in v3 8 = true then ((F_J6_bitCount_0f7a4 N (D 54 (v3).toNatClampNeg) D).bind (fun q1 => (F_X7_rollsOf_1_54_7 N n7 (v2 + q1.1) (v3 + (1 : Int32)) q1.2))) else none) else (some (v2, D))) := by
  rfl
set_option maxRecDepth 100000 in
theorem F_X7_rollsOf_1_54_eq (N : Nat)  (D : hy_M) : F_X7_rollsOf_1_54 N D = (F_X7_rollsOf_1_54_7 N N (D 1 0) (0 : Int32) D) := by
  rfl
def F_X7_stepsOf_1_54_4 (N : Nat) (n4 : Nat) (v2 : Int32) (v3 : Int32) (D : hy_M) : Option (Int32 × hy_M) := b_X7_stepsOf_4 N  n4 [some (.ref 1), some (.ref 54), some (.int v2), some (.int v3)] [] D
def F_X7_stepsOf_1_54 (N : Nat)  (D : hy_M) : Option (Int32 × hy_M) := g_X7_stepsOf N [.ref 1, .ref 54] D
set_option maxRecDepth 100000 in
theorem F_X7_stepsOf_1_54_4_eq (N : Nat) (n4 : Nat) (v2 : Int32) (v3 : Int32) (D : hy_M) : F_X7_stepsOf_1_54_4 N (n4 + 1) v2 v3 D = (if v3 < (D 1 0) then (if hy_in v3 8 = true then (F_X7_stepsOf_1_54_4 N n4 (v2 ||| (D 54 (v3).toNatClampNeg)) (v3 + (1 : Int32)) D) else none) else ((F_X1_widthOf N v2 D).bind (fun q1 => (some (q1.1, q1.2))))) := by
  rfl
set_option maxRecDepth 100000 in
theorem F_X7_stepsOf_1_54_eq (N : Nat)  (D : hy_M) : F_X7_stepsOf_1_54 N D = (F_X7_stepsOf_1_54_4 N N (0 : Int32) (0 : Int32) D) := by
  rfl
def F_X8_bounded_25 (N : Nat) (v1 : Int32) (vs0 : Int32) (D : hy_M) : Option (Int32 × hy_M) := b_X8_bounded_25 N  [some (.ref 0), some (.int v1), none] [.int vs0] D
def F_X8_bounded_41 (N : Nat) (v1 : Int32) (v2 : Int32) (D : hy_M) : Option (Int32 × hy_M) := b_X8_bounded_41 N  [some (.ref 0), some (.int v1), some (.int v2)] [] D
def F_X8_bounded (N : Nat) (a1 : Int32) (D : hy_M) : Option (Int32 × hy_M) := g_X8_bounded N [.ref 0, .int a1] D
set_option maxRecDepth 100000 in
theorem F_X8_bounded_25_eq (N : Nat) (v1 : Int32) (vs0 : Int32) (D : hy_M) : F_X8_bounded_25 N v1 vs0 D = (if v1 = 0 then (F_X8_bounded_41 N v1 vs0 D) else (if v1 = (1 : Int32) then (F_X8_bounded_41 N v1 vs0 D) else (if vs0 = 0 then (some ((-1 : Int32), D)) else (F_X8_bounded_41 N v1 vs0 D)))) := by
  rfl
set_option maxRecDepth 100000 in
theorem F_X8_bounded_41_eq (N : Nat) (v1 : Int32) (v2 : Int32) (D : hy_M) : F_X8_bounded_41 N v1 v2 D = ((F_X0_findBest N D).bind (fun q1 => (if q1.1 = 0 then (some ((-5 : Int32), q1.2)) else (if v2 = 0 then (if v1 = 0 then ((F_X7_stepsOf_1_54 N q1.2).bind (fun q2 => (some (q2.1, q2.2)))) else ((F_X7_rollsOf_1_54 N q1.2).bind (fun q2 => (some (q2.1, q2.2))))) else (if hy_in (v1 - (10 : Int32)) 8 = true then (some ((q1.2 54 ((v1 - (10 : Int32))).toNatClampNeg), q1.2)) else none))))) := by
  rfl
set_option maxRecDepth 100000 in
theorem F_X8_bounded_eq (N : Nat) (a1 : Int32) (D : hy_M) : F_X8_bounded N a1 D = (if a1 < (10 : Int32) then (F_X8_bounded_25 N a1 (0 : Int32) D) else ((F_X7_hasWagon N (a1 - (10 : Int32)) D).bind (fun q1 => (if q1.1 = 0 then (F_X8_bounded_25 N a1 (0 : Int32) q1.2) else (F_X8_bounded_25 N a1 (1 : Int32) q1.2))))) := by
  rfl
