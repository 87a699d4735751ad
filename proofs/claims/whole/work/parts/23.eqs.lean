def F_X7_isCut_1_57 (N : Nat) (a1 : Int32) (a2 : Int32) (D : hy_M) : Option (Int32 × hy_M) := g_X7_isCut N [.ref 1, .int a1, .int a2, .ref 57] D
set_option maxRecDepth 100000 in
theorem F_X7_isCut_1_57_eq (N : Nat) (a1 : Int32) (a2 : Int32) (D : hy_M) : F_X7_isCut_1_57 N a1 a2 D = ((F_X7_wantedAt N a1 a2 D).bind (fun q1 => (if hy_in q1.1 8 = true then ((F_X7_wantedAt N a1 (a2 - (1 : Int32)) q1.2).bind (fun q2 => (if hy_in q2.1 8 = true then (if (q1.2 57 (q1.1).toNatClampNeg) < (q2.2 57 (q2.1).toNatClampNeg) then (some ((1 : Int32), q2.2)) else (some ((0 : Int32), q2.2))) else none))) else none))) := by
  rfl
def F_X7_chainsOf_1_57_16 (N : Nat) (n16 : Nat) (v1 : Int32) (v3 : Int32) (v4 : Int32) (D : hy_M) : Option (Int32 × hy_M) := b_X7_chainsOf_16 N  n16 [some (.ref 1), some (.int v1), some (.ref 57), some (.int v3), some (.int v4)] [] D
def F_X7_chainsOf_1_57 (N : Nat) (a1 : Int32) (D : hy_M) : Option (Int32 × hy_M) := g_X7_chainsOf N [.ref 1, .int a1, .ref 57] D
set_option maxRecDepth 100000 in
theorem F_X7_chainsOf_1_57_16_eq (N : Nat) (n16 : Nat) (v1 : Int32) (v3 : Int32) (v4 : Int32) (D : hy_M) : F_X7_chainsOf_1_57_16 N (n16 + 1) v1 v3 v4 D = (if hy_in v1 2 = true then (if v4 < (D 9 (v1).toNatClampNeg) then ((F_X7_isCut_1_57 N v1 v4 D).bind (fun q1 => (if q1.1 = 0 then (F_X7_chainsOf_1_57_16 N n16 v1 v3 (v4 + (1 : Int32)) q1.2) else (F_X7_chainsOf_1_57_16 N n16 v1 (v3 + (1 : Int32)) (v4 + (1 : Int32)) q1.2)))) else (some (v3, D))) else none) := by
  rfl
set_option maxRecDepth 100000 in
theorem F_X7_chainsOf_1_57_eq (N : Nat) (a1 : Int32) (D : hy_M) : F_X7_chainsOf_1_57 N a1 D = (if hy_in a1 2 = true then (if (D 9 (a1).toNatClampNeg) = 0 then (some ((0 : Int32), D)) else (F_X7_chainsOf_1_57_16 N N a1 (1 : Int32) (1 : Int32) D)) else none) := by
  rfl
def F_X7_needOf_1_57 (N : Nat)  (D : hy_M) : Option (Int32 × hy_M) := g_X7_needOf N [.ref 1, .ref 57] D
set_option maxRecDepth 100000 in
theorem F_X7_needOf_1_57_eq (N : Nat)  (D : hy_M) : F_X7_needOf_1_57 N D = ((F_X7_chainsOf_1_57 N (0 : Int32) D).bind (fun q1 => ((F_X7_chainsOf_1_57 N (1 : Int32) q1.2).bind (fun q2 => (some ((if q1.1 < q2.1 then q2.1 else q1.1), q2.2)))))) := by
  rfl
def F_X5_findElsewhere_18 (N : Nat) (n18 : Nat) (v2 : Int32) (D : hy_M) : Option (Int32 × hy_M) := b_X5_findElsewhere_18 N  n18 [some (.ref 55), some (.ref 1), some (.int v2), none, none] [] D
def F_X5_findElsewhere_28 (N : Nat) (n18 : Nat) (n28 : Nat) (v2 : Int32) (v3 : Int32) (D : hy_M) : Option (Int32 × hy_M) := b_X5_findElsewhere_28 N (b_X5_findElsewhere_18 N  n18) n28 [some (.ref 55), some (.ref 1), some (.int v2), some (.int v3), none] [] D
def F_X5_findElsewhere (N : Nat)  (D : hy_M) : Option (Int32 × hy_M) := g_X5_findElsewhere N [.ref 55, .ref 1] D
set_option maxRecDepth 100000 in
theorem F_X5_findElsewhere_18_eq (N : Nat) (n18 : Nat) (v2 : Int32) (D : hy_M) : F_X5_findElsewhere_18 N (n18 + 1) v2 D = (if v2 < (D 1 0) then (F_X5_findElsewhere_28 N n18 N v2 (0 : Int32) D) else (if (D 55 2) = (-1 : Int32) then (some ((0 : Int32), D)) else (some ((1 : Int32), D)))) := by
  rfl
set_option maxRecDepth 100000 in
theorem F_X5_findElsewhere_28_eq (N : Nat) (n18 : Nat) (n28 : Nat) (v2 : Int32) (v3 : Int32) (D : hy_M) : F_X5_findElsewhere_28 N n18 (n28 + 1) v2 v3 D = (if v3 < (D 1 0) then ((F_X5_moveTo N (D 1 0) v2 v3 D).bind (fun q1 => ((F_X7_needOf_1_57 N q1).bind (fun q2 => (if q2.1 < (q2.2 55 4) then (F_X5_findElsewhere_28 N n18 n28 v2 (v3 + (1 : Int32)) (hy_w (hy_w (hy_w q2.2 55 2 v2) 55 3 v3) 55 4 q2.1)) else (F_X5_findElsewhere_28 N n18 n28 v2 (v3 + (1 : Int32)) q2.2)))))) else (F_X5_findElsewhere_18 N n18 (v2 + (1 : Int32)) D)) := by
  rfl
set_option maxRecDepth 100000 in
theorem F_X5_findElsewhere_eq (N : Nat)  (D : hy_M) : F_X5_findElsewhere N D = ((F_X7_needOf N (hy_w D 55 2 (-1 : Int32))).bind (fun q1 => (F_X5_findElsewhere_18 N N (0 : Int32) (hy_w q1.2 55 4 q1.1)))) := by
  rfl
def F_X8_elsewhere (N : Nat) (a1 : Int32) (D : hy_M) : Option (Int32 × hy_M) := g_X8_elsewhere N [.ref 0, .int a1] D
set_option maxRecDepth 100000 in
theorem F_X8_elsewhere_eq (N : Nat) (a1 : Int32) (D : hy_M) : F_X8_elsewhere N a1 D = (if a1 < 0 then (some ((-2 : Int32), D)) else (if (2 : Int32) < a1 then (some ((-2 : Int32), D)) else ((F_X5_findElsewhere N D).bind (fun q1 => (if q1.1 = 0 then (some ((-5 : Int32), q1.2)) else (if a1 = 0 then (some ((q1.2 55 2), q1.2)) else (if a1 = (1 : Int32) then (some ((q1.2 55 3), q1.2)) else (some ((q1.2 55 4), q1.2))))))))) := by
  rfl
def F_X5_drawRow_21 (N : Nat) (n21 : Nat) (v1 : Int32) (v3 : Int32) (v4 : Int32) (D : hy_M) : Option hy_M := b_X5_drawRow_21 N  n21 [some (.ref 55), some (.int v1), none, some (.int v3), some (.int v4), none, none] [] D
def F_X5_drawRow_47 (N : Nat) (n21 : Nat) (v1 : Int32) (v3 : Int32) (v4 : Int32) (v5 : Int32) (D : hy_M) : Option hy_M := b_X5_drawRow_47 N (b_X5_drawRow_21 N  n21) [some (.ref 55), some (.int v1), none, some (.int v3), some (.int v4), some (.int v5), none] [] D
def F_X5_drawRow_88 (N : Nat) (n88 : Nat) (v1 : Int32) (v4 : Int32) (D : hy_M) : Option hy_M := b_X5_drawRow_88 N  n88 [some (.ref 55), some (.int v1), none, none, some (.int v4), none, none] [] D
def F_X5_drawRow (N : Nat) (a1 : Int32) (a2 : Int32) (D : hy_M) : Option hy_M := g_X5_drawRow N [.ref 55, .int a1, .int a2] D
set_option maxRecDepth 100000 in
theorem F_X5_drawRow_21_eq (N : Nat) (n21 : Nat) (v1 : Int32) (v3 : Int32) (v4 : Int32) (D : hy_M) : F_X5_drawRow_21 N (n21 + 1) v1 v3 v4 D = (if v4 < (1 : Int32) then (F_X5_drawRow_88 N N v1 (0 : Int32) D) else (if (v4 + (1 : Int32)) = 0 then none else (F_X5_drawRow_47 N n21 v1 ((v3 * (1103515245 : Int32)) + (12345 : Int32)) v4 (((((v3 * (1103515245 : Int32)) + (12345 : Int32))).toUInt32 >>> (((9 : Int32)).toUInt32 &&& Int32.toUInt32 31)).toInt32 - ((((v3 * (1103515245 : Int32)) + (12345 : Int32))).toUInt32 >>> (((9 : Int32)).toUInt32 &&& Int32.toUInt32 31)).toInt32 / (v4 + (1 : Int32)) * (v4 + (1 : Int32))) D))) := by
  rfl
set_option maxRecDepth 100000 in
theorem F_X5_drawRow_47_eq (N : Nat) (n21 : Nat) (v1 : Int32) (v3 : Int32) (v4 : Int32) (v5 : Int32) (D : hy_M) : F_X5_drawRow_47 N n21 v1 v3 v4 v5 D = (if hy_in v4 8 = true then (if hy_in v5 8 = true then (if hy_in v4 8 = true then (if hy_in v5 8 = true then (F_X5_drawRow_21 N n21 v1 v3 (v4 + (-1 : Int32)) (hy_w (hy_w D 56 (v4).toNatClampNeg (D 56 (v5).toNatClampNeg)) 56 (v5).toNatClampNeg (D 56 (v4).toNatClampNeg))) else none) else none) else none) else none) := by
  rfl
set_option maxRecDepth 100000 in
theorem F_X5_drawRow_88_eq (N : Nat) (n88 : Nat) (v1 : Int32) (v4 : Int32) (D : hy_M) : F_X5_drawRow_88 N (n88 + 1) v1 v4 D = (if v4 < v1 then (if hy_in v4 8 = true then (if hy_in (D 56 (v4).toNatClampNeg) 8 = true then (F_X5_drawRow_88 N n88 v1 (v4 + (1 : Int32)) (hy_w D 57 ((D 56 (v4).toNatClampNeg)).toNatClampNeg v4)) else none) else none) else (some D)) := by
  rfl
set_option maxRecDepth 100000 in
theorem F_X5_drawRow_eq (N : Nat) (a1 : Int32) (a2 : Int32) (D : hy_M) : F_X5_drawRow N a1 a2 D = (F_X5_drawRow_21 N N a1 a2 (a1 - (1 : Int32)) (hy_cp D 1000 56 0 0 8)) := by
  rfl
def F_X8_drawn_25 (N : Nat) (v1 : Int32) (v2 : Int32) (vs0 : Int32) (D : hy_M) : Option (Int32 × hy_M) := b_X8_drawn_25 N  [some (.ref 0), some (.int v1), some (.int v2), none, none] [.int vs0] D
def F_X8_drawn_41 (N : Nat) (v1 : Int32) (v2 : Int32) (v3 : Int32) (D : hy_M) : Option (Int32 × hy_M) := b_X8_drawn_41 N  [some (.ref 0), some (.int v1), some (.int v2), some (.int v3), none] [] D
def F_X8_drawn (N : Nat) (a1 : Int32) (a2 : Int32) (D : hy_M) : Option (Int32 × hy_M) := g_X8_drawn N [.ref 0, .int a1, .int a2] D
set_option maxRecDepth 100000 in
theorem F_X8_drawn_25_eq (N : Nat) (v1 : Int32) (v2 : Int32) (vs0 : Int32) (D : hy_M) : F_X8_drawn_25 N v1 v2 vs0 D = (if v2 = 0 then (F_X8_drawn_41 N v1 v2 vs0 D) else (if v2 = (1 : Int32) then (F_X8_drawn_41 N v1 v2 vs0 D) else (if vs0 = 0 then (some ((-1 : Int32), D)) else (F_X8_drawn_41 N v1 v2 vs0 D)))) := by
  rfl
set_option maxRecDepth 100000 in
theorem F_X8_drawn_41_eq (N : Nat) (v1 : Int32) (v2 : Int32) (v3 : Int32) (D : hy_M) : F_X8_drawn_41 N v1 v2 v3 D = ((F_X5_drawRow N (D 1 0) v1 D).bind (fun q1 => (if v3 = 0 then ((F_X7_needOf_1_57 N q1).bind (fun q2 => (if v2 = 0 then (some (q2.1, q2.2)) else ((F_X1_fewestFor N (q2.2 1 1) q2.1 q2.2).bind (fun q3 => (some (q3.1, q3.2))))))) else (if hy_in (v2 - (10 : Int32)) 8 = true then (some ((q1 57 ((v2 - (10 : Int32))).toNatClampNeg), q1)) else none)))) := by
  rfl
set_option maxRecDepth 100000 in
theorem F_X8_drawn_eq (N : Nat) (a1 : Int32) (a2 : Int32) (D : hy_M) : F_X8_drawn N a1 a2 D = (if a2 < (10 : Int32) then (F_X8_drawn_25 N a1 a2 (0 : Int32) D) else ((F_X7_hasWagon N (a2 - (10 : Int32)) D).bind (fun q1 => (if q1.1 = 0 then (F_X8_drawn_25 N a1 a2 (0 : Int32) q1.2) else (F_X8_drawn_25 N a1 a2 (1 : Int32) q1.2))))) := by
  rfl
def F_X8_odds_31 (N : Nat) (n31 : Nat) (v1 : Int32) (v2 : Int32) (v3 : Int32) (v4 : Int32) (v5 : Int32) (v6 : Int32) (D : hy_M) : Option (Int64 × hy_M) := b_X8_odds_31 N  n31 [some (.ref 0), some (.int v1), some (.int v2), some (.int v3), some (.int v4), some (.int v5), some (.int v6)] [] D
def F_X8_odds (N : Nat) (a1 : Int32) (a2 : Int32) (a3 : Int32) (a4 : Int32) (D : hy_M) : Option (Int64 × hy_M) := g_X8_odds N [.ref 0, .int a1, .int a2, .int a3, .int a4] D
set_option maxRecDepth 100000 in
theorem F_X8_odds_31_eq (N : Nat) (n31 : Nat) (v1 : Int32) (v2 : Int32) (v3 : Int32) (v4 : Int32) (v5 : Int32) (v6 : Int32) (D : hy_M) : F_X8_odds_31 N (n31 + 1) v1 v2 v3 v4 v5 v6 D = (if v6 < v2 then ((F_X5_drawRow N (D 1 0) (v1 + v6) D).bind (fun q1 => ((F_X7_needOf_1_57 N q1).bind (fun q2 => (if v3 < q2.1 then (F_X8_odds_31 N n31 v1 v2 v3 v4 v5 (v6 + (1 : Int32)) q2.2) else (F_X8_odds_31 N n31 v1 v2 v3 v4 (v5 + (1 : Int32)) (v6 + (1 : Int32)) q2.2)))))) else ((F_X8_partOfLowest N v5 v2 v4 D).bind (fun q1 => (some (q1.1, q1.2))))) := by
  rfl
set_option maxRecDepth 100000 in
theorem F_X8_odds_eq (N : Nat) (a1 : Int32) (a2 : Int32) (a3 : Int32) (a4 : Int32) (D : hy_M) : F_X8_odds N a1 a2 a3 a4 D = (if a2 < (1 : Int32) then (some ((-9223372036854775808 : Int64), D)) else (if (20 : Int32) < a2 then (some ((-9223372036854775808 : Int64), D)) else (if a3 < 0 then (some ((-9223372036854775808 : Int64), D)) else (if (8 : Int32) < a3 then (some ((-9223372036854775808 : Int64), D)) else (F_X8_odds_31 N N a1 a2 a3 a4 (0 : Int32) (0 : Int32) D))))) := by
  rfl
def F_X3_isList (N : Nat) (a0 : Int32) (D : hy_M) : Option (Int32 × hy_M) := g_X3_isList N [.int a0] D
set_option maxRecDepth 100000 in
theorem F_X3_isList_eq (N : Nat) (a0 : Int32) (D : hy_M) : F_X3_isList N a0 D = (if a0 < 0 then (some ((0 : Int32), D)) else (if a0 < (4 : Int32) then (some ((1 : Int32), D)) else (some ((0 : Int32), D)))) := by
  rfl
def F_X3_holds (N : Nat) (a1 : Int32) (D : hy_M) : Option (Int32 × hy_M) := g_X3_holds N [.ref 41, .int a1] D
set_option maxRecDepth 100000 in
theorem F_X3_holds_eq (N : Nat) (a1 : Int32) (D : hy_M) : F_X3_holds N a1 D = (if hy_in a1 4 = true then (if (D 47 (a1).toNatClampNeg) < 0 then (some ((0 : Int32), D)) else (some ((1 : Int32), D))) else none) := by
  rfl
def F_X7_laneBehind_1_66_5 (N : Nat) (n5 : Nat) (v2 : Int32) (v4 : Int32) (D : hy_M) : Option (Int32 × hy_M) := b_X7_laneBehind_5 N  n5 [some (.ref 1), some (.ref 66), some (.int v2), none, some (.int v4)] [] D
def F_X7_laneBehind_1_66 (N : Nat) (a2 : Int32) (a3 : Int32) (D : hy_M) : Option (Int32 × hy_M) := g_X7_laneBehind N [.ref 1, .ref 66, .int a2, .int a3] D
set_option maxRecDepth 100000 in
theorem F_X7_laneBehind_1_66_5_eq (N : Nat) (n5 : Nat) (v2 : Int32) (v4 : Int32) (D : hy_M) : F_X7_laneBehind_1_66_5 N (n5 + 1) v2 v4 D = (if v4 < (3 : Int32) then (if hy_in v2 8 = true then (if (((D 66 (v2).toNatClampNeg) >>> (v4 &&& 31)) &&& (1 : Int32)) = (1 : Int32) then (some (v4, D)) else (F_X7_laneBehind_1_66_5 N n5 v2 (v4 + (1 : Int32)) D)) else none) else (if hy_in v2 8 = true then ((F_X2_outOf N (D 4 (v2).toNatClampNeg) D).bind (fun q1 => (some (q1.1, q1.2)))) else none)) := by
  rfl
set_option maxRecDepth 100000 in
theorem F_X7_laneBehind_1_66_eq (N : Nat) (a2 : Int32) (a3 : Int32) (D : hy_M) : F_X7_laneBehind_1_66 N a2 a3 D = (F_X7_laneBehind_1_66_5 N N a2 (a3 + (1 : Int32)) D) := by
  rfl
def F_X7_humpInto_1_58_66_6 (N : Nat) (n6 : Nat) (v3 : Int32) (D : hy_M) : Option hy_M := b_X7_humpInto_6 N  n6 [some (.ref 1), some (.ref 58), some (.ref 66), some (.int v3)] [] D
def F_X7_humpInto_1_58_66 (N : Nat)  (D : hy_M) : Option hy_M := g_X7_humpInto N [.ref 1, .ref 58, .ref 66] D
set_option maxRecDepth 100000 in
theorem F_X7_humpInto_1_58_66_6_eq (N : Nat) (n6 : Nat) (v3 : Int32) (D : hy_M) : F_X7_humpInto_1_58_66_6 N (n6 + 1) v3 D = (if v3 < (D 1 0) then ((F_X7_laneBehind_1_66 N v3 (-1 : Int32) D).bind (fun q1 => ((F_X2_append N q1.1 v3 q1.2).bind (fun q2 => (F_X7_humpInto_1_58_66_6 N n6 (v3 + (1 : Int32)) q2))))) else (some D)) := by
  rfl
set_option maxRecDepth 100000 in
theorem F_X7_humpInto_1_58_66_eq (N : Nat)  (D : hy_M) : F_X7_humpInto_1_58_66 N D = ((F_X2_empty_58 N D).bind (fun q1 => (F_X7_humpInto_1_58_66_6 N N (0 : Int32) q1))) := by
  rfl
def F_X7_pullIn_1_58_66_18 (N : Nat) (n18 : Nat) (v2 : Int32) (v4 : Int32) (v5 : Int32) (D : hy_M) : Option (Int32 × hy_M) := b_X7_pullIn_18 N  n18 [some (.ref 1), some (.ref 58), some (.int v2), some (.ref 66), some (.int v4), some (.int v5), none] [] D
def F_X7_pullIn_1_58_66 (N : Nat) (a2 : Int32) (D : hy_M) : Option (Int32 × hy_M) := g_X7_pullIn N [.ref 1, .ref 58, .int a2, .ref 66] D
set_option maxRecDepth 100000 in
theorem F_X7_pullIn_1_58_66_18_eq (N : Nat) (n18 : Nat) (v2 : Int32) (v4 : Int32) (v5 : Int32) (D : hy_M) : F_X7_pullIn_1_58_66_18 N (n18 + 1) v2 v4 v5 D = (if v5 < v4 then (if hy_in v2 5 = true then (if hy_in v5 (hy_al (hy_pr 59 (v2).toNatClampNeg)) = true then ((F_X7_laneBehind_1_66 N (D (hy_pr 59 (v2).toNatClampNeg) (v5).toNatClampNeg) v2 D).bind (fun q1 => ((F_X2_append N q1.1 (D (hy_pr 59 (v2).toNatClampNeg) (v5).toNatClampNeg) q1.2).bind (fun q2 => (F_X7_pullIn_1_58_66_18 N n18 v2 v4 (v5 + (1 : Int32)) q2))))) else none) else none) else (some (v4, D))) := by
  rfl
set_option maxRecDepth 100000 in
theorem F_X7_pullIn_1_58_66_eq (N : Nat) (a2 : Int32) (D : hy_M) : F_X7_pullIn_1_58_66 N a2 D = (if hy_in a2 5 = true then (if hy_in a2 5 = true then (F_X7_pullIn_1_58_66_18 N N a2 (D 65 (a2).toNatClampNeg) (0 : Int32) (hy_w D 65 (a2).toNatClampNeg (0 : Int32))) else none) else none) := by
  rfl
def F_X7_runWhole_8 (N : Nat) (n8 : Nat) (v3 : Int32) (D : hy_M) : Option hy_M := b_X7_runWhole_8 N  n8 [some (.ref 1), some (.ref 58), some (.ref 66), some (.int v3)] [] D
def F_X7_runWhole (N : Nat)  (D : hy_M) : Option hy_M := g_X7_runWhole N [.ref 1, .ref 58, .ref 66] D
set_option maxRecDepth 100000 in
theorem F_X7_runWhole_8_eq (N : Nat) (n8 : Nat) (v3 : Int32) (D : hy_M) : F_X7_runWhole_8 N (n8 + 1) v3 D = (if v3 < (3 : Int32) then ((F_X7_pullIn_1_58_66 N v3 D).bind (fun q1 => (F_X7_runWhole_8 N n8 (v3 + (1 : Int32)) q1.2))) else (some D)) := by
  rfl
set_option maxRecDepth 100000 in
theorem F_X7_runWhole_eq (N : Nat)  (D : hy_M) : F_X7_runWhole N D = ((F_X7_humpInto_1_58_66 N D).bind (fun q1 => (F_X7_runWhole_8 N N (0 : Int32) q1))) := by
  rfl
def F_X8_tellsOut_35 (N : Nat) (n35 : Nat) (v1 : Int32) (v3 : Int32) (v4 : Int32) (v5 : Int32) (D : hy_M) : Option (Int32 × hy_M) := b_X8_tellsOut_35 N  n35 [some (.ref 0), some (.int v1), none, some (.int v3), some (.int v4), some (.int v5)] [] D
def F_X8_tellsOut (N : Nat) (a1 : Int32) (a2 : Int32) (D : hy_M) : Option (Int32 × hy_M) := g_X8_tellsOut N [.ref 0, .int a1, .int a2] D
set_option maxRecDepth 100000 in
theorem F_X8_tellsOut_35_eq (N : Nat) (n35 : Nat) (v1 : Int32) (v3 : Int32) (v4 : Int32) (v5 : Int32) (D : hy_M) : F_X8_tellsOut_35 N (n35 + 1) v1 v3 v4 v5 D = (if v5 < v4 then (if hy_in v1 4 = true then (if hy_in v5 (hy_al (hy_pr 42 (v1).toNatClampNeg)) = true then (if hy_in v3 5 = true then (if hy_in v5 (hy_al (hy_pr 59 (v3).toNatClampNeg)) = true then (if (D (hy_pr 42 (v1).toNatClampNeg) (v5).toNatClampNeg) = (D (hy_pr 59 (v3).toNatClampNeg) (v5).toNatClampNeg) then (F_X8_tellsOut_35 N n35 v1 v3 v4 (v5 + (1 : Int32)) D) else (some ((0 : Int32), D))) else none) else none) else none) else none) else (some ((1 : Int32), D))) := by
  rfl
set_option maxRecDepth 100000 in
theorem F_X8_tellsOut_eq (N : Nat) (a1 : Int32) (a2 : Int32) (D : hy_M) : F_X8_tellsOut N a1 a2 D = ((F_X2_outOf N a2 D).bind (fun q1 => (if hy_in q1.1 5 = true then (if hy_in a1 4 = true then (if (q1.2 47 (a1).toNatClampNeg) = (q1.2 65 (q1.1).toNatClampNeg) then (F_X8_tellsOut_35 N N a1 q1.1 (q1.2 65 (q1.1).toNatClampNeg) (0 : Int32) q1.2) else (some ((0 : Int32), q1.2))) else none) else none))) := by
  rfl
def F_X8_seen_65 (N : Nat) (n65 : Nat) (v1 : Int32) (v2 : Int32) (v3 : Int32) (v4 : Int32) (v5 : Int32) (D : hy_M) : Option (Int32 × hy_M) := b_X8_seen_65 N  n65 [some (.ref 0), some (.int v1), some (.int v2), some (.int v3), some (.int v4), some (.int v5)] [] D
def F_X8_seen (N : Nat) (a1 : Int32) (a2 : Int32) (a3 : Int32) (D : hy_M) : Option (Int32 × hy_M) := g_X8_seen N [.ref 0, .int a1, .int a2, .int a3] D
set_option maxRecDepth 100000 in
theorem F_X8_seen_65_eq (N : Nat) (n65 : Nat) (v1 : Int32) (v2 : Int32) (v3 : Int32) (v4 : Int32) (v5 : Int32) (D : hy_M) : F_X8_seen_65 N (n65 + 1) v1 v2 v3 v4 v5 D = (if v5 < (8 : Int32) then (if hy_in v1 8 = true then ((F_X7_runWhole N (hy_w D 66 (v1).toNatClampNeg v5)).bind (fun q1 => ((F_X8_tellsOut N v3 v2 q1).bind (fun q2 => (if q2.1 = 0 then (F_X8_seen_65 N n65 v1 v2 v3 v4 (v5 + (1 : Int32)) q2.2) else (F_X8_seen_65 N n65 v1 v2 v3 (v4 ||| ((1 : Int32) <<< (v5 &&& 31))) (v5 + (1 : Int32)) q2.2)))))) else none) else (some (v4, D))) := by
  rfl
set_option maxRecDepth 100000 in
theorem F_X8_seen_eq (N : Nat) (a1 : Int32) (a2 : Int32) (a3 : Int32) (D : hy_M) : F_X8_seen N a1 a2 a3 D = ((F_X7_hasWagon N a1 D).bind (fun q1 => (if q1.1 = 0 then (some ((-1 : Int32), q1.2)) else ((F_X8_isTrain N a2 q1.2).bind (fun q2 => (if q2.1 = 0 then (some ((-1 : Int32), q2.2)) else ((F_X3_isList N a3 q2.2).bind (fun q3 => (if q3.1 = 0 then (some ((-1 : Int32), q3.2)) else ((F_X3_holds N a3 q3.2).bind (fun q4 => (if q4.1 = 0 then (some ((-11 : Int32), q4.2)) else (F_X8_seen_65 N N a1 a2 a3 (0 : Int32) (0 : Int32) (hy_cp q4.2 3 66 0 0 8)))))))))))))) := by
  rfl
def F_X7_firstNotRight_1_66_2 (N : Nat) (n2 : Nat) (v2 : Int32) (D : hy_M) : Option (Int32 × hy_M) := b_X7_firstNotRight_2 N  n2 [some (.ref 1), some (.ref 66), some (.int v2), none, none, none, none] [] D
def F_X7_firstNotRight_1_66_9 (N : Nat) (n2 : Nat) (n9 : Nat) (v2 : Int32) (v3 : Int32) (D : hy_M) : Option (Int32 × hy_M) := b_X7_firstNotRight_9 N (b_X7_firstNotRight_2 N  n2) n9 [some (.ref 1), some (.ref 66), some (.int v2), some (.int v3), none, none, none] [] D
def F_X7_firstNotRight_1_66_79 (N : Nat) (n2 : Nat) (n9 : Nat) (v2 : Int32) (v3 : Int32) (v5 : Int32) (vs0 : Int32) (D : hy_M) : Option (Int32 × hy_M) := b_X7_firstNotRight_79 N (b_X7_firstNotRight_2 N  n2) (b_X7_firstNotRight_9 N (b_X7_firstNotRight_2 N  n2) n9) [some (.ref 1), some (.ref 66), some (.int v2), some (.int v3), none, some (.int v5), none] [.int vs0] D
def F_X7_firstNotRight_1_66 (N : Nat)  (D : hy_M) : Option (Int32 × hy_M) := g_X7_firstNotRight N [.ref 1, .ref 66] D
set_option maxRecDepth 100000 in
theorem F_X7_firstNotRight_1_66_2_eq (N : Nat) (n2 : Nat) (v2 : Int32) (D : hy_M) : F_X7_firstNotRight_1_66_2 N (n2 + 1) v2 D = (if v2 < (2 : Int32) then (F_X7_firstNotRight_1_66_9 N n2 N v2 (1 : Int32) D) else (some ((-1 : Int32), D))) := by
  rfl
set_option maxRecDepth 100000 in
theorem F_X7_firstNotRight_1_66_9_eq (N : Nat) (n2 : Nat) (n9 : Nat) (v2 : Int32) (v3 : Int32) (D : hy_M) : F_X7_firstNotRight_1_66_9 N n2 (n9 + 1) v2 v3 D = (if hy_in v2 2 = true then (if v3 < (D 9 (v2).toNatClampNeg) then ((F_X7_wantedAt N v2 (v3 - (1 : Int32)) D).bind (fun q1 => ((F_X7_wantedAt N v2 v3 q1.2).bind (fun q2 => (if q2.1 < q1.1 then (if hy_in q2.1 8 = true then (if hy_in q1.1 8 = true then (if (q2.2 66 (q1.1).toNatClampNeg) < (q2.2 66 (q2.1).toNatClampNeg) then (F_X7_firstNotRight_1_66_79 N n2 n9 v2 v3 q2.1 (1 : Int32) q2.2) else (F_X7_firstNotRight_1_66_79 N n2 n9 v2 v3 q2.1 (0 : Int32) q2.2)) else none) else none) else (if hy_in q2.1 8 = true then (if hy_in q1.1 8 = true then (if (q2.2 66 (q2.1).toNatClampNeg) < (q2.2 66 (q1.1).toNatClampNeg) then (F_X7_firstNotRight_1_66_79 N n2 n9 v2 v3 q2.1 (0 : Int32) q2.2) else (F_X7_firstNotRight_1_66_79 N n2 n9 v2 v3 q2.1 (1 : Int32) q2.2)) else none) else none)))))) else (F_X7_firstNotRight_1_66_2 N n2 (v2 + (1 : Int32)) D)) else none) := by
  rfl
set_option maxRecDepth 100000 in
theorem F_X7_firstNotRight_1_66_79_eq (N : Nat) (n2 : Nat) (n9 : Nat) (v2 : Int32) (v3 : Int32) (v5 : Int32) (vs0 : Int32) (D : hy_M) : F_X7_firstNotRight_1_66_79 N n2 n9 v2 v3 v5 vs0 D = (if vs0 = 0 then (some (v5, D)) else (F_X7_firstNotRight_1_66_9 N n2 n9 v2 (v3 + (1 : Int32)) D)) := by
  rfl
set_option maxRecDepth 100000 in
theorem F_X7_firstNotRight_1_66_eq (N : Nat)  (D : hy_M) : F_X7_firstNotRight_1_66 N D = (F_X7_firstNotRight_1_66_2 N N (0 : Int32) D) := by
  rfl
def F_X7_loadOf_1_66_5 (N : Nat) (n5 : Nat) (v2 : Int32) (v3 : Int32) (v4 : Int32) (D : hy_M) : Option (Int32 × hy_M) := b_X7_loadOf_5 N  n5 [some (.ref 1), some (.ref 66), some (.int v2), some (.int v3), some (.int v4)] [] D
def F_X7_loadOf_1_66 (N : Nat) (a2 : Int32) (D : hy_M) : Option (Int32 × hy_M) := g_X7_loadOf N [.ref 1, .ref 66, .int a2] D
set_option maxRecDepth 100000 in
theorem F_X7_loadOf_1_66_5_eq (N : Nat) (n5 : Nat) (v2 : Int32) (v3 : Int32) (v4 : Int32) (D : hy_M) : F_X7_loadOf_1_66_5 N (n5 + 1) v2 v3 v4 D = (if v4 < (D 1 0) then (if hy_in v4 8 = true then (if (((D 66 (v4).toNatClampNeg) >>> (v2 &&& 31)) &&& (1 : Int32)) = (1 : Int32) then (if hy_in v4 8 = true then (F_X7_loadOf_1_66_5 N n5 v2 (v3 + (D 2 (v4).toNatClampNeg)) (v4 + (1 : Int32)) D) else none) else (F_X7_loadOf_1_66_5 N n5 v2 v3 (v4 + (1 : Int32)) D)) else none) else (some (v3, D))) := by
  rfl
set_option maxRecDepth 100000 in
theorem F_X7_loadOf_1_66_eq (N : Nat) (a2 : Int32) (D : hy_M) : F_X7_loadOf_1_66 N a2 D = (F_X7_loadOf_1_66_5 N N a2 (0 : Int32) (0 : Int32) D) := by
  rfl
def F_X7_judgeCodes_1_66_2 (N : Nat) (n2 : Nat) (v2 : Int32) (v3 : Int32) (D : hy_M) : Option (Int32 × hy_M) := b_X7_judgeCodes_2 N  n2 [some (.ref 1), some (.ref 66), some (.int v2), some (.int v3), none] [] D
def F_X7_judgeCodes_1_66_69 (N : Nat) (n69 : Nat) (v4 : Int32) (D : hy_M) : Option (Int32 × hy_M) := b_X7_judgeCodes_69 N  n69 [some (.ref 1), some (.ref 66), none, none, some (.int v4)] [] D
def F_X7_judgeCodes_1_66 (N : Nat) (a2 : Int32) (D : hy_M) : Option (Int32 × hy_M) := g_X7_judgeCodes N [.ref 1, .ref 66, .int a2] D
set_option maxRecDepth 100000 in
theorem F_X7_judgeCodes_1_66_2_eq (N : Nat) (n2 : Nat) (v2 : Int32) (v3 : Int32) (D : hy_M) : F_X7_judgeCodes_1_66_2 N (n2 + 1) v2 v3 D = (if v3 < (D 1 0) then (if v3 < v2 then (if hy_in v3 8 = true then (if (D 66 (v3).toNatClampNeg) < 0 then (some (v3, D)) else (if hy_in v3 8 = true then (if (D 66 (v3).toNatClampNeg) < (8 : Int32) then (if hy_in v3 8 = true then ((F_X1_mayBe N (D 1 1) (D 66 (v3).toNatClampNeg) D).bind (fun q1 => (if q1.1 = 0 then (some (v3, q1.2)) else (F_X7_judgeCodes_1_66_2 N n2 v2 (v3 + (1 : Int32)) q1.2)))) else none) else (some (v3, D))) else none)) else none) else (some (v3, D))) else ((F_X7_firstNotRight_1_66 N D).bind (fun q1 => (if q1.1 = (-1 : Int32) then (F_X7_judgeCodes_1_66_69 N N (0 : Int32) q1.2) else (some (((100 : Int32) + q1.1), q1.2)))))) := by
  rfl
set_option maxRecDepth 100000 in
theorem F_X7_judgeCodes_1_66_69_eq (N : Nat) (n69 : Nat) (v4 : Int32) (D : hy_M) : F_X7_judgeCodes_1_66_69 N (n69 + 1) v4 D = (if v4 < (3 : Int32) then ((F_X7_loadOf_1_66 N v4 D).bind (fun q1 => (if hy_in v4 3 = true then (if (q1.2 10 (v4).toNatClampNeg) < q1.1 then (some (((200 : Int32) + v4), q1.2)) else (F_X7_judgeCodes_1_66_69 N n69 (v4 + (1 : Int32)) q1.2)) else none))) else (some ((-5 : Int32), D))) := by
  rfl
set_option maxRecDepth 100000 in
theorem F_X7_judgeCodes_1_66_eq (N : Nat) (a2 : Int32) (D : hy_M) : F_X7_judgeCodes_1_66 N a2 D = (F_X7_judgeCodes_1_66_2 N N a2 (0 : Int32) D) := by
  rfl
def F_X8_judge (N : Nat) (a1 : Int32) (D : hy_M) : Option (Int32 × hy_M) := g_X8_judge N [.ref 0, .int a1] D
set_option maxRecDepth 100000 in
theorem F_X8_judge_eq (N : Nat) (a1 : Int32) (D : hy_M) : F_X8_judge N a1 D = ((F_X3_isList N a1 D).bind (fun q1 => (if q1.1 = 0 then (some ((-1 : Int32), q1.2)) else ((F_X3_holds N a1 q1.2).bind (fun q2 => (if q2.1 = 0 then (some ((-11 : Int32), q2.2)) else (if hy_in a1 4 = true then (if hy_in a1 4 = true then (if hy_rng (0 : Int32) (if (q2.2 1 0) < (q2.2 47 (a1).toNatClampNeg) then (q2.2 1 0) else (q2.2 47 (a1).toNatClampNeg)) (hy_wl (hy_pr 42 (a1).toNatClampNeg)) = true ∧ hy_rng (0 : Int32) (if (q2.2 1 0) < (q2.2 47 (a1).toNatClampNeg) then (q2.2 1 0) else (q2.2 47 (a1).toNatClampNeg)) 8 = true then ((F_X7_judgeCodes_1_66 N (if (q2.2 1 0) < (q2.2 47 (a1).toNatClampNeg) then (q2.2 1 0) else (q2.2 47 (a1).toNatClampNeg)) (hy_cp q2.2 (hy_pr 42 (a1).toNatClampNeg) 66 0 0 ((if (q2.2 1 0) < (q2.2 47 (a1).toNatClampNeg) then (q2.2 1 0) else (q2.2 47 (a1).toNatClampNeg))).toNatClampNeg)).bind (fun q3 => (some (q3.1, q3.2)))) else none) else none) else none))))))) := by
  rfl
def F_X3_makeZeros_2 (N : Nat) (n2 : Nat) (v1 : Int32) (v2 : Int32) (v3 : Int32) (D : hy_M) : Option hy_M := b_X3_makeZeros_2 N  n2 [some (.ref 41), some (.int v1), some (.int v2), some (.int v3)] [] D
def F_X3_makeZeros (N : Nat) (a1 : Int32) (a2 : Int32) (D : hy_M) : Option hy_M := g_X3_makeZeros N [.ref 41, .int a1, .int a2] D
set_option maxRecDepth 100000 in
theorem F_X3_makeZeros_2_eq (N : Nat) (n2 : Nat) (v1 : Int32) (v2 : Int32) (v3 : Int32) (D : hy_M) : F_X3_makeZeros_2 N (n2 + 1) v1 v2 v3 D = (if v3 < v2 then (if hy_in v1 4 = true then (if hy_in v3 (hy_wl (hy_pr 42 (v1).toNatClampNeg)) = true then (F_X3_makeZeros_2 N n2 v1 v2 (v3 + (1 : Int32)) (hy_w D (hy_pr 42 (v1).toNatClampNeg) (v3).toNatClampNeg (0 : Int32))) else none) else none) else (if hy_in v1 4 = true then (some (hy_w D 47 (v1).toNatClampNeg v2)) else none)) := by
  rfl
set_option maxRecDepth 100000 in
theorem F_X3_makeZeros_eq (N : Nat) (a1 : Int32) (a2 : Int32) (D : hy_M) : F_X3_makeZeros N a1 a2 D = (F_X3_makeZeros_2 N N a1 a2 (0 : Int32) D) := by
  rfl
def F_X8_list (N : Nat) (a1 : Int32) (a2 : Int32) (D : hy_M) : Option (Int32 × hy_M) := g_X8_list N [.ref 0, .int a1, .int a2] D
set_option maxRecDepth 100000 in
theorem F_X8_list_eq (N : Nat) (a1 : Int32) (a2 : Int32) (D : hy_M) : F_X8_list N a1 a2 D = ((F_X3_isList N a1 D).bind (fun q1 => (if q1.1 = 0 then (some ((-1 : Int32), q1.2)) else (if (12 : Int32) < a2 then (some ((-2 : Int32), q1.2)) else (if a2 < 0 then (some ((-14 : Int32), q1.2)) else ((F_X3_makeZeros N a1 a2 q1.2).bind (fun q2 => (some ((1 : Int32), q2))))))))) := by
  rfl
def F_X3_hasPlace (N : Nat) (a1 : Int32) (a2 : Int32) (D : hy_M) : Option (Int32 × hy_M) := g_X3_hasPlace N [.ref 41, .int a1, .int a2] D
set_option maxRecDepth 100000 in
theorem F_X3_hasPlace_eq (N : Nat) (a1 : Int32) (a2 : Int32) (D : hy_M) : F_X3_hasPlace N a1 a2 D = (if a2 < 0 then (some ((0 : Int32), D)) else (if hy_in a1 4 = true then (if a2 < (D 47 (a1).toNatClampNeg) then (some ((1 : Int32), D)) else (some ((0 : Int32), D))) else none)) := by
  rfl
def F_X8_put (N : Nat) (a1 : Int32) (a2 : Int32) (a3 : Int32) (D : hy_M) : Option (Int32 × hy_M) := g_X8_put N [.ref 0, .int a1, .int a2, .int a3] D
set_option maxRecDepth 100000 in
theorem F_X8_put_eq (N : Nat) (a1 : Int32) (a2 : Int32) (a3 : Int32) (D : hy_M) : F_X8_put N a1 a2 a3 D = ((F_X3_isList N a1 D).bind (fun q1 => (if q1.1 = 0 then (some ((-1 : Int32), q1.2)) else ((F_X3_holds N a1 q1.2).bind (fun q2 => (if q2.1 = 0 then (some ((-11 : Int32), q2.2)) else ((F_X3_hasPlace N a1 a2 q2.2).bind (fun q3 => (if q3.1 = 0 then (some ((-13 : Int32), q3.2)) else (if hy_in a1 4 = true then (if hy_in a2 (hy_wl (hy_pr 42 (a1).toNatClampNeg)) = true then (some ((1 : Int32), (hy_w q3.2 (hy_pr 42 (a1).toNatClampNeg) (a2).toNatClampNeg a3))) else none) else none)))))))))) := by
  rfl
def F_X8_get (N : Nat) (a1 : Int32) (a2 : Int32) (D : hy_M) : Option (Int64 × hy_M) := g_X8_get N [.ref 0, .int a1, .int a2] D
set_option maxRecDepth 100000 in
theorem F_X8_get_eq (N : Nat) (a1 : Int32) (a2 : Int32) (D : hy_M) : F_X8_get N a1 a2 D = ((F_X3_isList N a1 D).bind (fun q1 => (if q1.1 = 0 then (some ((-9223372036854775808 : Int64), q1.2)) else ((F_X3_hasPlace N a1 a2 q1.2).bind (fun q2 => (if q2.1 = 0 then (some ((-9223372036854775808 : Int64), q2.2)) else (if hy_in a1 4 = true then (if hy_in a2 (hy_al (hy_pr 42 (a1).toNatClampNeg)) = true then (some (((q2.2 (hy_pr 42 (a1).toNatClampNeg) (a2).toNatClampNeg)).toInt64, q2.2)) else none) else none))))))) := by
  rfl
def F_X3_layRow_3 (N : Nat) (n3 : Nat) (v1 : Int32) (v2 : Int32) (r3 : Nat) (v4 : Int32) (v5 : Int32) (D : hy_M) : Option (Int32 × hy_M) := b_X3_layRow_3 N  n3 [some (.ref 41), some (.int v1), some (.int v2), some (.ref r3), some (.int v4), some (.int v5)] [] D
def F_X3_layRow_52 (N : Nat) (v4 : Int32) (v5 : Int32) (D : hy_M) : Option (Int32 × hy_M) := b_X3_layRow_52 N  [none, none, none, none, some (.int v4), some (.int v5)] [] D
def F_X3_layRow (N : Nat) (a1 : Int32) (a2 : Int32) (r3 : Nat) (a4 : Int32) (D : hy_M) : Option (Int32 × hy_M) := g_X3_layRow N [.ref 41, .int a1, .int a2, .ref r3, .int a4] D
set_option maxRecDepth 100000 in
theorem F_X3_layRow_3_eq (N : Nat) (n3 : Nat) (v1 : Int32) (v2 : Int32) (r3 : Nat) (v4 : Int32) (v5 : Int32) (D : hy_M) : F_X3_layRow_3 N (n3 + 1) v1 v2 r3 v4 v5 D = (if v5 < v4 then ((F_X3_hasPlace N v1 v2 D).bind (fun q1 => (if q1.1 = 0 then (F_X3_layRow_52 N v4 v5 q1.2) else ((F_X3_hasPlace N v1 (v2 + v5) q1.2).bind (fun q2 => (if q2.1 = 0 then (F_X3_layRow_52 N v4 v5 q2.2) else (if hy_in v1 4 = true then (if hy_in v5 (hy_al r3) = true then (if hy_in (v2 + v5) (hy_wl (hy_pr 42 (v1).toNatClampNeg)) = true then (F_X3_layRow_3 N n3 v1 v2 r3 v4 (v5 + (1 : Int32)) (hy_w q2.2 (hy_pr 42 (v1).toNatClampNeg) ((v2 + v5)).toNatClampNeg (q2.2 r3 (v5).toNatClampNeg))) else none) else none) else none))))))) else (F_X3_layRow_52 N v4 v5 D)) := by
  rfl
set_option maxRecDepth 100000 in
theorem F_X3_layRow_52_eq (N : Nat) (v4 : Int32) (v5 : Int32) (D : hy_M) : F_X3_layRow_52 N v4 v5 D = (if v5 = v4 then (some (v5, D)) else (some ((-13 : Int32), D))) := by
  rfl
set_option maxRecDepth 100000 in
theorem F_X3_layRow_eq (N : Nat) (a1 : Int32) (a2 : Int32) (r3 : Nat) (a4 : Int32) (D : hy_M) : F_X3_layRow N a1 a2 r3 a4 D = (F_X3_layRow_3 N N a1 a2 r3 a4 (0 : Int32) D) := by
  rfl
def F_X3_layRow_41_3_3 (N : Nat) (n3 : Nat) (v1 : Int32) (v2 : Int32) (v4 : Int32) (v5 : Int32) (D : hy_M) : Option (Int32 × hy_M) := b_X3_layRow_3 N  n3 [some (.ref 41), some (.int v1), some (.int v2), some (.ref 3), some (.int v4), some (.int v5)] [] D
def F_X3_layRow_41_3_52 (N : Nat) (v4 : Int32) (v5 : Int32) (D : hy_M) : Option (Int32 × hy_M) := b_X3_layRow_52 N  [none, none, none, none, some (.int v4), some (.int v5)] [] D
def F_X3_layRow_41_3 (N : Nat) (a1 : Int32) (a2 : Int32) (a4 : Int32) (D : hy_M) : Option (Int32 × hy_M) := g_X3_layRow N [.ref 41, .int a1, .int a2, .ref 3, .int a4] D
set_option maxRecDepth 100000 in
theorem F_X3_layRow_41_3_3_eq (N : Nat) (n3 : Nat) (v1 : Int32) (v2 : Int32) (v4 : Int32) (v5 : Int32) (D : hy_M) : F_X3_layRow_41_3_3 N (n3 + 1) v1 v2 v4 v5 D = (if v5 < v4 then ((F_X3_hasPlace N v1 v2 D).bind (fun q1 => (if q1.1 = 0 then (F_X3_layRow_41_3_52 N v4 v5 q1.2) else ((F_X3_hasPlace N v1 (v2 + v5) q1.2).bind (fun q2 => (if q2.1 = 0 then (F_X3_layRow_41_3_52 N v4 v5 q2.2) else (if hy_in v1 4 = true then (if hy_in v5 8 = true then (if hy_in (v2 + v5) (hy_wl (hy_pr 42 (v1).toNatClampNeg)) = true then (F_X3_layRow_41_3_3 N n3 v1 v2 v4 (v5 + (1 : Int32)) (hy_w q2.2 (hy_pr 42 (v1).toNatClampNeg) ((v2 + v5)).toNatClampNeg (q2.2 3 (v5).toNatClampNeg))) else none) else none) else none))))))) else (F_X3_layRow_41_3_52 N v4 v5 D)) := by
  rfl
set_option maxRecDepth 100000 in
theorem F_X3_layRow_41_3_52_eq (N : Nat) (v4 : Int32) (v5 : Int32) (D : hy_M) : F_X3_layRow_41_3_52 N v4 v5 D = (if v5 = v4 then (some (v5, D)) else (some ((-13 : Int32), D))) := by
  rfl
set_option maxRecDepth 100000 in
theorem F_X3_layRow_41_3_eq (N : Nat) (a1 : Int32) (a2 : Int32) (a4 : Int32) (D : hy_M) : F_X3_layRow_41_3 N a1 a2 a4 D = (F_X3_layRow_41_3_3 N N a1 a2 a4 (0 : Int32) D) := by
  rfl
