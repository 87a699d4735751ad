def F_X8_bind (N : Nat)  (D : hy_M) : Option (Int32 × hy_M) := g_X8_bind N [.ref 0] D
set_option maxRecDepth 100000 in
theorem F_X8_bind_eq (N : Nat)  (D : hy_M) : F_X8_bind N D = (if (D 1 2) = 0 then ((F_X0_findBest N D).bind (fun q1 => (if q1.1 = 0 then (some ((-5 : Int32), q1.2)) else (if hy_rng (0 : Int32) (q1.2 1 0) 8 = true ∧ hy_rng (0 : Int32) (q1.2 1 0) 8 = true then ((F_X7_rollsOf N (hy_cp q1.2 54 3 0 0 ((q1.2 1 0)).toNatClampNeg)).bind (fun q2 => (some (q2.1, q2.2)))) else none)))) else (some ((-3 : Int32), D))) := by
  rfl
def F_X8_partOfLowest_8 (N : Nat) (n8 : Nat) (v0 : Int32) (v1 : Int32) (v2 : Int32) (v3 : Int32) (v4 : Int32) (v5 : Int32) (D : hy_M) : Option (Int64 × hy_M) := b_X8_partOfLowest_8 N  n8 [some (.int v0), some (.int v1), some (.int v2), some (.int v3), some (.int v4), some (.int v5), none] [] D
def F_X8_partOfLowest_37 (N : Nat) (v0 : Int32) (v1 : Int32) (v2 : Int32) (v4 : Int32) (D : hy_M) : Option (Int64 × hy_M) := b_X8_partOfLowest_37 N  [some (.int v0), some (.int v1), some (.int v2), none, some (.int v4), none, none] [] D
def F_X8_partOfLowest (N : Nat) (a0 : Int32) (a1 : Int32) (a2 : Int32) (D : hy_M) : Option (Int64 × hy_M) := g_X8_partOfLowest N [.int a0, .int a1, .int a2] D
set_option maxRecDepth 100000 in
theorem F_X8_partOfLowest_8_eq (N : Nat) (n8 : Nat) (v0 : Int32) (v1 : Int32) (v2 : Int32) (v3 : Int32) (v4 : Int32) (v5 : Int32) (D : hy_M) : F_X8_partOfLowest_8 N (n8 + 1) v0 v1 v2 v3 v4 v5 D = (if v5 < (100 : Int32) then (if v3 = 0 then (F_X8_partOfLowest_37 N v0 v1 v2 v4 D) else (if v3 = 0 then none else (F_X8_partOfLowest_8 N n8 v0 v1 v2 (v4 - v4 / v3 * v3) v3 (v5 + (1 : Int32)) D))) else (F_X8_partOfLowest_37 N v0 v1 v2 v4 D)) := by
  rfl
set_option maxRecDepth 100000 in
theorem F_X8_partOfLowest_37_eq (N : Nat) (v0 : Int32) (v1 : Int32) (v2 : Int32) (v4 : Int32) (D : hy_M) : F_X8_partOfLowest_37 N v0 v1 v2 v4 D = (if v4 < (1 : Int32) then (some ((-9223372036854775808 : Int64), D)) else (if v2 < 0 then (some ((-9223372036854775808 : Int64), D)) else (if (1 : Int32) < v2 then (some ((-9223372036854775808 : Int64), D)) else (if v2 = 0 then (if v4 = 0 then none else (some (((v0 / v4)).toInt64, D))) else (if v4 = 0 then none else (some (((v1 / v4)).toInt64, D))))))) := by
  rfl
set_option maxRecDepth 100000 in
theorem F_X8_partOfLowest_eq (N : Nat) (a0 : Int32) (a1 : Int32) (a2 : Int32) (D : hy_M) : F_X8_partOfLowest N a0 a1 a2 D = (F_X8_partOfLowest_8 N N a0 a1 a2 a0 a1 (0 : Int32) D) := by
  rfl
def F_X8_mean (N : Nat) (a1 : Int32) (D : hy_M) : Option (Int64 × hy_M) := g_X8_mean N [.ref 0, .int a1] D
set_option maxRecDepth 100000 in
theorem F_X8_mean_eq (N : Nat) (a1 : Int32) (D : hy_M) : F_X8_mean N a1 D = (if (D 1 0) = 0 then (some ((-9223372036854775808 : Int64), D)) else ((F_X7_rollsOf N D).bind (fun q1 => ((F_X8_partOfLowest N q1.1 (q1.2 1 0) a1 q1.2).bind (fun q2 => (some (q2.1, q2.2))))))) := by
  rfl
def F_X2_empty_58_2 (N : Nat) (n2 : Nat) (v1 : Int32) (D : hy_M) : Option hy_M := b_X2_empty_2 N  n2 [some (.ref 58), some (.int v1)] [] D
def F_X2_empty_58 (N : Nat)  (D : hy_M) : Option hy_M := g_X2_empty N [.ref 58] D
set_option maxRecDepth 100000 in
theorem F_X2_empty_58_2_eq (N : Nat) (n2 : Nat) (v1 : Int32) (D : hy_M) : F_X2_empty_58_2 N (n2 + 1) v1 D = (if v1 < (5 : Int32) then (if hy_in v1 5 = true then (F_X2_empty_58_2 N n2 (v1 + (1 : Int32)) (hy_w D 65 (v1).toNatClampNeg (0 : Int32))) else none) else (some D)) := by
  rfl
set_option maxRecDepth 100000 in
theorem F_X2_empty_58_eq (N : Nat)  (D : hy_M) : F_X2_empty_58 N D = (F_X2_empty_58_2 N N (0 : Int32) D) := by
  rfl
def F_X2_outOf (N : Nat) (a0 : Int32) (D : hy_M) : Option (Int32 × hy_M) := g_X2_outOf N [.int a0] D
set_option maxRecDepth 100000 in
theorem F_X2_outOf_eq (N : Nat) (a0 : Int32) (D : hy_M) : F_X2_outOf N a0 D = (some (((3 : Int32) + a0), D)) := by
  rfl
def F_X7_laneBehind_5 (N : Nat) (n5 : Nat) (v2 : Int32) (v4 : Int32) (D : hy_M) : Option (Int32 × hy_M) := b_X7_laneBehind_5 N  n5 [some (.ref 1), some (.ref 3), some (.int v2), none, some (.int v4)] [] D
def F_X7_laneBehind (N : Nat) (a2 : Int32) (a3 : Int32) (D : hy_M) : Option (Int32 × hy_M) := g_X7_laneBehind N [.ref 1, .ref 3, .int a2, .int a3] D
set_option maxRecDepth 100000 in
theorem F_X7_laneBehind_5_eq (N : Nat) (n5 : Nat) (v2 : Int32) (v4 : Int32) (D : hy_M) : F_X7_laneBehind_5 N (n5 + 1) v2 v4 D = (if v4 < (3 : Int32) then (if hy_in v2 8 = true then (if (((D 3 (v2).toNatClampNeg) >>> (v4 &&& 31)) &&& (1 : Int32)) = (1 : Int32) then (some (v4, D)) else (F_X7_laneBehind_5 N n5 v2 (v4 + (1 : Int32)) D)) else none) else (if hy_in v2 8 = true then ((F_X2_outOf N (D 4 (v2).toNatClampNeg) D).bind (fun q1 => (some (q1.1, q1.2)))) else none)) := by
  rfl
set_option maxRecDepth 100000 in
theorem F_X7_laneBehind_eq (N : Nat) (a2 : Int32) (a3 : Int32) (D : hy_M) : F_X7_laneBehind N a2 a3 D = (F_X7_laneBehind_5 N N a2 (a3 + (1 : Int32)) D) := by
  rfl
def F_X2_append (N : Nat) (a1 : Int32) (a2 : Int32) (D : hy_M) : Option hy_M := g_X2_append N [.ref 58, .int a1, .int a2] D
set_option maxRecDepth 100000 in
theorem F_X2_append_eq (N : Nat) (a1 : Int32) (a2 : Int32) (D : hy_M) : F_X2_append N a1 a2 D = (if a1 < 0 then (some D) else (if a1 < (5 : Int32) then (if hy_in a1 5 = true then (if (D 65 (a1).toNatClampNeg) < (8 : Int32) then (if hy_in a1 5 = true then (if hy_in a1 5 = true then (if hy_in (D 65 (a1).toNatClampNeg) (hy_wl (hy_pr 59 (a1).toNatClampNeg)) = true then (if hy_in a1 5 = true then (if hy_in a1 5 = true then (some (hy_w (hy_w D (hy_pr 59 (a1).toNatClampNeg) ((D 65 (a1).toNatClampNeg)).toNatClampNeg a2) 65 (a1).toNatClampNeg (((hy_w D (hy_pr 59 (a1).toNatClampNeg) ((D 65 (a1).toNatClampNeg)).toNatClampNeg a2) 65 (a1).toNatClampNeg) + (1 : Int32)))) else none) else none) else none) else none) else none) else (some D)) else none) else (some D))) := by
  rfl
def F_X7_humpInto_6 (N : Nat) (n6 : Nat) (v3 : Int32) (D : hy_M) : Option hy_M := b_X7_humpInto_6 N  n6 [some (.ref 1), some (.ref 58), some (.ref 3), some (.int v3)] [] D
def F_X7_humpInto (N : Nat)  (D : hy_M) : Option hy_M := g_X7_humpInto N [.ref 1, .ref 58, .ref 3] D
set_option maxRecDepth 100000 in
theorem F_X7_humpInto_6_eq (N : Nat) (n6 : Nat) (v3 : Int32) (D : hy_M) : F_X7_humpInto_6 N (n6 + 1) v3 D = (if v3 < (D 1 0) then ((F_X7_laneBehind N v3 (-1 : Int32) D).bind (fun q1 => ((F_X2_append N q1.1 v3 q1.2).bind (fun q2 => (F_X7_humpInto_6 N n6 (v3 + (1 : Int32)) q2))))) else (some D)) := by
  rfl
set_option maxRecDepth 100000 in
theorem F_X7_humpInto_eq (N : Nat)  (D : hy_M) : F_X7_humpInto N D = ((F_X2_empty_58 N D).bind (fun q1 => (F_X7_humpInto_6 N N (0 : Int32) q1))) := by
  rfl
def F_X7_lengthsOn_1_58_5 (N : Nat) (n5 : Nat) (v2 : Int32) (v3 : Int32) (v4 : Int32) (D : hy_M) : Option (Int32 × hy_M) := b_X7_lengthsOn_5 N  n5 [some (.ref 1), some (.ref 58), some (.int v2), some (.int v3), some (.int v4)] [] D
def F_X7_lengthsOn_1_58 (N : Nat) (a2 : Int32) (D : hy_M) : Option (Int32 × hy_M) := g_X7_lengthsOn N [.ref 1, .ref 58, .int a2] D
set_option maxRecDepth 100000 in
theorem F_X7_lengthsOn_1_58_5_eq (N : Nat) (n5 : Nat) (v2 : Int32) (v3 : Int32) (v4 : Int32) (D : hy_M) : F_X7_lengthsOn_1_58_5 N (n5 + 1) v2 v3 v4 D = (if hy_in v2 5 = true then (if v4 < (D 65 (v2).toNatClampNeg) then (if hy_in v2 5 = true then (if hy_in v4 (hy_al (hy_pr 59 (v2).toNatClampNeg)) = true then (if hy_in (D (hy_pr 59 (v2).toNatClampNeg) (v4).toNatClampNeg) 8 = true then (F_X7_lengthsOn_1_58_5 N n5 v2 (v3 + (D 2 ((D (hy_pr 59 (v2).toNatClampNeg) (v4).toNatClampNeg)).toNatClampNeg)) (v4 + (1 : Int32)) D) else none) else none) else none) else (some (v3, D))) else none) := by
  rfl
set_option maxRecDepth 100000 in
theorem F_X7_lengthsOn_1_58_eq (N : Nat) (a2 : Int32) (D : hy_M) : F_X7_lengthsOn_1_58 N a2 D = (F_X7_lengthsOn_1_58_5 N N a2 (0 : Int32) (0 : Int32) D) := by
  rfl
def F_X7_isOverfull_2 (N : Nat) (n2 : Nat) (v2 : Int32) (D : hy_M) : Option (Int32 × hy_M) := b_X7_isOverfull_2 N  n2 [some (.ref 1), some (.ref 58), some (.int v2)] [] D
def F_X7_isOverfull (N : Nat)  (D : hy_M) : Option (Int32 × hy_M) := g_X7_isOverfull N [.ref 1, .ref 58] D
set_option maxRecDepth 100000 in
theorem F_X7_isOverfull_2_eq (N : Nat) (n2 : Nat) (v2 : Int32) (D : hy_M) : F_X7_isOverfull_2 N (n2 + 1) v2 D = (if v2 < (3 : Int32) then ((F_X7_lengthsOn_1_58 N v2 D).bind (fun q1 => (if hy_in v2 3 = true then (if (q1.2 10 (v2).toNatClampNeg) < q1.1 then (some ((1 : Int32), q1.2)) else (F_X7_isOverfull_2 N n2 (v2 + (1 : Int32)) q1.2)) else none))) else (some ((0 : Int32), D))) := by
  rfl
set_option maxRecDepth 100000 in
theorem F_X7_isOverfull_eq (N : Nat)  (D : hy_M) : F_X7_isOverfull N D = (F_X7_isOverfull_2 N N (0 : Int32) D) := by
  rfl
def F_X2_become_2 (N : Nat) (n2 : Nat) (v2 : Int32) (D : hy_M) : Option hy_M := b_X2_become_2 N  n2 [some (.ref 11), some (.ref 58), some (.int v2)] [] D
def F_X2_become (N : Nat)  (D : hy_M) : Option hy_M := g_X2_become N [.ref 11, .ref 58] D
set_option maxRecDepth 100000 in
theorem F_X2_become_2_eq (N : Nat) (n2 : Nat) (v2 : Int32) (D : hy_M) : F_X2_become_2 N (n2 + 1) v2 D = (if v2 < (5 : Int32) then (if hy_in v2 5 = true then (if hy_in v2 5 = true then (if hy_in v2 5 = true then (if hy_in v2 5 = true then (if hy_in v2 5 = true then (if hy_rng (0 : Int32) ((hy_w D 18 (v2).toNatClampNeg (D 65 (v2).toNatClampNeg)) 18 (v2).toNatClampNeg) (hy_wl (hy_pr 59 (v2).toNatClampNeg)) = true ∧ hy_rng (0 : Int32) ((hy_w D 18 (v2).toNatClampNeg (D 65 (v2).toNatClampNeg)) 18 (v2).toNatClampNeg) (hy_wl (hy_pr 12 (v2).toNatClampNeg)) = true then (F_X2_become_2 N n2 (v2 + (1 : Int32)) (hy_cp (hy_w D 18 (v2).toNatClampNeg (D 65 (v2).toNatClampNeg)) (hy_pr 59 (v2).toNatClampNeg) (hy_pr 12 (v2).toNatClampNeg) 0 0 (((hy_w D 18 (v2).toNatClampNeg (D 65 (v2).toNatClampNeg)) 18 (v2).toNatClampNeg)).toNatClampNeg)) else none) else none) else none) else none) else none) else none) else (some D)) := by
  rfl
set_option maxRecDepth 100000 in
theorem F_X2_become_eq (N : Nat)  (D : hy_M) : F_X2_become N D = (F_X2_become_2 N N (0 : Int32) D) := by
  rfl
def F_X2_countOut (N : Nat)  (D : hy_M) : Option (Int32 × hy_M) := g_X2_countOut N [.ref 11] D
set_option maxRecDepth 100000 in
theorem F_X2_countOut_eq (N : Nat)  (D : hy_M) : F_X2_countOut N D = ((F_X2_outOf N (0 : Int32) D).bind (fun q1 => (if hy_in q1.1 5 = true then ((F_X2_outOf N (1 : Int32) q1.2).bind (fun q2 => (if hy_in q2.1 5 = true then (some (((q1.2 18 (q1.1).toNatClampNeg) + (q2.2 18 (q2.1).toNatClampNeg)), q2.2)) else none))) else none))) := by
  rfl
def F_X8_hump (N : Nat)  (D : hy_M) : Option (Int32 × hy_M) := g_X8_hump N [.ref 0] D
set_option maxRecDepth 100000 in
theorem F_X8_hump_eq (N : Nat)  (D : hy_M) : F_X8_hump N D = (if (D 1 2) = 0 then ((F_X7_humpInto N D).bind (fun q1 => ((F_X7_isOverfull N q1).bind (fun q2 => (if q2.1 = 0 then ((F_X2_become N q2.2).bind (fun q3 => ((F_X2_countOut N (hy_w (hy_w q3 1 2 (1 : Int32)) 1 3 (0 : Int32))).bind (fun q4 => (some (q4.1, q4.2)))))) else (some ((-4 : Int32), q2.2))))))) else (some ((-3 : Int32), D))) := by
  rfl
def F_X2_become_58_11_2 (N : Nat) (n2 : Nat) (v2 : Int32) (D : hy_M) : Option hy_M := b_X2_become_2 N  n2 [some (.ref 58), some (.ref 11), some (.int v2)] [] D
def F_X2_become_58_11 (N : Nat)  (D : hy_M) : Option hy_M := g_X2_become N [.ref 58, .ref 11] D
set_option maxRecDepth 100000 in
theorem F_X2_become_58_11_2_eq (N : Nat) (n2 : Nat) (v2 : Int32) (D : hy_M) : F_X2_become_58_11_2 N (n2 + 1) v2 D = (if v2 < (5 : Int32) then (if hy_in v2 5 = true then (if hy_in v2 5 = true then (if hy_in v2 5 = true then (if hy_in v2 5 = true then (if hy_in v2 5 = true then (if hy_rng (0 : Int32) ((hy_w D 65 (v2).toNatClampNeg (D 18 (v2).toNatClampNeg)) 65 (v2).toNatClampNeg) (hy_wl (hy_pr 12 (v2).toNatClampNeg)) = true ∧ hy_rng (0 : Int32) ((hy_w D 65 (v2).toNatClampNeg (D 18 (v2).toNatClampNeg)) 65 (v2).toNatClampNeg) (hy_wl (hy_pr 59 (v2).toNatClampNeg)) = true then (F_X2_become_58_11_2 N n2 (v2 + (1 : Int32)) (hy_cp (hy_w D 65 (v2).toNatClampNeg (D 18 (v2).toNatClampNeg)) (hy_pr 12 (v2).toNatClampNeg) (hy_pr 59 (v2).toNatClampNeg) 0 0 (((hy_w D 65 (v2).toNatClampNeg (D 18 (v2).toNatClampNeg)) 65 (v2).toNatClampNeg)).toNatClampNeg)) else none) else none) else none) else none) else none) else none) else (some D)) := by
  rfl
set_option maxRecDepth 100000 in
theorem F_X2_become_58_11_eq (N : Nat)  (D : hy_M) : F_X2_become_58_11 N D = (F_X2_become_58_11_2 N N (0 : Int32) D) := by
  rfl
def F_X7_pullIn_18 (N : Nat) (n18 : Nat) (v2 : Int32) (v4 : Int32) (v5 : Int32) (D : hy_M) : Option (Int32 × hy_M) := b_X7_pullIn_18 N  n18 [some (.ref 1), some (.ref 58), some (.int v2), some (.ref 3), some (.int v4), some (.int v5), none] [] D
def F_X7_pullIn (N : Nat) (a2 : Int32) (D : hy_M) : Option (Int32 × hy_M) := g_X7_pullIn N [.ref 1, .ref 58, .int a2, .ref 3] D
set_option maxRecDepth 100000 in
theorem F_X7_pullIn_18_eq (N : Nat) (n18 : Nat) (v2 : Int32) (v4 : Int32) (v5 : Int32) (D : hy_M) : F_X7_pullIn_18 N (n18 + 1) v2 v4 v5 D = (if v5 < v4 then (if hy_in v2 5 = true then (if hy_in v5 (hy_al (hy_pr 59 (v2).toNatClampNeg)) = true then ((F_X7_laneBehind N (D (hy_pr 59 (v2).toNatClampNeg) (v5).toNatClampNeg) v2 D).bind (fun q1 => ((F_X2_append N q1.1 (D (hy_pr 59 (v2).toNatClampNeg) (v5).toNatClampNeg) q1.2).bind (fun q2 => (F_X7_pullIn_18 N n18 v2 v4 (v5 + (1 : Int32)) q2))))) else none) else none) else (some (v4, D))) := by
  rfl
set_option maxRecDepth 100000 in
theorem F_X7_pullIn_eq (N : Nat) (a2 : Int32) (D : hy_M) : F_X7_pullIn N a2 D = (if hy_in a2 5 = true then (if hy_in a2 5 = true then (F_X7_pullIn_18 N N a2 (D 65 (a2).toNatClampNeg) (0 : Int32) (hy_w D 65 (a2).toNatClampNeg (0 : Int32))) else none) else none) := by
  rfl
def F_X8_pull (N : Nat) (a1 : Int32) (D : hy_M) : Option (Int32 × hy_M) := g_X8_pull N [.ref 0, .int a1] D
set_option maxRecDepth 100000 in
theorem F_X8_pull_eq (N : Nat) (a1 : Int32) (D : hy_M) : F_X8_pull N a1 D = ((F_X8_isTrack N a1 D).bind (fun q1 => (if q1.1 = 0 then (some ((-1 : Int32), q1.2)) else (if (q1.2 1 2) = 0 then (some ((-3 : Int32), q1.2)) else ((F_X2_become_58_11 N q1.2).bind (fun q2 => ((F_X7_pullIn N a1 q2).bind (fun q3 => ((F_X7_isOverfull N q3.2).bind (fun q4 => (if q4.1 = 0 then ((F_X2_become N q4.2).bind (fun q5 => (some (q3.1, (hy_w q5 1 3 ((q5 1 3) + (1 : Int32))))))) else (some ((-4 : Int32), q4.2))))))))))))) := by
  rfl
def F_X8_clear (N : Nat)  (D : hy_M) : Option (Int32 × hy_M) := g_X8_clear N [.ref 0] D
set_option maxRecDepth 100000 in
theorem F_X8_clear_eq (N : Nat)  (D : hy_M) : F_X8_clear N D = ((F_X2_countOut N D).bind (fun q1 => ((F_X7_becomeCleared N q1.2).bind (fun q2 => (some (q1.1, q2)))))) := by
  rfl
def F_X8_out (N : Nat) (a1 : Int32) (a2 : Int32) (D : hy_M) : Option (Int32 × hy_M) := g_X8_out N [.ref 0, .int a1, .int a2] D
set_option maxRecDepth 100000 in
theorem F_X8_out_eq (N : Nat) (a1 : Int32) (a2 : Int32) (D : hy_M) : F_X8_out N a1 a2 D = ((F_X8_isTrain N a1 D).bind (fun q1 => (if q1.1 = 0 then (some ((-1 : Int32), q1.2)) else ((F_X2_outOf N a1 q1.2).bind (fun q2 => (if a2 = (-1 : Int32) then (if hy_in q2.1 5 = true then (some ((q2.2 18 (q2.1).toNatClampNeg), q2.2)) else none) else ((F_X2_wagonAt N q2.1 a2 q2.2).bind (fun q3 => (some (q3.1, q3.2)))))))))) := by
  rfl
def F_X7_firstWrong_8 (N : Nat) (n8 : Nat) (v2 : Int32) (v3 : Int32) (v4 : Int32) (D : hy_M) : Option (Int32 × hy_M) := b_X7_firstWrong_8 N  n8 [some (.ref 1), some (.ref 11), some (.int v2), some (.int v3), some (.int v4)] [] D
def F_X7_firstWrong (N : Nat) (a2 : Int32) (D : hy_M) : Option (Int32 × hy_M) := g_X7_firstWrong N [.ref 1, .ref 11, .int a2] D
set_option maxRecDepth 100000 in
theorem F_X7_firstWrong_8_eq (N : Nat) (n8 : Nat) (v2 : Int32) (v3 : Int32) (v4 : Int32) (D : hy_M) : F_X7_firstWrong_8 N (n8 + 1) v2 v3 v4 D = (if hy_in v3 5 = true then (if v4 < (D 18 (v3).toNatClampNeg) then (if hy_in v3 5 = true then (if hy_in v4 (hy_al (hy_pr 12 (v3).toNatClampNeg)) = true then ((F_X7_wantedAt N v2 v4 D).bind (fun q1 => (if (D (hy_pr 12 (v3).toNatClampNeg) (v4).toNatClampNeg) = q1.1 then (F_X7_firstWrong_8 N n8 v2 v3 (v4 + (1 : Int32)) q1.2) else (some (v4, q1.2))))) else none) else none) else (some ((-1 : Int32), D))) else none) := by
  rfl
set_option maxRecDepth 100000 in
theorem F_X7_firstWrong_eq (N : Nat) (a2 : Int32) (D : hy_M) : F_X7_firstWrong N a2 D = ((F_X2_outOf N a2 D).bind (fun q1 => (F_X7_firstWrong_8 N N a2 q1.1 (0 : Int32) q1.2))) := by
  rfl
def F_X8_wrong (N : Nat) (a1 : Int32) (D : hy_M) : Option (Int32 × hy_M) := g_X8_wrong N [.ref 0, .int a1] D
set_option maxRecDepth 100000 in
theorem F_X8_wrong_eq (N : Nat) (a1 : Int32) (D : hy_M) : F_X8_wrong N a1 D = ((F_X8_isTrain N a1 D).bind (fun q1 => (if q1.1 = 0 then (some ((-2 : Int32), q1.2)) else ((F_X7_firstWrong N a1 q1.2).bind (fun q2 => (some (q2.1, q2.2))))))) := by
  rfl
def F_X7_firstWrong_1_58_8 (N : Nat) (n8 : Nat) (v2 : Int32) (v3 : Int32) (v4 : Int32) (D : hy_M) : Option (Int32 × hy_M) := b_X7_firstWrong_8 N  n8 [some (.ref 1), some (.ref 58), some (.int v2), some (.int v3), some (.int v4)] [] D
def F_X7_firstWrong_1_58 (N : Nat) (a2 : Int32) (D : hy_M) : Option (Int32 × hy_M) := g_X7_firstWrong N [.ref 1, .ref 58, .int a2] D
set_option maxRecDepth 100000 in
theorem F_X7_firstWrong_1_58_8_eq (N : Nat) (n8 : Nat) (v2 : Int32) (v3 : Int32) (v4 : Int32) (D : hy_M) : F_X7_firstWrong_1_58_8 N (n8 + 1) v2 v3 v4 D = (if hy_in v3 5 = true then (if v4 < (D 65 (v3).toNatClampNeg) then (if hy_in v3 5 = true then (if hy_in v4 (hy_al (hy_pr 59 (v3).toNatClampNeg)) = true then ((F_X7_wantedAt N v2 v4 D).bind (fun q1 => (if (D (hy_pr 59 (v3).toNatClampNeg) (v4).toNatClampNeg) = q1.1 then (F_X7_firstWrong_1_58_8 N n8 v2 v3 (v4 + (1 : Int32)) q1.2) else (some (v4, q1.2))))) else none) else none) else (some ((-1 : Int32), D))) else none) := by
  rfl
set_option maxRecDepth 100000 in
theorem F_X7_firstWrong_1_58_eq (N : Nat) (a2 : Int32) (D : hy_M) : F_X7_firstWrong_1_58 N a2 D = ((F_X2_outOf N a2 D).bind (fun q1 => (F_X7_firstWrong_1_58_8 N N a2 q1.1 (0 : Int32) q1.2))) := by
  rfl
def F_X8_wrongInThought (N : Nat) (a1 : Int32) (D : hy_M) : Option (Int32 × hy_M) := g_X8_wrongInThought N [.ref 0, .int a1] D
set_option maxRecDepth 100000 in
theorem F_X8_wrongInThought_eq (N : Nat) (a1 : Int32) (D : hy_M) : F_X8_wrongInThought N a1 D = ((F_X7_firstWrong_1_58 N a1 D).bind (fun q1 => (if q1.1 = (-1 : Int32) then (some ((-5 : Int32), q1.2)) else (some (q1.1, q1.2))))) := by
  rfl
def F_X2_tracksInUse_4 (N : Nat) (n4 : Nat) (v1 : Int32) (v2 : Int32) (D : hy_M) : Option (Int32 × hy_M) := b_X2_tracksInUse_4 N  n4 [some (.ref 58), some (.int v1), some (.int v2)] [] D
def F_X2_tracksInUse (N : Nat)  (D : hy_M) : Option (Int32 × hy_M) := g_X2_tracksInUse N [.ref 58] D
set_option maxRecDepth 100000 in
theorem F_X2_tracksInUse_4_eq (N : Nat) (n4 : Nat) (v1 : Int32) (v2 : Int32) (D : hy_M) : F_X2_tracksInUse_4 N (n4 + 1) v1 v2 D = (if v2 < (3 : Int32) then (if hy_in v2 5 = true then (if 0 < (D 65 (v2).toNatClampNeg) then (F_X2_tracksInUse_4 N n4 (v1 ||| ((1 : Int32) <<< (v2 &&& 31))) (v2 + (1 : Int32)) D) else (F_X2_tracksInUse_4 N n4 v1 (v2 + (1 : Int32)) D)) else none) else (some (v1, D))) := by
  rfl
set_option maxRecDepth 100000 in
theorem F_X2_tracksInUse_eq (N : Nat)  (D : hy_M) : F_X2_tracksInUse N D = (F_X2_tracksInUse_4 N N (0 : Int32) (0 : Int32) D) := by
  rfl
def F_X2_countOut_58 (N : Nat)  (D : hy_M) : Option (Int32 × hy_M) := g_X2_countOut N [.ref 58] D
set_option maxRecDepth 100000 in
theorem F_X2_countOut_58_eq (N : Nat)  (D : hy_M) : F_X2_countOut_58 N D = ((F_X2_outOf N (0 : Int32) D).bind (fun q1 => (if hy_in q1.1 5 = true then ((F_X2_outOf N (1 : Int32) q1.2).bind (fun q2 => (if hy_in q2.1 5 = true then (some (((q1.2 65 (q1.1).toNatClampNeg) + (q2.2 65 (q2.1).toNatClampNeg)), q2.2)) else none))) else none))) := by
  rfl
def F_X8_replayed_38 (N : Nat) (v1 : Int32) (vs0 : Int32) (D : hy_M) : Option (Int32 × hy_M) := b_X8_replayed_38 N  [some (.ref 0), some (.int v1), none, none, none] [.int vs0] D
def F_X8_replayed_44 (N : Nat) (n44 : Nat) (v1 : Int32) (v2 : Int32) (v3 : Int32) (v4 : Int32) (D : hy_M) : Option (Int32 × hy_M) := b_X8_replayed_44 N  n44 [some (.ref 0), some (.int v1), some (.int v2), some (.int v3), some (.int v4)] [] D
def F_X8_replayed (N : Nat) (a1 : Int32) (D : hy_M) : Option (Int32 × hy_M) := g_X8_replayed N [.ref 0, .int a1] D
set_option maxRecDepth 100000 in
theorem F_X8_replayed_38_eq (N : Nat) (v1 : Int32) (vs0 : Int32) (D : hy_M) : F_X8_replayed_38 N v1 vs0 D = (F_X8_replayed_44 N N v1 vs0 (0 : Int32) (0 : Int32) D) := by
  rfl
set_option maxRecDepth 100000 in
theorem F_X8_replayed_44_eq (N : Nat) (n44 : Nat) (v1 : Int32) (v2 : Int32) (v3 : Int32) (v4 : Int32) (D : hy_M) : F_X8_replayed_44 N (n44 + 1) v1 v2 v3 v4 D = (if v4 < (D 37 1) then ((F_X6_figureAt N v4 D).bind (fun q1 => ((F_X7_pullIn N q1.1 q1.2).bind (fun q2 => (if v2 = (-5 : Int32) then ((F_X7_isOverfull N q2.2).bind (fun q3 => (if q3.1 = 0 then (F_X8_replayed_44 N n44 v1 v2 (v3 + q2.1) (v4 + (1 : Int32)) q3.2) else (F_X8_replayed_44 N n44 v1 (v4 + (1 : Int32)) (v3 + q2.1) (v4 + (1 : Int32)) q3.2)))) else (F_X8_replayed_44 N n44 v1 v2 (v3 + q2.1) (v4 + (1 : Int32)) q2.2)))))) else (if v1 = 0 then ((F_X2_countOut_58 N D).bind (fun q4 => (some (q4.1, q4.2)))) else (if v1 = 1 then (some (v2, D)) else (if v1 = 2 then ((F_X2_tracksInUse N D).bind (fun q3 => (some (q3.1, q3.2)))) else (if v1 = 3 then ((F_X8_wrongInThought N (0 : Int32) D).bind (fun q2 => (some (q2.1, q2.2)))) else (if v1 = 4 then ((F_X8_wrongInThought N (1 : Int32) D).bind (fun q1 => (some (q1.1, q1.2)))) else (some (v3, D)))))))) := by
  rfl
set_option maxRecDepth 100000 in
theorem F_X8_replayed_eq (N : Nat) (a1 : Int32) (D : hy_M) : F_X8_replayed N a1 D = ((F_X7_humpInto N D).bind (fun q1 => ((F_X7_isOverfull N q1).bind (fun q2 => (if q2.1 = 0 then (F_X8_replayed_38 N a1 (-5 : Int32) q2.2) else (F_X8_replayed_38 N a1 (0 : Int32) q2.2)))))) := by
  rfl
def F_X8_replay_40 (N : Nat) (vs0 : Int32) (D : hy_M) : Option (Int32 × hy_M) := b_X8_replay_40 N  [some (.ref 0), none, none, none] [.int vs0] D
def F_X8_replay (N : Nat) (a1 : Int32) (D : hy_M) : Option (Int32 × hy_M) := g_X8_replay N [.ref 0, .int a1] D
set_option maxRecDepth 100000 in
theorem F_X8_replay_40_eq (N : Nat) (vs0 : Int32) (D : hy_M) : F_X8_replay_40 N vs0 D = (some (vs0, (hy_w D 37 1 (0 : Int32)))) := by
  rfl
set_option maxRecDepth 100000 in
theorem F_X8_replay_eq (N : Nat) (a1 : Int32) (D : hy_M) : F_X8_replay N a1 D = (if a1 < 0 then (some ((-1 : Int32), D)) else (if (5 : Int32) < a1 then (some ((-1 : Int32), D)) else ((F_X6_faultOfFigures N (3 : Int32) (0 : Int32) (20 : Int32) D).bind (fun q1 => (if q1.1 = (-1 : Int32) then ((F_X8_replayed N a1 q1.2).bind (fun q2 => (F_X8_replay_40 N q2.1 q2.2))) else (F_X8_replay_40 N ((-100 : Int32) - q1.1) q1.2)))))) := by
  rfl
def F_X4_append (N : Nat) (a1 : Int32) (D : hy_M) : Option hy_M := g_X4_append N [.ref 39, .int a1] D
set_option maxRecDepth 100000 in
theorem F_X4_append_eq (N : Nat) (a1 : Int32) (D : hy_M) : F_X4_append N a1 D = (if (D 39 1) < (71 : Int32) then (if hy_in (D 39 1) 71 = true then (some (hy_w (hy_w D 40 ((D 39 1)).toNatClampNeg a1) 39 1 (((hy_w D 40 ((D 39 1)).toNatClampNeg a1) 39 1) + (1 : Int32)))) else none) else (some D)) := by
  rfl
def F_X4_appendRoll (N : Nat) (a1 : Int32) (a2 : Int32) (D : hy_M) : Option hy_M := g_X4_appendRoll N [.ref 39, .int a1, .int a2] D
set_option maxRecDepth 100000 in
theorem F_X4_appendRoll_eq (N : Nat) (a1 : Int32) (a2 : Int32) (D : hy_M) : F_X4_appendRoll N a1 a2 D = ((F_X4_append N ((97 : Int32) + a1) D).bind (fun q1 => (if a2 < (3 : Int32) then ((F_X4_append N ((48 : Int32) + a2) q1).bind (fun q2 => (some q2))) else ((F_X2_outOf N (0 : Int32) q1).bind (fun q2 => (if a2 = q2.1 then ((F_X4_append N (43 : Int32) q2.2).bind (fun q3 => (some q3))) else ((F_X4_append N (45 : Int32) q2.2).bind (fun q3 => (some q3))))))))) := by
  rfl
def F_X2_wagonAt_58 (N : Nat) (a1 : Int32) (a2 : Int32) (D : hy_M) : Option (Int32 × hy_M) := g_X2_wagonAt N [.ref 58, .int a1, .int a2] D
set_option maxRecDepth 100000 in
theorem F_X2_wagonAt_58_eq (N : Nat) (a1 : Int32) (a2 : Int32) (D : hy_M) : F_X2_wagonAt_58 N a1 a2 D = (if a2 < 0 then (some ((-1 : Int32), D)) else (if hy_in a1 5 = true then (if a2 < (D 65 (a1).toNatClampNeg) then (if hy_in a1 5 = true then (if hy_in a2 (hy_al (hy_pr 59 (a1).toNatClampNeg)) = true then (some ((D (hy_pr 59 (a1).toNatClampNeg) (a2).toNatClampNeg), D)) else none) else none) else (some ((-1 : Int32), D))) else none)) := by
  rfl
def F_X8_spellPull_37 (N : Nat) (n37 : Nat) (v1 : Int32) (v2 : Int32) (v3 : Int32) (D : hy_M) : Option hy_M := b_X8_spellPull_37 N  n37 [some (.ref 0), some (.int v1), some (.int v2), some (.int v3), none] [] D
def F_X8_spellPull (N : Nat) (a1 : Int32) (D : hy_M) : Option hy_M := g_X8_spellPull N [.ref 0, .int a1] D
set_option maxRecDepth 100000 in
theorem F_X8_spellPull_37_eq (N : Nat) (n37 : Nat) (v1 : Int32) (v2 : Int32) (v3 : Int32) (D : hy_M) : F_X8_spellPull_37 N (n37 + 1) v1 v2 v3 D = (if v3 < v2 then ((F_X2_wagonAt_58 N v1 v3 D).bind (fun q1 => ((F_X7_laneBehind N q1.1 v1 q1.2).bind (fun q2 => ((F_X4_appendRoll N q1.1 q2.1 q2.2).bind (fun q3 => (F_X8_spellPull_37 N n37 v1 v2 (v3 + (1 : Int32)) q3))))))) else ((F_X7_pullIn N v1 D).bind (fun q1 => (some q1.2)))) := by
  rfl
set_option maxRecDepth 100000 in
theorem F_X8_spellPull_eq (N : Nat) (a1 : Int32) (D : hy_M) : F_X8_spellPull N a1 D = (if hy_in a1 5 = true then (if (D 65 (a1).toNatClampNeg) = 0 then (some D) else ((F_X4_append N (59 : Int32) D).bind (fun q1 => ((F_X4_append N ((48 : Int32) + a1) q1).bind (fun q2 => (F_X8_spellPull_37 N N a1 (D 65 (a1).toNatClampNeg) (0 : Int32) q2)))))) else none) := by
  rfl
def F_X8_spell_37 (N : Nat) (n37 : Nat) (v1 : Int32) (D : hy_M) : Option (Int32 × hy_M) := b_X8_spell_37 N  n37 [some (.ref 0), some (.int v1)] [] D
def F_X8_spell_80 (N : Nat) (n80 : Nat) (v1 : Int32) (D : hy_M) : Option (Int32 × hy_M) := b_X8_spell_80 N  n80 [some (.ref 0), some (.int v1)] [] D
def F_X8_spell (N : Nat)  (D : hy_M) : Option (Int32 × hy_M) := g_X8_spell N [.ref 0] D
set_option maxRecDepth 100000 in
theorem F_X8_spell_37_eq (N : Nat) (n37 : Nat) (v1 : Int32) (D : hy_M) : F_X8_spell_37 N (n37 + 1) v1 D = (if v1 < (D 1 0) then ((F_X7_laneBehind N v1 (-1 : Int32) D).bind (fun q1 => ((F_X4_appendRoll N v1 q1.1 q1.2).bind (fun q2 => (F_X8_spell_37 N n37 (v1 + (1 : Int32)) q2))))) else (F_X8_spell_80 N N (0 : Int32) D)) := by
  rfl
set_option maxRecDepth 100000 in
theorem F_X8_spell_80_eq (N : Nat) (n80 : Nat) (v1 : Int32) (D : hy_M) : F_X8_spell_80 N (n80 + 1) v1 D = (if v1 < (3 : Int32) then ((F_X8_spellPull N v1 D).bind (fun q1 => (F_X8_spell_80 N n80 (v1 + (1 : Int32)) q1))) else (some ((D 39 1), D))) := by
  rfl
set_option maxRecDepth 100000 in
theorem F_X8_spell_eq (N : Nat)  (D : hy_M) : F_X8_spell N D = ((F_X4_append N (72 : Int32) (hy_w D 39 1 (0 : Int32))).bind (fun q1 => ((F_X7_humpInto N q1).bind (fun q2 => (F_X8_spell_37 N N (0 : Int32) q2))))) := by
  rfl
def F_X8_paper (N : Nat) (a1 : Int32) (D : hy_M) : Option (Int32 × hy_M) := g_X8_paper N [.ref 0, .int a1] D
set_option maxRecDepth 100000 in
theorem F_X8_paper_eq (N : Nat) (a1 : Int32) (D : hy_M) : F_X8_paper N a1 D = (if a1 < 0 then (some ((-1 : Int32), D)) else (if a1 < (D 39 1) then (if hy_in a1 71 = true then (some ((D 40 (a1).toNatClampNeg), D)) else none) else (some ((-1 : Int32), D)))) := by
  rfl
def F_X5_moveTo_3 (N : Nat) (n3 : Nat) (v1 : Int32) (v2 : Int32) (v3 : Int32) (v4 : Int32) (D : hy_M) : Option hy_M := b_X5_moveTo_3 N  n3 [some (.ref 55), some (.int v1), some (.int v2), some (.int v3), some (.int v4), none] [] D
def F_X5_moveTo_41 (N : Nat) (n3 : Nat) (v1 : Int32) (v2 : Int32) (v3 : Int32) (v4 : Int32) (vs0 : Int32) (D : hy_M) : Option hy_M := b_X5_moveTo_41 N (b_X5_moveTo_3 N  n3) [some (.ref 55), some (.int v1), some (.int v2), some (.int v3), some (.int v4), none] [.int vs0] D
def F_X5_moveTo (N : Nat) (a1 : Int32) (a2 : Int32) (a3 : Int32) (D : hy_M) : Option hy_M := g_X5_moveTo N [.ref 55, .int a1, .int a2, .int a3] D
set_option maxRecDepth 100000 in
theorem F_X5_moveTo_3_eq (N : Nat) (n3 : Nat) (v1 : Int32) (v2 : Int32) (v3 : Int32) (v4 : Int32) (D : hy_M) : F_X5_moveTo_3 N (n3 + 1) v1 v2 v3 v4 D = (if v4 < v1 then (if v4 = v2 then (if hy_in v4 8 = true then (F_X5_moveTo_3 N n3 v1 v2 v3 (v4 + (1 : Int32)) (hy_w D 57 (v4).toNatClampNeg v3)) else none) else (if v4 < v2 then (F_X5_moveTo_41 N n3 v1 v2 v3 v4 v4 D) else (F_X5_moveTo_41 N n3 v1 v2 v3 v4 (v4 - (1 : Int32)) D))) else (some D)) := by
  rfl
set_option maxRecDepth 100000 in
theorem F_X5_moveTo_41_eq (N : Nat) (n3 : Nat) (v1 : Int32) (v2 : Int32) (v3 : Int32) (v4 : Int32) (vs0 : Int32) (D : hy_M) : F_X5_moveTo_41 N n3 v1 v2 v3 v4 vs0 D = (if vs0 < v3 then (if hy_in v4 8 = true then (F_X5_moveTo_3 N n3 v1 v2 v3 (v4 + (1 : Int32)) (hy_w D 57 (v4).toNatClampNeg vs0)) else none) else (if hy_in v4 8 = true then (F_X5_moveTo_3 N n3 v1 v2 v3 (v4 + (1 : Int32)) (hy_w D 57 (v4).toNatClampNeg (vs0 + (1 : Int32)))) else none)) := by
  rfl
set_option maxRecDepth 100000 in
theorem F_X5_moveTo_eq (N : Nat) (a1 : Int32) (a2 : Int32) (a3 : Int32) (D : hy_M) : F_X5_moveTo N a1 a2 a3 D = (F_X5_moveTo_3 N N a1 a2 a3 (0 : Int32) D) := by
  rfl
