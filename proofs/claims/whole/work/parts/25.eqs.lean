def F_X9_brand (N : Nat) (a1 : Int32) (D : hy_M) : Option (Int32 × hy_M) := g_X9_brand N [.ref 67, .int a1] D
set_option maxRecDepth 100000 in
theorem F_X9_brand_eq (N : Nat) (a1 : Int32) (D : hy_M) : F_X9_brand N a1 D = ((F_X9_isIn N (a1).toInt64 (0 : Int64) (3 : Int64) D).bind (fun q1 => (if q1.1 = 0 then (some ((-1 : Int32), q1.2)) else (some ((q1.2 68 1), (hy_w q1.2 68 1 a1)))))) := by
  rfl
def F_X9_asTheyAre_2 (N : Nat) (n2 : Nat) (v1 : Int32) (D : hy_M) : Option hy_M := b_X9_asTheyAre_2 N  n2 [some (.ref 67), some (.int v1)] [] D
def F_X9_asTheyAre (N : Nat)  (D : hy_M) : Option hy_M := g_X9_asTheyAre N [.ref 67] D
set_option maxRecDepth 100000 in
theorem F_X9_asTheyAre_2_eq (N : Nat) (n2 : Nat) (v1 : Int32) (D : hy_M) : F_X9_asTheyAre_2 N (n2 + 1) v1 D = (if v1 < (8 : Int32) then (if hy_in v1 8 = true then (F_X9_asTheyAre_2 N n2 (v1 + (1 : Int32)) (hy_w D 72 (v1).toNatClampNeg v1)) else none) else (some D)) := by
  rfl
set_option maxRecDepth 100000 in
theorem F_X9_asTheyAre_eq (N : Nat)  (D : hy_M) : F_X9_asTheyAre N D = (F_X9_asTheyAre_2 N N (0 : Int32) D) := by
  rfl
def F_X9_wantedAt (N : Nat) (a1 : Int32) (a2 : Int32) (D : hy_M) : Option (Int32 × hy_M) := g_X9_wantedAt N [.ref 67, .int a1, .int a2] D
set_option maxRecDepth 100000 in
theorem F_X9_wantedAt_eq (N : Nat) (a1 : Int32) (a2 : Int32) (D : hy_M) : F_X9_wantedAt N a1 a2 D = (if hy_in (((30 : Int32) + ((8 : Int32) * a1)) + a2) 94 = true then (some ((D 68 ((((30 : Int32) + ((8 : Int32) * a1)) + a2)).toNatClampNeg), D)) else none) := by
  rfl
def F_X9_chainsOf_20 (N : Nat) (n20 : Nat) (v1 : Int32) (v2 : Int32) (v3 : Int32) (D : hy_M) : Option (Int32 × hy_M) := b_X9_chainsOf_20 N  n20 [some (.ref 67), some (.int v1), some (.int v2), some (.int v3)] [] D
def F_X9_chainsOf (N : Nat) (a1 : Int32) (D : hy_M) : Option (Int32 × hy_M) := g_X9_chainsOf N [.ref 67, .int a1] D
set_option maxRecDepth 100000 in
theorem F_X9_chainsOf_20_eq (N : Nat) (n20 : Nat) (v1 : Int32) (v2 : Int32) (v3 : Int32) (D : hy_M) : F_X9_chainsOf_20 N (n20 + 1) v1 v2 v3 D = (if hy_in ((28 : Int32) + v1) 94 = true then (if v3 < (D 68 (((28 : Int32) + v1)).toNatClampNeg) then ((F_X9_wantedAt N v1 v3 D).bind (fun q1 => (if hy_in q1.1 8 = true then ((F_X9_wantedAt N v1 (v3 - (1 : Int32)) q1.2).bind (fun q2 => (if hy_in q2.1 8 = true then (if (q1.2 72 (q1.1).toNatClampNeg) < (q2.2 72 (q2.1).toNatClampNeg) then (F_X9_chainsOf_20 N n20 v1 (v2 + (1 : Int32)) (v3 + (1 : Int32)) q2.2) else (F_X9_chainsOf_20 N n20 v1 (v2 + (0 : Int32)) (v3 + (1 : Int32)) q2.2)) else none))) else none))) else (some (v2, D))) else none) := by
  rfl
set_option maxRecDepth 100000 in
theorem F_X9_chainsOf_eq (N : Nat) (a1 : Int32) (D : hy_M) : F_X9_chainsOf N a1 D = (if hy_in ((28 : Int32) + a1) 94 = true then (if 0 < (D 68 (((28 : Int32) + a1)).toNatClampNeg) then (F_X9_chainsOf_20 N N a1 (1 : Int32) (1 : Int32) D) else (F_X9_chainsOf_20 N N a1 (0 : Int32) (1 : Int32) D)) else none) := by
  rfl
def F_X9_need (N : Nat)  (D : hy_M) : Option (Int32 × hy_M) := g_X9_need N [.ref 67] D
set_option maxRecDepth 100000 in
theorem F_X9_need_eq (N : Nat)  (D : hy_M) : F_X9_need N D = ((F_X9_chainsOf N (0 : Int32) D).bind (fun q1 => ((F_X9_chainsOf N (1 : Int32) q1.2).bind (fun q2 => (if q2.1 < q1.1 then (some (q1.1, q2.2)) else (some (q2.1, q2.2))))))) := by
  rfl
def F_X9_mayBe (N : Nat) (a0 : Int32) (a1 : Int32) (D : hy_M) : Option (Int32 × hy_M) := g_X9_mayBe N [.int a0, .int a1] D
set_option maxRecDepth 100000 in
theorem F_X9_mayBe_eq (N : Nat) (a0 : Int32) (a1 : Int32) (D : hy_M) : F_X9_mayBe N a0 a1 D = ((F_X9_ones N a0 D).bind (fun q1 => (if a1 = 0 then (some ((1 : Int32), q1.2)) else (if a1 = 1 then (if (1 : Int32) < q1.1 then (some ((0 : Int32), q1.2)) else (some ((1 : Int32), q1.2))) else (if a1 = 2 then (if (2 : Int32) < q1.1 then (some ((0 : Int32), q1.2)) else (some ((1 : Int32), q1.2))) else (if (1 : Int32) < q1.1 then (if q1.1 = (2 : Int32) then (if (a0 &&& (a0 >>> ((1 : Int32) &&& 31))) = 0 then (some ((0 : Int32), q1.2)) else (some ((1 : Int32), q1.2))) else (some ((0 : Int32), q1.2))) else (some ((1 : Int32), q1.2)))))))) := by
  rfl
def F_X9_fewestFor_2 (N : Nat) (n2 : Nat) (v1 : Int32) (v2 : Int32) (D : hy_M) : Option (Int32 × hy_M) := b_X9_fewestFor_2 N  n2 [some (.ref 67), some (.int v1), some (.int v2), none, none] [] D
def F_X9_fewestFor_13 (N : Nat) (n2 : Nat) (n13 : Nat) (v1 : Int32) (v2 : Int32) (v3 : Int32) (v4 : Int32) (D : hy_M) : Option (Int32 × hy_M) := b_X9_fewestFor_13 N (b_X9_fewestFor_2 N  n2) n13 [some (.ref 67), some (.int v1), some (.int v2), some (.int v3), some (.int v4)] [] D
def F_X9_fewestFor (N : Nat) (a1 : Int32) (D : hy_M) : Option (Int32 × hy_M) := g_X9_fewestFor N [.ref 67, .int a1] D
set_option maxRecDepth 100000 in
theorem F_X9_fewestFor_2_eq (N : Nat) (n2 : Nat) (v1 : Int32) (v2 : Int32) (D : hy_M) : F_X9_fewestFor_2 N (n2 + 1) v1 v2 D = (if v2 < (8 : Int32) then (F_X9_fewestFor_13 N n2 N v1 v2 (0 : Int32) (0 : Int32) D) else (some ((8 : Int32), D))) := by
  rfl
set_option maxRecDepth 100000 in
theorem F_X9_fewestFor_13_eq (N : Nat) (n2 : Nat) (n13 : Nat) (v1 : Int32) (v2 : Int32) (v3 : Int32) (v4 : Int32) (D : hy_M) : F_X9_fewestFor_13 N n2 (n13 + 1) v1 v2 v3 v4 D = (if v4 < ((1 : Int32) <<< (v2 &&& 31)) then ((F_X9_mayBe N v4 (D 68 1) D).bind (fun q1 => (if q1.1 = 0 then (F_X9_fewestFor_13 N n2 n13 v1 v2 (v3 + (0 : Int32)) (v4 + (1 : Int32)) q1.2) else (F_X9_fewestFor_13 N n2 n13 v1 v2 (v3 + (1 : Int32)) (v4 + (1 : Int32)) q1.2)))) else (if v3 < v1 then (F_X9_fewestFor_2 N n2 v1 (v2 + (1 : Int32)) D) else (some (v2, D)))) := by
  rfl
set_option maxRecDepth 100000 in
theorem F_X9_fewestFor_eq (N : Nat) (a1 : Int32) (D : hy_M) : F_X9_fewestFor N a1 D = (F_X9_fewestFor_2 N N a1 (0 : Int32) D) := by
  rfl
def F_X9_fewestNow (N : Nat)  (D : hy_M) : Option (Int32 × hy_M) := g_X9_fewestNow N [.ref 67] D
set_option maxRecDepth 100000 in
theorem F_X9_fewestNow_eq (N : Nat)  (D : hy_M) : F_X9_fewestNow N D = ((F_X9_asTheyAre N D).bind (fun q1 => ((F_X9_need N q1).bind (fun q2 => ((F_X9_fewestFor N q2.1 q2.2).bind (fun q3 => (some (q3.1, q3.2)))))))) := by
  rfl
def F_X9_placeOf_2 (N : Nat) (n2 : Nat) (v1 : Int32) (v2 : Int32) (D : hy_M) : Option (Int32 × hy_M) := b_X9_placeOf_2 N  n2 [some (.ref 67), some (.int v1), some (.int v2)] [] D
def F_X9_placeOf (N : Nat) (a1 : Int32) (D : hy_M) : Option (Int32 × hy_M) := g_X9_placeOf N [.ref 67, .int a1] D
set_option maxRecDepth 100000 in
theorem F_X9_placeOf_2_eq (N : Nat) (n2 : Nat) (v1 : Int32) (v2 : Int32) (D : hy_M) : F_X9_placeOf_2 N (n2 + 1) v1 v2 D = (if hy_in ((20 : Int32) + v1) 94 = true then ((F_X9_wantedAt N (D 68 (((20 : Int32) + v1)).toNatClampNeg) v2 D).bind (fun q1 => (if q1.1 = v1 then (some (v2, q1.2)) else (F_X9_placeOf_2 N n2 v1 (v2 + (1 : Int32)) q1.2)))) else none) := by
  rfl
set_option maxRecDepth 100000 in
theorem F_X9_placeOf_eq (N : Nat) (a1 : Int32) (D : hy_M) : F_X9_placeOf N a1 D = (F_X9_placeOf_2 N N a1 (0 : Int32) D) := by
  rfl
def F_X9_chainOf_19 (N : Nat) (n19 : Nat) (v2 : Int32) (v3 : Int32) (v4 : Int32) (D : hy_M) : Option (Int32 × hy_M) := b_X9_chainOf_19 N  n19 [some (.ref 67), none, some (.int v2), some (.int v3), some (.int v4)] [] D
def F_X9_chainOf (N : Nat) (a1 : Int32) (D : hy_M) : Option (Int32 × hy_M) := g_X9_chainOf N [.ref 67, .int a1] D
set_option maxRecDepth 100000 in
theorem F_X9_chainOf_19_eq (N : Nat) (n19 : Nat) (v2 : Int32) (v3 : Int32) (v4 : Int32) (D : hy_M) : F_X9_chainOf_19 N (n19 + 1) v2 v3 v4 D = (if 0 < v4 then ((F_X9_wantedAt N v3 v4 D).bind (fun q1 => ((F_X9_wantedAt N v3 (v4 - (1 : Int32)) q1.2).bind (fun q2 => (if q1.1 < q2.1 then (F_X9_chainOf_19 N n19 (v2 + (1 : Int32)) v3 (v4 + (-1 : Int32)) q2.2) else (F_X9_chainOf_19 N n19 (v2 + (0 : Int32)) v3 (v4 + (-1 : Int32)) q2.2)))))) else (some (v2, D))) := by
  rfl
set_option maxRecDepth 100000 in
theorem F_X9_chainOf_eq (N : Nat) (a1 : Int32) (D : hy_M) : F_X9_chainOf N a1 D = (if hy_in ((20 : Int32) + a1) 94 = true then ((F_X9_placeOf N a1 D).bind (fun q1 => (F_X9_chainOf_19 N N (0 : Int32) (D 68 (((20 : Int32) + a1)).toNatClampNeg) q1.1 q1.2))) else none) := by
  rfl
def F_X9_codeOf_4 (N : Nat) (n4 : Nat) (v2 : Int32) (v3 : Int32) (D : hy_M) : Option (Int32 × hy_M) := b_X9_codeOf_4 N  n4 [some (.ref 67), none, some (.int v2), some (.int v3)] [] D
def F_X9_codeOf_21 (N : Nat) (n4 : Nat) (v2 : Int32) (v3 : Int32) (D : hy_M) : Option (Int32 × hy_M) := b_X9_codeOf_21 N (b_X9_codeOf_4 N  n4) [some (.ref 67), none, some (.int v2), some (.int v3)] [] D
def F_X9_codeOf (N : Nat) (a1 : Int32) (D : hy_M) : Option (Int32 × hy_M) := g_X9_codeOf N [.ref 67, .int a1] D
set_option maxRecDepth 100000 in
theorem F_X9_codeOf_4_eq (N : Nat) (n4 : Nat) (v2 : Int32) (v3 : Int32) (D : hy_M) : F_X9_codeOf_4 N (n4 + 1) v2 v3 D = (if 0 < v2 then (F_X9_codeOf_21 N n4 v2 v3 D) else ((F_X9_mayBe N v3 (D 68 1) D).bind (fun q1 => (if q1.1 = 0 then (F_X9_codeOf_21 N n4 v2 v3 q1.2) else (some (v3, q1.2)))))) := by
  rfl
set_option maxRecDepth 100000 in
theorem F_X9_codeOf_21_eq (N : Nat) (n4 : Nat) (v2 : Int32) (v3 : Int32) (D : hy_M) : F_X9_codeOf_21 N n4 v2 v3 D = ((F_X9_mayBe N v3 (D 68 1) D).bind (fun q1 => (if q1.1 = 0 then (F_X9_codeOf_4 N n4 (v2 - (0 : Int32)) (v3 + (1 : Int32)) q1.2) else (F_X9_codeOf_4 N n4 (v2 - (1 : Int32)) (v3 + (1 : Int32)) q1.2)))) := by
  rfl
set_option maxRecDepth 100000 in
theorem F_X9_codeOf_eq (N : Nat) (a1 : Int32) (D : hy_M) : F_X9_codeOf N a1 D = (F_X9_codeOf_4 N N a1 (0 : Int32) D) := by
  rfl
def F_X9_whereIs_2 (N : Nat) (n2 : Nat) (v1 : Int32) (v2 : Int32) (D : hy_M) : Option (Int32 × hy_M) := b_X9_whereIs_2 N  n2 [some (.ref 67), some (.int v1), some (.int v2), none] [] D
def F_X9_whereIs_9 (N : Nat) (n2 : Nat) (n9 : Nat) (v1 : Int32) (v2 : Int32) (v3 : Int32) (D : hy_M) : Option (Int32 × hy_M) := b_X9_whereIs_9 N (b_X9_whereIs_2 N  n2) n9 [some (.ref 67), some (.int v1), some (.int v2), some (.int v3)] [] D
def F_X9_whereIs_66 (N : Nat) (n66 : Nat) (v1 : Int32) (v2 : Int32) (v3 : Int32) (D : hy_M) : Option (Int32 × hy_M) := b_X9_whereIs_66 N  n66 [some (.ref 67), some (.int v1), some (.int v2), some (.int v3)] [] D
def F_X9_whereIs (N : Nat) (a1 : Int32) (D : hy_M) : Option (Int32 × hy_M) := g_X9_whereIs N [.ref 67, .int a1] D
set_option maxRecDepth 100000 in
theorem F_X9_whereIs_2_eq (N : Nat) (n2 : Nat) (v1 : Int32) (v2 : Int32) (D : hy_M) : F_X9_whereIs_2 N (n2 + 1) v1 v2 D = (if v2 < (3 : Int32) then (F_X9_whereIs_9 N n2 N v1 v2 (0 : Int32) D) else (if hy_in ((20 : Int32) + v1) 94 = true then (F_X9_whereIs_66 N N v1 (D 68 (((20 : Int32) + v1)).toNatClampNeg) (0 : Int32) D) else none)) := by
  rfl
set_option maxRecDepth 100000 in
theorem F_X9_whereIs_9_eq (N : Nat) (n2 : Nat) (n9 : Nat) (v1 : Int32) (v2 : Int32) (v3 : Int32) (D : hy_M) : F_X9_whereIs_9 N n2 (n9 + 1) v1 v2 v3 D = (if hy_in ((67 : Int32) + v2) 94 = true then (if v3 < (D 68 (((67 : Int32) + v2)).toNatClampNeg) then (if hy_in (((70 : Int32) + ((8 : Int32) * v2)) + v3) 94 = true then (if (D 68 ((((70 : Int32) + ((8 : Int32) * v2)) + v3)).toNatClampNeg) = v1 then (some (v2, D)) else (F_X9_whereIs_9 N n2 n9 v1 v2 (v3 + (1 : Int32)) D)) else none) else (F_X9_whereIs_2 N n2 v1 (v2 + (1 : Int32)) D)) else none) := by
  rfl
set_option maxRecDepth 100000 in
theorem F_X9_whereIs_66_eq (N : Nat) (n66 : Nat) (v1 : Int32) (v2 : Int32) (v3 : Int32) (D : hy_M) : F_X9_whereIs_66 N (n66 + 1) v1 v2 v3 D = (if hy_in ((49 : Int32) + v2) 94 = true then (if v3 < (D 68 (((49 : Int32) + v2)).toNatClampNeg) then (if hy_in (((51 : Int32) + ((8 : Int32) * v2)) + v3) 94 = true then (if (D 68 ((((51 : Int32) + ((8 : Int32) * v2)) + v3)).toNatClampNeg) = v1 then (some (((10 : Int32) + v2), D)) else (F_X9_whereIs_66 N n66 v1 v2 (v3 + (1 : Int32)) D)) else none) else (some ((-5 : Int32), D))) else none) := by
  rfl
set_option maxRecDepth 100000 in
theorem F_X9_whereIs_eq (N : Nat) (a1 : Int32) (D : hy_M) : F_X9_whereIs N a1 D = (F_X9_whereIs_2 N N a1 (0 : Int32) D) := by
  rfl
def F_X9_wagon (N : Nat) (a1 : Int32) (a2 : Int32) (D : hy_M) : Option (Int32 × hy_M) := g_X9_wagon N [.ref 67, .int a1, .int a2] D
set_option maxRecDepth 100000 in
theorem F_X9_wagon_eq (N : Nat) (a1 : Int32) (a2 : Int32) (D : hy_M) : F_X9_wagon N a1 a2 D = ((F_X9_isWagon N a1 D).bind (fun q1 => (if q1.1 = 0 then (some ((-1 : Int32), q1.2)) else (if a2 = 0 then (if hy_in ((4 : Int32) + a1) 94 = true then (some ((q1.2 68 (((4 : Int32) + a1)).toNatClampNeg), q1.2)) else none) else (if a2 = 1 then (if hy_in ((12 : Int32) + a1) 94 = true then (some ((q1.2 68 (((12 : Int32) + a1)).toNatClampNeg), q1.2)) else none) else (if a2 = 2 then (if hy_in ((20 : Int32) + a1) 94 = true then (some ((q1.2 68 (((20 : Int32) + a1)).toNatClampNeg), q1.2)) else none) else (if a2 = 3 then ((F_X9_placeOf N a1 q1.2).bind (fun q8 => (some (q8.1, q8.2)))) else (if a2 = 4 then ((F_X9_chainOf N a1 q1.2).bind (fun q7 => (some (q7.1, q7.2)))) else (if a2 = 5 then ((F_X9_whereIs N a1 q1.2).bind (fun q6 => (some (q6.1, q6.2)))) else (if a2 = 6 then (if hy_in ((12 : Int32) + a1) 94 = true then ((F_X9_ones N (q1.2 68 (((12 : Int32) + a1)).toNatClampNeg) q1.2).bind (fun q5 => (some (q5.1, q5.2)))) else none) else (if a2 = 7 then ((F_X9_fewestNow N q1.2).bind (fun q2 => (if (3 : Int32) < q2.1 then (some ((-5 : Int32), q2.2)) else ((F_X9_chainOf N a1 q2.2).bind (fun q3 => ((F_X9_codeOf N q3.1 q3.2).bind (fun q4 => (some (q4.1, q4.2))))))))) else (some ((-1 : Int32), q1.2))))))))))))) := by
  rfl
def F_X9_isTrain (N : Nat) (a0 : Int32) (D : hy_M) : Option (Int32 × hy_M) := g_X9_isTrain N [.int a0] D
set_option maxRecDepth 100000 in
theorem F_X9_isTrain_eq (N : Nat) (a0 : Int32) (D : hy_M) : F_X9_isTrain N a0 D = ((F_X9_isIn N (a0).toInt64 (0 : Int64) (1 : Int64) D).bind (fun q1 => (if q1.1 = 0 ∨ q1.1 = 1 then some (q1.1, q1.2) else none))) := by
  rfl
def F_X9_wanted (N : Nat) (a1 : Int32) (a2 : Int32) (D : hy_M) : Option (Int32 × hy_M) := g_X9_wanted N [.ref 67, .int a1, .int a2] D
set_option maxRecDepth 100000 in
theorem F_X9_wanted_eq (N : Nat) (a1 : Int32) (a2 : Int32) (D : hy_M) : F_X9_wanted N a1 a2 D = ((F_X9_isTrain N a1 D).bind (fun q1 => (if q1.1 = 0 then (some ((-1 : Int32), q1.2)) else (if hy_in ((28 : Int32) + a1) 94 = true then ((F_X9_isIn N (a2).toInt64 (-1 : Int64) (((q1.2 68 (((28 : Int32) + a1)).toNatClampNeg) - (1 : Int32))).toInt64 q1.2).bind (fun q2 => (if q2.1 = 0 then (some ((-1 : Int32), q2.2)) else (if a2 < 0 then (if hy_in ((28 : Int32) + a1) 94 = true then (some ((q2.2 68 (((28 : Int32) + a1)).toNatClampNeg), q2.2)) else none) else ((F_X9_wantedAt N a1 a2 q2.2).bind (fun q3 => (some (q3.1, q3.2)))))))) else none)))) := by
  rfl
def F_X9_loadOf_4 (N : Nat) (n4 : Nat) (v1 : Int32) (v2 : Int32) (v3 : Int32) (D : hy_M) : Option (Int32 × hy_M) := b_X9_loadOf_4 N  n4 [some (.ref 67), some (.int v1), some (.int v2), some (.int v3)] [] D
def F_X9_loadOf (N : Nat) (a1 : Int32) (D : hy_M) : Option (Int32 × hy_M) := g_X9_loadOf N [.ref 67, .int a1] D
set_option maxRecDepth 100000 in
theorem F_X9_loadOf_4_eq (N : Nat) (n4 : Nat) (v1 : Int32) (v2 : Int32) (v3 : Int32) (D : hy_M) : F_X9_loadOf_4 N (n4 + 1) v1 v2 v3 D = (if v3 < (D 68 0) then (if hy_in ((12 : Int32) + v3) 94 = true then ((F_X9_has N (D 68 (((12 : Int32) + v3)).toNatClampNeg) v1 D).bind (fun q1 => (if q1.1 = 0 then (F_X9_loadOf_4 N n4 v1 (v2 + (0 : Int32)) (v3 + (1 : Int32)) q1.2) else (if hy_in ((4 : Int32) + v3) 94 = true then (F_X9_loadOf_4 N n4 v1 (v2 + (q1.2 68 (((4 : Int32) + v3)).toNatClampNeg)) (v3 + (1 : Int32)) q1.2) else none)))) else none) else (some (v2, D))) := by
  rfl
set_option maxRecDepth 100000 in
theorem F_X9_loadOf_eq (N : Nat) (a1 : Int32) (D : hy_M) : F_X9_loadOf N a1 D = (F_X9_loadOf_4 N N a1 (0 : Int32) (0 : Int32) D) := by
  rfl
def F_X9_lengthsOn_4 (N : Nat) (n4 : Nat) (v1 : Int32) (v2 : Int32) (v3 : Int32) (D : hy_M) : Option (Int32 × hy_M) := b_X9_lengthsOn_4 N  n4 [some (.ref 67), some (.int v1), some (.int v2), some (.int v3)] [] D
def F_X9_lengthsOn (N : Nat) (a1 : Int32) (D : hy_M) : Option (Int32 × hy_M) := g_X9_lengthsOn N [.ref 67, .int a1] D
set_option maxRecDepth 100000 in
theorem F_X9_lengthsOn_4_eq (N : Nat) (n4 : Nat) (v1 : Int32) (v2 : Int32) (v3 : Int32) (D : hy_M) : F_X9_lengthsOn_4 N (n4 + 1) v1 v2 v3 D = (if hy_in ((67 : Int32) + v1) 94 = true then (if v3 < (D 68 (((67 : Int32) + v1)).toNatClampNeg) then (if hy_in (((70 : Int32) + ((8 : Int32) * v1)) + v3) 94 = true then (if hy_in ((4 : Int32) + (D 68 ((((70 : Int32) + ((8 : Int32) * v1)) + v3)).toNatClampNeg)) 94 = true then (F_X9_lengthsOn_4 N n4 v1 (v2 + (D 68 (((4 : Int32) + (D 68 ((((70 : Int32) + ((8 : Int32) * v1)) + v3)).toNatClampNeg))).toNatClampNeg)) (v3 + (1 : Int32)) D) else none) else none) else (some (v2, D))) else none) := by
  rfl
set_option maxRecDepth 100000 in
theorem F_X9_lengthsOn_eq (N : Nat) (a1 : Int32) (D : hy_M) : F_X9_lengthsOn N a1 D = (F_X9_lengthsOn_4 N N a1 (0 : Int32) (0 : Int32) D) := by
  rfl
def F_X9_track (N : Nat) (a1 : Int32) (a2 : Int32) (D : hy_M) : Option (Int32 × hy_M) := g_X9_track N [.ref 67, .int a1, .int a2] D
set_option maxRecDepth 100000 in
theorem F_X9_track_eq (N : Nat) (a1 : Int32) (a2 : Int32) (D : hy_M) : F_X9_track N a1 a2 D = ((F_X9_isTrack N a1 D).bind (fun q1 => (if q1.1 = 0 then (some ((-1 : Int32), q1.2)) else ((F_X9_isIn N (a2).toInt64 (0 : Int64) (2 : Int64) q1.2).bind (fun q2 => (if q2.1 = 0 then (if hy_in ((67 : Int32) + a1) 94 = true then ((F_X9_isIn N (a2).toInt64 (10 : Int64) (((9 : Int32) + (q2.2 68 (((67 : Int32) + a1)).toNatClampNeg))).toInt64 q2.2).bind (fun q3 => (if q3.1 = 0 then (some ((-1 : Int32), q3.2)) else (if hy_in ((((70 : Int32) + ((8 : Int32) * a1)) + a2) - (10 : Int32)) 94 = true then (some ((q3.2 68 (((((70 : Int32) + ((8 : Int32) * a1)) + a2) - (10 : Int32))).toNatClampNeg), q3.2)) else none)))) else none) else (if a2 = 0 then (if hy_in ((46 : Int32) + a1) 94 = true then (some ((q2.2 68 (((46 : Int32) + a1)).toNatClampNeg), q2.2)) else none) else (if a2 = (1 : Int32) then ((F_X9_lengthsOn N a1 q2.2).bind (fun q3 => (some (q3.1, q3.2)))) else ((F_X9_loadOf N a1 q2.2).bind (fun q3 => (some (q3.1, q3.2)))))))))))) := by
  rfl
def F_X9_chains (N : Nat) (a1 : Int32) (D : hy_M) : Option (Int32 × hy_M) := g_X9_chains N [.ref 67, .int a1] D
set_option maxRecDepth 100000 in
theorem F_X9_chains_eq (N : Nat) (a1 : Int32) (D : hy_M) : F_X9_chains N a1 D = ((F_X9_asTheyAre N D).bind (fun q1 => ((F_X9_isTrain N a1 q1).bind (fun q2 => (if q2.1 = 0 then (if a1 = (2 : Int32) then ((F_X9_need N q2.2).bind (fun q3 => (some (q3.1, q3.2)))) else (some ((-1 : Int32), q2.2))) else ((F_X9_chainsOf N a1 q2.2).bind (fun q3 => (some (q3.1, q3.2))))))))) := by
  rfl
def F_X9_mayAll_4 (N : Nat) (n4 : Nat) (v1 : Int32) (v2 : Int32) (D : hy_M) : Option (Int32 × hy_M) := b_X9_mayAll_4 N  n4 [some (.ref 67), some (.int v1), some (.int v2)] [] D
def F_X9_mayAll (N : Nat)  (D : hy_M) : Option (Int32 × hy_M) := g_X9_mayAll N [.ref 67] D
set_option maxRecDepth 100000 in
theorem F_X9_mayAll_4_eq (N : Nat) (n4 : Nat) (v1 : Int32) (v2 : Int32) (D : hy_M) : F_X9_mayAll_4 N (n4 + 1) v1 v2 D = (if v2 < (8 : Int32) then ((F_X9_mayBe N v2 (D 68 1) D).bind (fun q1 => (if q1.1 = 0 then (F_X9_mayAll_4 N n4 (v1 + (0 : Int32)) (v2 + (1 : Int32)) q1.2) else (F_X9_mayAll_4 N n4 (v1 + (1 : Int32)) (v2 + (1 : Int32)) q1.2)))) else (some (v1, D))) := by
  rfl
set_option maxRecDepth 100000 in
theorem F_X9_mayAll_eq (N : Nat)  (D : hy_M) : F_X9_mayAll N D = (F_X9_mayAll_4 N N (0 : Int32) (0 : Int32) D) := by
  rfl
def F_X9_fewest (N : Nat) (a1 : Int32) (D : hy_M) : Option (Int32 × hy_M) := g_X9_fewest N [.ref 67, .int a1] D
set_option maxRecDepth 100000 in
theorem F_X9_fewest_eq (N : Nat) (a1 : Int32) (D : hy_M) : F_X9_fewest N a1 D = (if a1 = 0 then ((F_X9_fewestNow N D).bind (fun q1 => (some (q1.1, q1.2)))) else (if a1 = (1 : Int32) then ((F_X9_mayAll N D).bind (fun q1 => (some (q1.1, q1.2)))) else ((F_X9_isIn N (a1).toInt64 (10 : Int64) (17 : Int64) D).bind (fun q1 => (if q1.1 = 0 then (some ((-1 : Int32), q1.2)) else ((F_X9_mayBe N (a1 - (10 : Int32)) (q1.2 68 1) q1.2).bind (fun q2 => (if q2.1 = 0 then (some ((0 : Int32), q2.2)) else (some ((1 : Int32), q2.2)))))))))) := by
  rfl
def F_X9_stepsOf (N : Nat) (a0 : Int32) (D : hy_M) : Option (Int32 × hy_M) := g_X9_stepsOf N [.int a0] D
set_option maxRecDepth 100000 in
theorem F_X9_stepsOf_eq (N : Nat) (a0 : Int32) (D : hy_M) : F_X9_stepsOf N a0 D = (if (3 : Int32) < a0 then (some ((3 : Int32), D)) else (if (1 : Int32) < a0 then (some ((2 : Int32), D)) else (some (a0, D)))) := by
  rfl
def F_X9_stepsNow_4 (N : Nat) (n4 : Nat) (v1 : Int32) (v2 : Int32) (D : hy_M) : Option (Int32 × hy_M) := b_X9_stepsNow_4 N  n4 [some (.ref 67), some (.int v1), some (.int v2)] [] D
def F_X9_stepsNow (N : Nat)  (D : hy_M) : Option (Int32 × hy_M) := g_X9_stepsNow N [.ref 67] D
set_option maxRecDepth 100000 in
theorem F_X9_stepsNow_4_eq (N : Nat) (n4 : Nat) (v1 : Int32) (v2 : Int32) (D : hy_M) : F_X9_stepsNow_4 N (n4 + 1) v1 v2 D = (if v2 < (D 68 0) then (if hy_in ((12 : Int32) + v2) 94 = true then (F_X9_stepsNow_4 N n4 (v1 ||| (D 68 (((12 : Int32) + v2)).toNatClampNeg)) (v2 + (1 : Int32)) D) else none) else ((F_X9_stepsOf N v1 D).bind (fun q1 => (some (q1.1, q1.2))))) := by
  rfl
set_option maxRecDepth 100000 in
theorem F_X9_stepsNow_eq (N : Nat)  (D : hy_M) : F_X9_stepsNow N D = (F_X9_stepsNow_4 N N (0 : Int32) (0 : Int32) D) := by
  rfl
def F_X9_presort_26 (N : Nat) (n26 : Nat) (v1 : Int32) (D : hy_M) : Option (Int32 × hy_M) := b_X9_presort_26 N  n26 [some (.ref 67), some (.int v1)] [] D
def F_X9_presort (N : Nat)  (D : hy_M) : Option (Int32 × hy_M) := g_X9_presort N [.ref 67] D
set_option maxRecDepth 100000 in
theorem F_X9_presort_26_eq (N : Nat) (n26 : Nat) (v1 : Int32) (D : hy_M) : F_X9_presort_26 N (n26 + 1) v1 D = (if v1 < (D 68 0) then ((F_X9_chainOf N v1 D).bind (fun q1 => ((F_X9_codeOf N q1.1 q1.2).bind (fun q2 => (if hy_in ((12 : Int32) + v1) 94 = true then (F_X9_presort_26 N n26 (v1 + (1 : Int32)) (hy_w q2.2 68 (((12 : Int32) + v1)).toNatClampNeg q2.1)) else none))))) else ((F_X9_stepsNow N D).bind (fun q1 => (some (q1.1, q1.2))))) := by
  rfl
set_option maxRecDepth 100000 in
theorem F_X9_presort_eq (N : Nat)  (D : hy_M) : F_X9_presort N D = (if (D 68 2) = (1 : Int32) then (some ((-3 : Int32), D)) else ((F_X9_fewestNow N D).bind (fun q1 => (if (3 : Int32) < q1.1 then (some ((-5 : Int32), q1.2)) else (F_X9_presort_26 N N (0 : Int32) q1.2))))) := by
  rfl
def F_X9_rollsNow_9 (N : Nat) (n9 : Nat) (v1 : Int32) (v2 : Int32) (D : hy_M) : Option (Int32 × hy_M) := b_X9_rollsNow_9 N  n9 [some (.ref 67), some (.int v1), some (.int v2)] [] D
def F_X9_rollsNow (N : Nat)  (D : hy_M) : Option (Int32 × hy_M) := g_X9_rollsNow N [.ref 67] D
set_option maxRecDepth 100000 in
theorem F_X9_rollsNow_9_eq (N : Nat) (n9 : Nat) (v1 : Int32) (v2 : Int32) (D : hy_M) : F_X9_rollsNow_9 N (n9 + 1) v1 v2 D = (if v2 < (D 68 0) then (if hy_in ((12 : Int32) + v2) 94 = true then ((F_X9_ones N (D 68 (((12 : Int32) + v2)).toNatClampNeg) D).bind (fun q1 => (F_X9_rollsNow_9 N n9 (v1 + q1.1) (v2 + (1 : Int32)) q1.2))) else none) else (some (v1, D))) := by
  rfl
set_option maxRecDepth 100000 in
theorem F_X9_rollsNow_eq (N : Nat)  (D : hy_M) : F_X9_rollsNow N D = (F_X9_rollsNow_9 N N (D 68 0) (0 : Int32) D) := by
  rfl
def F_X9_notRight_2 (N : Nat) (n2 : Nat) (v1 : Int32) (D : hy_M) : Option (Int32 × hy_M) := b_X9_notRight_2 N  n2 [some (.ref 67), some (.int v1), none, none, none] [] D
def F_X9_notRight_9 (N : Nat) (n2 : Nat) (n9 : Nat) (v1 : Int32) (v2 : Int32) (D : hy_M) : Option (Int32 × hy_M) := b_X9_notRight_9 N (b_X9_notRight_2 N  n2) n9 [some (.ref 67), some (.int v1), some (.int v2), none, none] [] D
def F_X9_notRight_69 (N : Nat) (n2 : Nat) (n9 : Nat) (v1 : Int32) (v2 : Int32) (v4 : Int32) (vs2 : Int32) (vs1 : Int32) (vs0 : Int32) (D : hy_M) : Option (Int32 × hy_M) := b_X9_notRight_69 N (b_X9_notRight_2 N  n2) (b_X9_notRight_9 N (b_X9_notRight_2 N  n2) n9) [some (.ref 67), some (.int v1), some (.int v2), none, some (.int v4)] [.int vs0, .int vs1, .int vs2] D
def F_X9_notRight (N : Nat)  (D : hy_M) : Option (Int32 × hy_M) := g_X9_notRight N [.ref 67] D
set_option maxRecDepth 100000 in
theorem F_X9_notRight_2_eq (N : Nat) (n2 : Nat) (v1 : Int32) (D : hy_M) : F_X9_notRight_2 N (n2 + 1) v1 D = (if v1 < (2 : Int32) then (F_X9_notRight_9 N n2 N v1 (1 : Int32) D) else (some ((-1 : Int32), D))) := by
  rfl
set_option maxRecDepth 100000 in
theorem F_X9_notRight_9_eq (N : Nat) (n2 : Nat) (n9 : Nat) (v1 : Int32) (v2 : Int32) (D : hy_M) : F_X9_notRight_9 N n2 (n9 + 1) v1 v2 D = (if hy_in ((28 : Int32) + v1) 94 = true then (if v2 < (D 68 (((28 : Int32) + v1)).toNatClampNeg) then ((F_X9_wantedAt N v1 (v2 - (1 : Int32)) D).bind (fun q1 => ((F_X9_wantedAt N v1 v2 q1.2).bind (fun q2 => (if hy_in ((12 : Int32) + q2.1) 94 = true then (if hy_in ((12 : Int32) + q1.1) 94 = true then (if q2.1 < q1.1 then (F_X9_notRight_69 N n2 n9 v1 v2 q2.1 (q2.2 68 (((12 : Int32) + q2.1)).toNatClampNeg) (q2.2 68 (((12 : Int32) + q1.1)).toNatClampNeg) (1 : Int32) q2.2) else (F_X9_notRight_69 N n2 n9 v1 v2 q2.1 (q2.2 68 (((12 : Int32) + q2.1)).toNatClampNeg) (q2.2 68 (((12 : Int32) + q1.1)).toNatClampNeg) (0 : Int32) q2.2)) else none) else none))))) else (F_X9_notRight_2 N n2 (v1 + (1 : Int32)) D)) else none) := by
  rfl
set_option maxRecDepth 100000 in
theorem F_X9_notRight_69_eq (N : Nat) (n2 : Nat) (n9 : Nat) (v1 : Int32) (v2 : Int32) (v4 : Int32) (vs2 : Int32) (vs1 : Int32) (vs0 : Int32) (D : hy_M) : F_X9_notRight_69 N n2 n9 v1 v2 v4 vs2 vs1 vs0 D = (if vs2 < (vs1 + vs0) then (some (v4, D)) else (F_X9_notRight_9 N n2 n9 v1 (v2 + (1 : Int32)) D)) := by
  rfl
set_option maxRecDepth 100000 in
theorem F_X9_notRight_eq (N : Nat)  (D : hy_M) : F_X9_notRight N D = (F_X9_notRight_2 N N (0 : Int32) D) := by
  rfl
def F_X9_mayAllCodes_2 (N : Nat) (n2 : Nat) (v1 : Int32) (D : hy_M) : Option (Int32 × hy_M) := b_X9_mayAllCodes_2 N  n2 [some (.ref 67), some (.int v1)] [] D
def F_X9_mayAllCodes (N : Nat)  (D : hy_M) : Option (Int32 × hy_M) := g_X9_mayAllCodes N [.ref 67] D
set_option maxRecDepth 100000 in
theorem F_X9_mayAllCodes_2_eq (N : Nat) (n2 : Nat) (v1 : Int32) (D : hy_M) : F_X9_mayAllCodes_2 N (n2 + 1) v1 D = (if v1 < (D 68 0) then (if hy_in ((12 : Int32) + v1) 94 = true then ((F_X9_mayBe N (D 68 (((12 : Int32) + v1)).toNatClampNeg) (D 68 1) D).bind (fun q1 => (if q1.1 = 0 then (some ((0 : Int32), q1.2)) else (F_X9_mayAllCodes_2 N n2 (v1 + (1 : Int32)) q1.2)))) else none) else (some ((1 : Int32), D))) := by
  rfl
set_option maxRecDepth 100000 in
theorem F_X9_mayAllCodes_eq (N : Nat)  (D : hy_M) : F_X9_mayAllCodes N D = (F_X9_mayAllCodes_2 N N (0 : Int32) D) := by
  rfl
def F_X9_tooLoaded_2 (N : Nat) (n2 : Nat) (v1 : Int32) (D : hy_M) : Option (Int32 × hy_M) := b_X9_tooLoaded_2 N  n2 [some (.ref 67), some (.int v1)] [] D
def F_X9_tooLoaded (N : Nat)  (D : hy_M) : Option (Int32 × hy_M) := g_X9_tooLoaded N [.ref 67] D
set_option maxRecDepth 100000 in
theorem F_X9_tooLoaded_2_eq (N : Nat) (n2 : Nat) (v1 : Int32) (D : hy_M) : F_X9_tooLoaded_2 N (n2 + 1) v1 D = (if v1 < (3 : Int32) then ((F_X9_loadOf N v1 D).bind (fun q1 => (if hy_in ((46 : Int32) + v1) 94 = true then (if (q1.2 68 (((46 : Int32) + v1)).toNatClampNeg) < q1.1 then (some (v1, q1.2)) else (F_X9_tooLoaded_2 N n2 (v1 + (1 : Int32)) q1.2)) else none))) else (some ((-1 : Int32), D))) := by
  rfl
set_option maxRecDepth 100000 in
theorem F_X9_tooLoaded_eq (N : Nat)  (D : hy_M) : F_X9_tooLoaded N D = (F_X9_tooLoaded_2 N N (0 : Int32) D) := by
  rfl
def F_X9_right (N : Nat) (a1 : Int32) (D : hy_M) : Option (Int32 × hy_M) := g_X9_right N [.ref 67, .int a1] D
set_option maxRecDepth 100000 in
theorem F_X9_right_eq (N : Nat) (a1 : Int32) (D : hy_M) : F_X9_right N a1 D = (if a1 = 0 then ((F_X9_notRight N D).bind (fun q6 => (if q6.1 < 0 then (some ((1 : Int32), q6.2)) else (some ((0 : Int32), q6.2))))) else (if a1 = 1 then ((F_X9_notRight N D).bind (fun q3 => (if q3.1 < 0 then ((F_X9_mayAllCodes N q3.2).bind (fun q4 => (if q4.1 = 0 then (some ((0 : Int32), q4.2)) else ((F_X9_tooLoaded N q4.2).bind (fun q5 => (if q5.1 < 0 then (some ((1 : Int32), q5.2)) else (some ((0 : Int32), q5.2)))))))) else (some ((0 : Int32), q3.2))))) else (if a1 = 2 then ((F_X9_stepsNow N D).bind (fun q2 => (some (q2.1, q2.2)))) else (if a1 = 3 then ((F_X9_rollsNow N D).bind (fun q1 => (some (q1.1, q1.2)))) else (some ((-1 : Int32), D)))))) := by
  rfl
def F_X9_orders_2 (N : Nat) (n2 : Nat) (v1 : Int32) (D : hy_M) : Option hy_M := b_X9_orders_2 N  n2 [some (.ref 67), some (.int v1)] [] D
def F_X9_orders (N : Nat)  (D : hy_M) : Option hy_M := g_X9_orders N [.ref 67] D
set_option maxRecDepth 100000 in
theorem F_X9_orders_2_eq (N : Nat) (n2 : Nat) (v1 : Int32) (D : hy_M) : F_X9_orders_2 N (n2 + 1) v1 D = (if v1 < (D 68 0) then (if v1 < (D 68 28) then ((F_X9_wantedAt N (0 : Int32) v1 D).bind (fun q1 => (if hy_in v1 8 = true then (F_X9_orders_2 N n2 (v1 + (1 : Int32)) (hy_w q1.2 75 (v1).toNatClampNeg q1.1)) else none))) else ((F_X9_wantedAt N (1 : Int32) (v1 - (D 68 28)) D).bind (fun q1 => (if hy_in v1 8 = true then (F_X9_orders_2 N n2 (v1 + (1 : Int32)) (hy_w q1.2 75 (v1).toNatClampNeg q1.1)) else none)))) else (some D)) := by
  rfl
set_option maxRecDepth 100000 in
theorem F_X9_orders_eq (N : Nat)  (D : hy_M) : F_X9_orders N D = (F_X9_orders_2 N N (0 : Int32) D) := by
  rfl
