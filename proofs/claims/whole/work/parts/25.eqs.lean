def F_X9_brand (a1 : Int32) (D : hy_M) : Option (Int32 × hy_M) := g_X9_brand [.ref 67, .int a1] D
set_option maxRecDepth 100000 in
theorem F_X9_brand_eq (a1 : Int32) (D : hy_M) : F_X9_brand a1 D = ((F_X9_isIn (a1).toInt64 (0 : Int64) (3 : Int64) D).bind (fun q1 => (if q1.1 = 0 then (some ((-1 : Int32), q1.2)) else (some ((q1.2 68 1), (hy_w q1.2 68 1 a1)))))) := by
  rfl
def F_X9_asTheyAre_2 (n2 : Nat) (v1 : Int32) (D : hy_M) : Option hy_M := b_X9_asTheyAre_2  n2 [some (.ref 67), some (.int v1)] [] D
def F_X9_asTheyAre  (D : hy_M) : Option hy_M := g_X9_asTheyAre [.ref 67] D
set_option maxRecDepth 100000 in
theorem F_X9_asTheyAre_2_eq (n2 : Nat) (v1 : Int32) (D : hy_M) : F_X9_asTheyAre_2 (n2 + 1) v1 D = (if v1 < (8 : Int32) then (if hy_in v1 8 = true then (F_X9_asTheyAre_2 n2 (v1 + (1 : Int32)) (hy_w D 72 (v1).toNatClampNeg v1)) else none) else (some D)) := by
  rfl
set_option maxRecDepth 100000 in
theorem F_X9_asTheyAre_eq  (D : hy_M) : F_X9_asTheyAre D = (F_X9_asTheyAre_2 300 (0 : Int32) D) := by
  rfl
def F_X9_wantedAt (a1 : Int32) (a2 : Int32) (D : hy_M) : Option (Int32 × hy_M) := g_X9_wantedAt [.ref 67, .int a1, .int a2] D
set_option maxRecDepth 100000 in
theorem F_X9_wantedAt_eq (a1 : Int32) (a2 : Int32) (D : hy_M) : F_X9_wantedAt a1 a2 D = (if hy_in (((30 : Int32) + ((8 : Int32) * a1)) + a2) 94 = true then (some ((D 68 ((((30 : Int32) + ((8 : Int32) * a1)) + a2)).toNatClampNeg), D)) else none) := by
  rfl
def F_X9_chainsOf_20 (n20 : Nat) (v1 : Int32) (v2 : Int32) (v3 : Int32) (D : hy_M) : Option (Int32 × hy_M) := b_X9_chainsOf_20  n20 [some (.ref 67), some (.int v1), some (.int v2), some (.int v3)] [] D
def F_X9_chainsOf (a1 : Int32) (D : hy_M) : Option (Int32 × hy_M) := g_X9_chainsOf [.ref 67, .int a1] D
set_option maxRecDepth 100000 in
theorem F_X9_chainsOf_20_eq (n20 : Nat) (v1 : Int32) (v2 : Int32) (v3 : Int32) (D : hy_M) : F_X9_chainsOf_20 (n20 + 1) v1 v2 v3 D = (if hy_in ((28 : Int32) + v1) 94 = true then (if v3 < (D 68 (((28 : Int32) + v1)).toNatClampNeg) then ((F_X9_wantedAt v1 v3 D).bind (fun q1 => (if hy_in q1.1 8 = true then ((F_X9_wantedAt v1 (v3 - (1 : Int32)) q1.2).bind (fun q2 => (if hy_in q2.1 8 = true then (if (q1.2 72 (q1.1).toNatClampNeg) < (q2.2 72 (q2.1).toNatClampNeg) then (F_X9_chainsOf_20 n20 v1 (v2 + (1 : Int32)) (v3 + (1 : Int32)) q2.2) else (F_X9_chainsOf_20 n20 v1 (v2 + (0 : Int32)) (v3 + (1 : Int32)) q2.2)) else none))) else none))) else (some (v2, D))) else none) := by
  rfl
set_option maxRecDepth 100000 in
theorem F_X9_chainsOf_eq (a1 : Int32) (D : hy_M) : F_X9_chainsOf a1 D = (if hy_in ((28 : Int32) + a1) 94 = true then (if 0 < (D 68 (((28 : Int32) + a1)).toNatClampNeg) then (F_X9_chainsOf_20 300 a1 (1 : Int32) (1 : Int32) D) else (F_X9_chainsOf_20 300 a1 (0 : Int32) (1 : Int32) D)) else none) := by
  rfl
def F_X9_need  (D : hy_M) : Option (Int32 × hy_M) := g_X9_need [.ref 67] D
set_option maxRecDepth 100000 in
theorem F_X9_need_eq  (D : hy_M) : F_X9_need D = ((F_X9_chainsOf (0 : Int32) D).bind (fun q1 => ((F_X9_chainsOf (1 : Int32) q1.2).bind (fun q2 => (if q2.1 < q1.1 then (some (q1.1, q2.2)) else (some (q2.1, q2.2))))))) := by
  rfl
def F_X9_mayBe (a0 : Int32) (a1 : Int32) (D : hy_M) : Option (Int32 × hy_M) := g_X9_mayBe [.int a0, .int a1] D
set_option maxRecDepth 100000 in
theorem F_X9_mayBe_eq (a0 : Int32) (a1 : Int32) (D : hy_M) : F_X9_mayBe a0 a1 D = ((F_X9_ones a0 D).bind (fun q1 => (if a1 = 0 then (some ((1 : Int32), q1.2)) else (if a1 = 1 then (if (1 : Int32) < q1.1 then (some ((0 : Int32), q1.2)) else (some ((1 : Int32), q1.2))) else (if a1 = 2 then (if (2 : Int32) < q1.1 then (some ((0 : Int32), q1.2)) else (some ((1 : Int32), q1.2))) else (if (1 : Int32) < q1.1 then (if q1.1 = (2 : Int32) then (if (a0 &&& (a0 >>> ((1 : Int32) &&& 31))) = 0 then (some ((0 : Int32), q1.2)) else (some ((1 : Int32), q1.2))) else (some ((0 : Int32), q1.2))) else (some ((1 : Int32), q1.2)))))))) := by
  rfl
def F_X9_fewestFor_2 (n2 : Nat) (v1 : Int32) (v2 : Int32) (D : hy_M) : Option (Int32 × hy_M) := b_X9_fewestFor_2  n2 [some (.ref 67), some (.int v1), some (.int v2), none, none] [] D
def F_X9_fewestFor_13 (n2 : Nat) (n13 : Nat) (v1 : Int32) (v2 : Int32) (v3 : Int32) (v4 : Int32) (D : hy_M) : Option (Int32 × hy_M) := b_X9_fewestFor_13 (b_X9_fewestFor_2  n2) n13 [some (.ref 67), some (.int v1), some (.int v2), some (.int v3), some (.int v4)] [] D
def F_X9_fewestFor (a1 : Int32) (D : hy_M) : Option (Int32 × hy_M) := g_X9_fewestFor [.ref 67, .int a1] D
set_option maxRecDepth 100000 in
theorem F_X9_fewestFor_2_eq (n2 : Nat) (v1 : Int32) (v2 : Int32) (D : hy_M) : F_X9_fewestFor_2 (n2 + 1) v1 v2 D = (if v2 < (8 : Int32) then (F_X9_fewestFor_13 n2 300 v1 v2 (0 : Int32) (0 : Int32) D) else (some ((8 : Int32), D))) := by
  rfl
set_option maxRecDepth 100000 in
theorem F_X9_fewestFor_13_eq (n2 : Nat) (n13 : Nat) (v1 : Int32) (v2 : Int32) (v3 : Int32) (v4 : Int32) (D : hy_M) : F_X9_fewestFor_13 n2 (n13 + 1) v1 v2 v3 v4 D = (if v4 < ((1 : Int32) <<< (v2 &&& 31)) then ((F_X9_mayBe v4 (D 68 1) D).bind (fun q1 => (if q1.1 = 0 then (F_X9_fewestFor_13 n2 n13 v1 v2 (v3 + (0 : Int32)) (v4 + (1 : Int32)) q1.2) else (F_X9_fewestFor_13 n2 n13 v1 v2 (v3 + (1 : Int32)) (v4 + (1 : Int32)) q1.2)))) else (if v3 < v1 then (F_X9_fewestFor_2 n2 v1 (v2 + (1 : Int32)) D) else (some (v2, D)))) := by
  rfl
set_option maxRecDepth 100000 in
theorem F_X9_fewestFor_eq (a1 : Int32) (D : hy_M) : F_X9_fewestFor a1 D = (F_X9_fewestFor_2 300 a1 (0 : Int32) D) := by
  rfl
def F_X9_fewestNow  (D : hy_M) : Option (Int32 × hy_M) := g_X9_fewestNow [.ref 67] D
set_option maxRecDepth 100000 in
theorem F_X9_fewestNow_eq  (D : hy_M) : F_X9_fewestNow D = ((F_X9_asTheyAre D).bind (fun q1 => ((F_X9_need q1).bind (fun q2 => ((F_X9_fewestFor q2.1 q2.2).bind (fun q3 => (some (q3.1, q3.2)))))))) := by
  rfl
def F_X9_placeOf_2 (n2 : Nat) (v1 : Int32) (v2 : Int32) (D : hy_M) : Option (Int32 × hy_M) := b_X9_placeOf_2  n2 [some (.ref 67), some (.int v1), some (.int v2)] [] D
def F_X9_placeOf (a1 : Int32) (D : hy_M) : Option (Int32 × hy_M) := g_X9_placeOf [.ref 67, .int a1] D
set_option maxRecDepth 100000 in
theorem F_X9_placeOf_2_eq (n2 : Nat) (v1 : Int32) (v2 : Int32) (D : hy_M) : F_X9_placeOf_2 (n2 + 1) v1 v2 D = (if hy_in ((20 : Int32) + v1) 94 = true then ((F_X9_wantedAt (D 68 (((20 : Int32) + v1)).toNatClampNeg) v2 D).bind (fun q1 => (if q1.1 = v1 then (some (v2, q1.2)) else (F_X9_placeOf_2 n2 v1 (v2 + (1 : Int32)) q1.2)))) else none) := by
  rfl
set_option maxRecDepth 100000 in
theorem F_X9_placeOf_eq (a1 : Int32) (D : hy_M) : F_X9_placeOf a1 D = (F_X9_placeOf_2 300 a1 (0 : Int32) D) := by
  rfl
def F_X9_chainOf_19 (n19 : Nat) (v2 : Int32) (v3 : Int32) (v4 : Int32) (D : hy_M) : Option (Int32 × hy_M) := b_X9_chainOf_19  n19 [some (.ref 67), none, some (.int v2), some (.int v3), some (.int v4)] [] D
def F_X9_chainOf (a1 : Int32) (D : hy_M) : Option (Int32 × hy_M) := g_X9_chainOf [.ref 67, .int a1] D
set_option maxRecDepth 100000 in
theorem F_X9_chainOf_19_eq (n19 : Nat) (v2 : Int32) (v3 : Int32) (v4 : Int32) (D : hy_M) : F_X9_chainOf_19 (n19 + 1) v2 v3 v4 D = (if 0 < v4 then ((F_X9_wantedAt v3 v4 D).bind (fun q1 => ((F_X9_wantedAt v3 (v4 - (1 : Int32)) q1.2).bind (fun q2 => (if q1.1 < q2.1 then (F_X9_chainOf_19 n19 (v2 + (1 : Int32)) v3 (v4 + (-1 : Int32)) q2.2) else (F_X9_chainOf_19 n19 (v2 + (0 : Int32)) v3 (v4 + (-1 : Int32)) q2.2)))))) else (some (v2, D))) := by
  rfl
set_option maxRecDepth 100000 in
theorem F_X9_chainOf_eq (a1 : Int32) (D : hy_M) : F_X9_chainOf a1 D = (if hy_in ((20 : Int32) + a1) 94 = true then ((F_X9_placeOf a1 D).bind (fun q1 => (F_X9_chainOf_19 300 (0 : Int32) (D 68 (((20 : Int32) + a1)).toNatClampNeg) q1.1 q1.2))) else none) := by
  rfl
def F_X9_codeOf_4 (n4 : Nat) (v2 : Int32) (v3 : Int32) (D : hy_M) : Option (Int32 × hy_M) := b_X9_codeOf_4  n4 [some (.ref 67), none, some (.int v2), some (.int v3)] [] D
def F_X9_codeOf_21 (n4 : Nat) (v2 : Int32) (v3 : Int32) (D : hy_M) : Option (Int32 × hy_M) := b_X9_codeOf_21 (b_X9_codeOf_4  n4) [some (.ref 67), none, some (.int v2), some (.int v3)] [] D
def F_X9_codeOf (a1 : Int32) (D : hy_M) : Option (Int32 × hy_M) := g_X9_codeOf [.ref 67, .int a1] D
set_option maxRecDepth 100000 in
theorem F_X9_codeOf_4_eq (n4 : Nat) (v2 : Int32) (v3 : Int32) (D : hy_M) : F_X9_codeOf_4 (n4 + 1) v2 v3 D = (if 0 < v2 then (F_X9_codeOf_21 n4 v2 v3 D) else ((F_X9_mayBe v3 (D 68 1) D).bind (fun q1 => (if q1.1 = 0 then (F_X9_codeOf_21 n4 v2 v3 q1.2) else (some (v3, q1.2)))))) := by
  rfl
set_option maxRecDepth 100000 in
theorem F_X9_codeOf_21_eq (n4 : Nat) (v2 : Int32) (v3 : Int32) (D : hy_M) : F_X9_codeOf_21 n4 v2 v3 D = ((F_X9_mayBe v3 (D 68 1) D).bind (fun q1 => (if q1.1 = 0 then (F_X9_codeOf_4 n4 (v2 - (0 : Int32)) (v3 + (1 : Int32)) q1.2) else (F_X9_codeOf_4 n4 (v2 - (1 : Int32)) (v3 + (1 : Int32)) q1.2)))) := by
  rfl
set_option maxRecDepth 100000 in
theorem F_X9_codeOf_eq (a1 : Int32) (D : hy_M) : F_X9_codeOf a1 D = (F_X9_codeOf_4 300 a1 (0 : Int32) D) := by
  rfl
def F_X9_whereIs_2 (n2 : Nat) (v1 : Int32) (v2 : Int32) (D : hy_M) : Option (Int32 × hy_M) := b_X9_whereIs_2  n2 [some (.ref 67), some (.int v1), some (.int v2), none] [] D
def F_X9_whereIs_9 (n2 : Nat) (n9 : Nat) (v1 : Int32) (v2 : Int32) (v3 : Int32) (D : hy_M) : Option (Int32 × hy_M) := b_X9_whereIs_9 (b_X9_whereIs_2  n2) n9 [some (.ref 67), some (.int v1), some (.int v2), some (.int v3)] [] D
def F_X9_whereIs_66 (n66 : Nat) (v1 : Int32) (v2 : Int32) (v3 : Int32) (D : hy_M) : Option (Int32 × hy_M) := b_X9_whereIs_66  n66 [some (.ref 67), some (.int v1), some (.int v2), some (.int v3)] [] D
def F_X9_whereIs (a1 : Int32) (D : hy_M) : Option (Int32 × hy_M) := g_X9_whereIs [.ref 67, .int a1] D
set_option maxRecDepth 100000 in
theorem F_X9_whereIs_2_eq (n2 : Nat) (v1 : Int32) (v2 : Int32) (D : hy_M) : F_X9_whereIs_2 (n2 + 1) v1 v2 D = (if v2 < (3 : Int32) then (F_X9_whereIs_9 n2 300 v1 v2 (0 : Int32) D) else (if hy_in ((20 : Int32) + v1) 94 = true then (F_X9_whereIs_66 300 v1 (D 68 (((20 : Int32) + v1)).toNatClampNeg) (0 : Int32) D) else none)) := by
  rfl
set_option maxRecDepth 100000 in
theorem F_X9_whereIs_9_eq (n2 : Nat) (n9 : Nat) (v1 : Int32) (v2 : Int32) (v3 : Int32) (D : hy_M) : F_X9_whereIs_9 n2 (n9 + 1) v1 v2 v3 D = (if hy_in ((67 : Int32) + v2) 94 = true then (if v3 < (D 68 (((67 : Int32) + v2)).toNatClampNeg) then (if hy_in (((70 : Int32) + ((8 : Int32) * v2)) + v3) 94 = true then (if (D 68 ((((70 : Int32) + ((8 : Int32) * v2)) + v3)).toNatClampNeg) = v1 then (some (v2, D)) else (F_X9_whereIs_9 n2 n9 v1 v2 (v3 + (1 : Int32)) D)) else none) else (F_X9_whereIs_2 n2 v1 (v2 + (1 : Int32)) D)) else none) := by
  rfl
set_option maxRecDepth 100000 in
theorem F_X9_whereIs_66_eq (n66 : Nat) (v1 : Int32) (v2 : Int32) (v3 : Int32) (D : hy_M) : F_X9_whereIs_66 (n66 + 1) v1 v2 v3 D = (if hy_in ((49 : Int32) + v2) 94 = true then (if v3 < (D 68 (((49 : Int32) + v2)).toNatClampNeg) then (if hy_in (((51 : Int32) + ((8 : Int32) * v2)) + v3) 94 = true then (if (D 68 ((((51 : Int32) + ((8 : Int32) * v2)) + v3)).toNatClampNeg) = v1 then (some (((10 : Int32) + v2), D)) else (F_X9_whereIs_66 n66 v1 v2 (v3 + (1 : Int32)) D)) else none) else (some ((-5 : Int32), D))) else none) := by
  rfl
set_option maxRecDepth 100000 in
theorem F_X9_whereIs_eq (a1 : Int32) (D : hy_M) : F_X9_whereIs a1 D = (F_X9_whereIs_2 300 a1 (0 : Int32) D) := by
  rfl
def F_X9_wagon (a1 : Int32) (a2 : Int32) (D : hy_M) : Option (Int32 × hy_M) := g_X9_wagon [.ref 67, .int a1, .int a2] D
set_option maxRecDepth 100000 in
theorem F_X9_wagon_eq (a1 : Int32) (a2 : Int32) (D : hy_M) : F_X9_wagon a1 a2 D = ((F_X9_isWagon a1 D).bind (fun q1 => (if q1.1 = 0 then (some ((-1 : Int32), q1.2)) else (if a2 = 0 then (if hy_in ((4 : Int32) + a1) 94 = true then (some ((q1.2 68 (((4 : Int32) + a1)).toNatClampNeg), q1.2)) else none) else (if a2 = 1 then (if hy_in ((12 : Int32) + a1) 94 = true then (some ((q1.2 68 (((12 : Int32) + a1)).toNatClampNeg), q1.2)) else none) else (if a2 = 2 then (if hy_in ((20 : Int32) + a1) 94 = true then (some ((q1.2 68 (((20 : Int32) + a1)).toNatClampNeg), q1.2)) else none) else (if a2 = 3 then ((F_X9_placeOf a1 q1.2).bind (fun q8 => (some (q8.1, q8.2)))) else (if a2 = 4 then ((F_X9_chainOf a1 q1.2).bind (fun q7 => (some (q7.1, q7.2)))) else (if a2 = 5 then ((F_X9_whereIs a1 q1.2).bind (fun q6 => (some (q6.1, q6.2)))) else (if a2 = 6 then (if hy_in ((12 : Int32) + a1) 94 = true then ((F_X9_ones (q1.2 68 (((12 : Int32) + a1)).toNatClampNeg) q1.2).bind (fun q5 => (some (q5.1, q5.2)))) else none) else (if a2 = 7 then ((F_X9_fewestNow q1.2).bind (fun q2 => (if (3 : Int32) < q2.1 then (some ((-5 : Int32), q2.2)) else ((F_X9_chainOf a1 q2.2).bind (fun q3 => ((F_X9_codeOf q3.1 q3.2).bind (fun q4 => (some (q4.1, q4.2))))))))) else (some ((-1 : Int32), q1.2))))))))))))) := by
  rfl
def F_X9_isTrain (a0 : Int32) (D : hy_M) : Option (Int32 × hy_M) := g_X9_isTrain [.int a0] D
set_option maxRecDepth 100000 in
theorem F_X9_isTrain_eq (a0 : Int32) (D : hy_M) : F_X9_isTrain a0 D = ((F_X9_isIn (a0).toInt64 (0 : Int64) (1 : Int64) D).bind (fun q1 => (if q1.1 = 0 ∨ q1.1 = 1 then some (q1.1, q1.2) else none))) := by
  rfl
def F_X9_wanted (a1 : Int32) (a2 : Int32) (D : hy_M) : Option (Int32 × hy_M) := g_X9_wanted [.ref 67, .int a1, .int a2] D
set_option maxRecDepth 100000 in
theorem F_X9_wanted_eq (a1 : Int32) (a2 : Int32) (D : hy_M) : F_X9_wanted a1 a2 D = ((F_X9_isTrain a1 D).bind (fun q1 => (if q1.1 = 0 then (some ((-1 : Int32), q1.2)) else (if hy_in ((28 : Int32) + a1) 94 = true then ((F_X9_isIn (a2).toInt64 (-1 : Int64) (((q1.2 68 (((28 : Int32) + a1)).toNatClampNeg) - (1 : Int32))).toInt64 q1.2).bind (fun q2 => (if q2.1 = 0 then (some ((-1 : Int32), q2.2)) else (if a2 < 0 then (if hy_in ((28 : Int32) + a1) 94 = true then (some ((q2.2 68 (((28 : Int32) + a1)).toNatClampNeg), q2.2)) else none) else ((F_X9_wantedAt a1 a2 q2.2).bind (fun q3 => (some (q3.1, q3.2)))))))) else none)))) := by
  rfl
def F_X9_loadOf_4 (n4 : Nat) (v1 : Int32) (v2 : Int32) (v3 : Int32) (D : hy_M) : Option (Int32 × hy_M) := b_X9_loadOf_4  n4 [some (.ref 67), some (.int v1), some (.int v2), some (.int v3)] [] D
def F_X9_loadOf (a1 : Int32) (D : hy_M) : Option (Int32 × hy_M) := g_X9_loadOf [.ref 67, .int a1] D
set_option maxRecDepth 100000 in
theorem F_X9_loadOf_4_eq (n4 : Nat) (v1 : Int32) (v2 : Int32) (v3 : Int32) (D : hy_M) : F_X9_loadOf_4 (n4 + 1) v1 v2 v3 D = (if v3 < (D 68 0) then (if hy_in ((12 : Int32) + v3) 94 = true then ((F_X9_has (D 68 (((12 : Int32) + v3)).toNatClampNeg) v1 D).bind (fun q1 => (if q1.1 = 0 then (F_X9_loadOf_4 n4 v1 (v2 + (0 : Int32)) (v3 + (1 : Int32)) q1.2) else (if hy_in ((4 : Int32) + v3) 94 = true then (F_X9_loadOf_4 n4 v1 (v2 + (q1.2 68 (((4 : Int32) + v3)).toNatClampNeg)) (v3 + (1 : Int32)) q1.2) else none)))) else none) else (some (v2, D))) := by
  rfl
set_option maxRecDepth 100000 in
theorem F_X9_loadOf_eq (a1 : Int32) (D : hy_M) : F_X9_loadOf a1 D = (F_X9_loadOf_4 300 a1 (0 : Int32) (0 : Int32) D) := by
  rfl
def F_X9_lengthsOn_4 (n4 : Nat) (v1 : Int32) (v2 : Int32) (v3 : Int32) (D : hy_M) : Option (Int32 × hy_M) := b_X9_lengthsOn_4  n4 [some (.ref 67), some (.int v1), some (.int v2), some (.int v3)] [] D
def F_X9_lengthsOn (a1 : Int32) (D : hy_M) : Option (Int32 × hy_M) := g_X9_lengthsOn [.ref 67, .int a1] D
set_option maxRecDepth 100000 in
theorem F_X9_lengthsOn_4_eq (n4 : Nat) (v1 : Int32) (v2 : Int32) (v3 : Int32) (D : hy_M) : F_X9_lengthsOn_4 (n4 + 1) v1 v2 v3 D = (if hy_in ((67 : Int32) + v1) 94 = true then (if v3 < (D 68 (((67 : Int32) + v1)).toNatClampNeg) then (if hy_in (((70 : Int32) + ((8 : Int32) * v1)) + v3) 94 = true then (if hy_in ((4 : Int32) + (D 68 ((((70 : Int32) + ((8 : Int32) * v1)) + v3)).toNatClampNeg)) 94 = true then (F_X9_lengthsOn_4 n4 v1 (v2 + (D 68 (((4 : Int32) + (D 68 ((((70 : Int32) + ((8 : Int32) * v1)) + v3)).toNatClampNeg))).toNatClampNeg)) (v3 + (1 : Int32)) D) else none) else none) else (some (v2, D))) else none) := by
  rfl
set_option maxRecDepth 100000 in
theorem F_X9_lengthsOn_eq (a1 : Int32) (D : hy_M) : F_X9_lengthsOn a1 D = (F_X9_lengthsOn_4 300 a1 (0 : Int32) (0 : Int32) D) := by
  rfl
def F_X9_track (a1 : Int32) (a2 : Int32) (D : hy_M) : Option (Int32 × hy_M) := g_X9_track [.ref 67, .int a1, .int a2] D
set_option maxRecDepth 100000 in
theorem F_X9_track_eq (a1 : Int32) (a2 : Int32) (D : hy_M) : F_X9_track a1 a2 D = ((F_X9_isTrack a1 D).bind (fun q1 => (if q1.1 = 0 then (some ((-1 : Int32), q1.2)) else ((F_X9_isIn (a2).toInt64 (0 : Int64) (2 : Int64) q1.2).bind (fun q2 => (if q2.1 = 0 then (if hy_in ((67 : Int32) + a1) 94 = true then ((F_X9_isIn (a2).toInt64 (10 : Int64) (((9 : Int32) + (q2.2 68 (((67 : Int32) + a1)).toNatClampNeg))).toInt64 q2.2).bind (fun q3 => (if q3.1 = 0 then (some ((-1 : Int32), q3.2)) else (if hy_in ((((70 : Int32) + ((8 : Int32) * a1)) + a2) - (10 : Int32)) 94 = true then (some ((q3.2 68 (((((70 : Int32) + ((8 : Int32) * a1)) + a2) - (10 : Int32))).toNatClampNeg), q3.2)) else none)))) else none) else (if a2 = 0 then (if hy_in ((46 : Int32) + a1) 94 = true then (some ((q2.2 68 (((46 : Int32) + a1)).toNatClampNeg), q2.2)) else none) else (if a2 = (1 : Int32) then ((F_X9_lengthsOn a1 q2.2).bind (fun q3 => (some (q3.1, q3.2)))) else ((F_X9_loadOf a1 q2.2).bind (fun q3 => (some (q3.1, q3.2)))))))))))) := by
  rfl
def F_X9_chains (a1 : Int32) (D : hy_M) : Option (Int32 × hy_M) := g_X9_chains [.ref 67, .int a1] D
set_option maxRecDepth 100000 in
theorem F_X9_chains_eq (a1 : Int32) (D : hy_M) : F_X9_chains a1 D = ((F_X9_asTheyAre D).bind (fun q1 => ((F_X9_isTrain a1 q1).bind (fun q2 => (if q2.1 = 0 then (if a1 = (2 : Int32) then ((F_X9_need q2.2).bind (fun q3 => (some (q3.1, q3.2)))) else (some ((-1 : Int32), q2.2))) else ((F_X9_chainsOf a1 q2.2).bind (fun q3 => (some (q3.1, q3.2))))))))) := by
  rfl
def F_X9_mayAll_4 (n4 : Nat) (v1 : Int32) (v2 : Int32) (D : hy_M) : Option (Int32 × hy_M) := b_X9_mayAll_4  n4 [some (.ref 67), some (.int v1), some (.int v2)] [] D
def F_X9_mayAll  (D : hy_M) : Option (Int32 × hy_M) := g_X9_mayAll [.ref 67] D
set_option maxRecDepth 100000 in
theorem F_X9_mayAll_4_eq (n4 : Nat) (v1 : Int32) (v2 : Int32) (D : hy_M) : F_X9_mayAll_4 (n4 + 1) v1 v2 D = (if v2 < (8 : Int32) then ((F_X9_mayBe v2 (D 68 1) D).bind (fun q1 => (if q1.1 = 0 then (F_X9_mayAll_4 n4 (v1 + (0 : Int32)) (v2 + (1 : Int32)) q1.2) else (F_X9_mayAll_4 n4 (v1 + (1 : Int32)) (v2 + (1 : Int32)) q1.2)))) else (some (v1, D))) := by
  rfl
set_option maxRecDepth 100000 in
theorem F_X9_mayAll_eq  (D : hy_M) : F_X9_mayAll D = (F_X9_mayAll_4 300 (0 : Int32) (0 : Int32) D) := by
  rfl
def F_X9_fewest (a1 : Int32) (D : hy_M) : Option (Int32 × hy_M) := g_X9_fewest [.ref 67, .int a1] D
set_option maxRecDepth 100000 in
theorem F_X9_fewest_eq (a1 : Int32) (D : hy_M) : F_X9_fewest a1 D = (if a1 = 0 then ((F_X9_fewestNow D).bind (fun q1 => (some (q1.1, q1.2)))) else (if a1 = (1 : Int32) then ((F_X9_mayAll D).bind (fun q1 => (some (q1.1, q1.2)))) else ((F_X9_isIn (a1).toInt64 (10 : Int64) (17 : Int64) D).bind (fun q1 => (if q1.1 = 0 then (some ((-1 : Int32), q1.2)) else ((F_X9_mayBe (a1 - (10 : Int32)) (q1.2 68 1) q1.2).bind (fun q2 => (if q2.1 = 0 then (some ((0 : Int32), q2.2)) else (some ((1 : Int32), q2.2)))))))))) := by
  rfl
def F_X9_stepsOf (a0 : Int32) (D : hy_M) : Option (Int32 × hy_M) := g_X9_stepsOf [.int a0] D
set_option maxRecDepth 100000 in
theorem F_X9_stepsOf_eq (a0 : Int32) (D : hy_M) : F_X9_stepsOf a0 D = (if (3 : Int32) < a0 then (some ((3 : Int32), D)) else (if (1 : Int32) < a0 then (some ((2 : Int32), D)) else (some (a0, D)))) := by
  rfl
def F_X9_stepsNow_4 (n4 : Nat) (v1 : Int32) (v2 : Int32) (D : hy_M) : Option (Int32 × hy_M) := b_X9_stepsNow_4  n4 [some (.ref 67), some (.int v1), some (.int v2)] [] D
def F_X9_stepsNow  (D : hy_M) : Option (Int32 × hy_M) := g_X9_stepsNow [.ref 67] D
set_option maxRecDepth 100000 in
theorem F_X9_stepsNow_4_eq (n4 : Nat) (v1 : Int32) (v2 : Int32) (D : hy_M) : F_X9_stepsNow_4 (n4 + 1) v1 v2 D = (if v2 < (D 68 0) then (if hy_in ((12 : Int32) + v2) 94 = true then (F_X9_stepsNow_4 n4 (v1 ||| (D 68 (((12 : Int32) + v2)).toNatClampNeg)) (v2 + (1 : Int32)) D) else none) else ((F_X9_stepsOf v1 D).bind (fun q1 => (some (q1.1, q1.2))))) := by
  rfl
set_option maxRecDepth 100000 in
theorem F_X9_stepsNow_eq  (D : hy_M) : F_X9_stepsNow D = (F_X9_stepsNow_4 300 (0 : Int32) (0 : Int32) D) := by
  rfl
def F_X9_presort_26 (n26 : Nat) (v1 : Int32) (D : hy_M) : Option (Int32 × hy_M) := b_X9_presort_26  n26 [some (.ref 67), some (.int v1)] [] D
def F_X9_presort  (D : hy_M) : Option (Int32 × hy_M) := g_X9_presort [.ref 67] D
set_option maxRecDepth 100000 in
theorem F_X9_presort_26_eq (n26 : Nat) (v1 : Int32) (D : hy_M) : F_X9_presort_26 (n26 + 1) v1 D = (if v1 < (D 68 0) then ((F_X9_chainOf v1 D).bind (fun q1 => ((F_X9_codeOf q1.1 q1.2).bind (fun q2 => (if hy_in ((12 : Int32) + v1) 94 = true then (F_X9_presort_26 n26 (v1 + (1 : Int32)) (hy_w q2.2 68 (((12 : Int32) + v1)).toNatClampNeg q2.1)) else none))))) else ((F_X9_stepsNow D).bind (fun q1 => (some (q1.1, q1.2))))) := by
  rfl
set_option maxRecDepth 100000 in
theorem F_X9_presort_eq  (D : hy_M) : F_X9_presort D = (if (D 68 2) = (1 : Int32) then (some ((-3 : Int32), D)) else ((F_X9_fewestNow D).bind (fun q1 => (if (3 : Int32) < q1.1 then (some ((-5 : Int32), q1.2)) else (F_X9_presort_26 300 (0 : Int32) q1.2))))) := by
  rfl
def F_X9_rollsNow_9 (n9 : Nat) (v1 : Int32) (v2 : Int32) (D : hy_M) : Option (Int32 × hy_M) := b_X9_rollsNow_9  n9 [some (.ref 67), some (.int v1), some (.int v2)] [] D
def F_X9_rollsNow  (D : hy_M) : Option (Int32 × hy_M) := g_X9_rollsNow [.ref 67] D
set_option maxRecDepth 100000 in
theorem F_X9_rollsNow_9_eq (n9 : Nat) (v1 : Int32) (v2 : Int32) (D : hy_M) : F_X9_rollsNow_9 (n9 + 1) v1 v2 D = (if v2 < (D 68 0) then (if hy_in ((12 : Int32) + v2) 94 = true then ((F_X9_ones (D 68 (((12 : Int32) + v2)).toNatClampNeg) D).bind (fun q1 => (F_X9_rollsNow_9 n9 (v1 + q1.1) (v2 + (1 : Int32)) q1.2))) else none) else (some (v1, D))) := by
  rfl
set_option maxRecDepth 100000 in
theorem F_X9_rollsNow_eq  (D : hy_M) : F_X9_rollsNow D = (F_X9_rollsNow_9 300 (D 68 0) (0 : Int32) D) := by
  rfl
def F_X9_notRight_2 (n2 : Nat) (v1 : Int32) (D : hy_M) : Option (Int32 × hy_M) := b_X9_notRight_2  n2 [some (.ref 67), some (.int v1), none, none, none] [] D
def F_X9_notRight_9 (n2 : Nat) (n9 : Nat) (v1 : Int32) (v2 : Int32) (D : hy_M) : Option (Int32 × hy_M) := b_X9_notRight_9 (b_X9_notRight_2  n2) n9 [some (.ref 67), some (.int v1), some (.int v2), none, none] [] D
def F_X9_notRight_69 (n2 : Nat) (n9 : Nat) (v1 : Int32) (v2 : Int32) (v4 : Int32) (vs2 : Int32) (vs1 : Int32) (vs0 : Int32) (D : hy_M) : Option (Int32 × hy_M) := b_X9_notRight_69 (b_X9_notRight_2  n2) (b_X9_notRight_9 (b_X9_notRight_2  n2) n9) [some (.ref 67), some (.int v1), some (.int v2), none, some (.int v4)] [.int vs0, .int vs1, .int vs2] D
def F_X9_notRight  (D : hy_M) : Option (Int32 × hy_M) := g_X9_notRight [.ref 67] D
set_option maxRecDepth 100000 in
theorem F_X9_notRight_2_eq (n2 : Nat) (v1 : Int32) (D : hy_M) : F_X9_notRight_2 (n2 + 1) v1 D = (if v1 < (2 : Int32) then (F_X9_notRight_9 n2 300 v1 (1 : Int32) D) else (some ((-1 : Int32), D))) := by
  rfl
set_option maxRecDepth 100000 in
theorem F_X9_notRight_9_eq (n2 : Nat) (n9 : Nat) (v1 : Int32) (v2 : Int32) (D : hy_M) : F_X9_notRight_9 n2 (n9 + 1) v1 v2 D = (if hy_in ((28 : Int32) + v1) 94 = true then (if v2 < (D 68 (((28 : Int32) + v1)).toNatClampNeg) then ((F_X9_wantedAt v1 (v2 - (1 : Int32)) D).bind (fun q1 => ((F_X9_wantedAt v1 v2 q1.2).bind (fun q2 => (if hy_in ((12 : Int32) + q2.1) 94 = true then (if hy_in ((12 : Int32) + q1.1) 94 = true then (if q2.1 < q1.1 then (F_X9_notRight_69 n2 n9 v1 v2 q2.1 (q2.2 68 (((12 : Int32) + q2.1)).toNatClampNeg) (q2.2 68 (((12 : Int32) + q1.1)).toNatClampNeg) (1 : Int32) q2.2) else (F_X9_notRight_69 n2 n9 v1 v2 q2.1 (q2.2 68 (((12 : Int32) + q2.1)).toNatClampNeg) (q2.2 68 (((12 : Int32) + q1.1)).toNatClampNeg) (0 : Int32) q2.2)) else none) else none))))) else (F_X9_notRight_2 n2 (v1 + (1 : Int32)) D)) else none) := by
  rfl
set_option maxRecDepth 100000 in
theorem F_X9_notRight_69_eq (n2 : Nat) (n9 : Nat) (v1 : Int32) (v2 : Int32) (v4 : Int32) (vs2 : Int32) (vs1 : Int32) (vs0 : Int32) (D : hy_M) : F_X9_notRight_69 n2 n9 v1 v2 v4 vs2 vs1 vs0 D = (if vs2 < (vs1 + vs0) then (some (v4, D)) else (F_X9_notRight_9 n2 n9 v1 (v2 + (1 : Int32)) D)) := by
  rfl
set_option maxRecDepth 100000 in
theorem F_X9_notRight_eq  (D : hy_M) : F_X9_notRight D = (F_X9_notRight_2 300 (0 : Int32) D) := by
  rfl
def F_X9_mayAllCodes_2 (n2 : Nat) (v1 : Int32) (D : hy_M) : Option (Int32 × hy_M) := b_X9_mayAllCodes_2  n2 [some (.ref 67), some (.int v1)] [] D
def F_X9_mayAllCodes  (D : hy_M) : Option (Int32 × hy_M) := g_X9_mayAllCodes [.ref 67] D
set_option maxRecDepth 100000 in
theorem F_X9_mayAllCodes_2_eq (n2 : Nat) (v1 : Int32) (D : hy_M) : F_X9_mayAllCodes_2 (n2 + 1) v1 D = (if v1 < (D 68 0) then (if hy_in ((12 : Int32) + v1) 94 = true then ((F_X9_mayBe (D 68 (((12 : Int32) + v1)).toNatClampNeg) (D 68 1) D).bind (fun q1 => (if q1.1 = 0 then (some ((0 : Int32), q1.2)) else (F_X9_mayAllCodes_2 n2 (v1 + (1 : Int32)) q1.2)))) else none) else (some ((1 : Int32), D))) := by
  rfl
set_option maxRecDepth 100000 in
theorem F_X9_mayAllCodes_eq  (D : hy_M) : F_X9_mayAllCodes D = (F_X9_mayAllCodes_2 300 (0 : Int32) D) := by
  rfl
def F_X9_tooLoaded_2 (n2 : Nat) (v1 : Int32) (D : hy_M) : Option (Int32 × hy_M) := b_X9_tooLoaded_2  n2 [some (.ref 67), some (.int v1)] [] D
def F_X9_tooLoaded  (D : hy_M) : Option (Int32 × hy_M) := g_X9_tooLoaded [.ref 67] D
set_option maxRecDepth 100000 in
theorem F_X9_tooLoaded_2_eq (n2 : Nat) (v1 : Int32) (D : hy_M) : F_X9_tooLoaded_2 (n2 + 1) v1 D = (if v1 < (3 : Int32) then ((F_X9_loadOf v1 D).bind (fun q1 => (if hy_in ((46 : Int32) + v1) 94 = true then (if (q1.2 68 (((46 : Int32) + v1)).toNatClampNeg) < q1.1 then (some (v1, q1.2)) else (F_X9_tooLoaded_2 n2 (v1 + (1 : Int32)) q1.2)) else none))) else (some ((-1 : Int32), D))) := by
  rfl
set_option maxRecDepth 100000 in
theorem F_X9_tooLoaded_eq  (D : hy_M) : F_X9_tooLoaded D = (F_X9_tooLoaded_2 300 (0 : Int32) D) := by
  rfl
def F_X9_right (a1 : Int32) (D : hy_M) : Option (Int32 × hy_M) := g_X9_right [.ref 67, .int a1] D
set_option maxRecDepth 100000 in
theorem F_X9_right_eq (a1 : Int32) (D : hy_M) : F_X9_right a1 D = (if a1 = 0 then ((F_X9_notRight D).bind (fun q6 => (if q6.1 < 0 then (some ((1 : Int32), q6.2)) else (some ((0 : Int32), q6.2))))) else (if a1 = 1 then ((F_X9_notRight D).bind (fun q3 => (if q3.1 < 0 then ((F_X9_mayAllCodes q3.2).bind (fun q4 => (if q4.1 = 0 then (some ((0 : Int32), q4.2)) else ((F_X9_tooLoaded q4.2).bind (fun q5 => (if q5.1 < 0 then (some ((1 : Int32), q5.2)) else (some ((0 : Int32), q5.2)))))))) else (some ((0 : Int32), q3.2))))) else (if a1 = 2 then ((F_X9_stepsNow D).bind (fun q2 => (some (q2.1, q2.2)))) else (if a1 = 3 then ((F_X9_rollsNow D).bind (fun q1 => (some (q1.1, q1.2)))) else (some ((-1 : Int32), D)))))) := by
  rfl
def F_X9_orders_2 (n2 : Nat) (v1 : Int32) (D : hy_M) : Option hy_M := b_X9_orders_2  n2 [some (.ref 67), some (.int v1)] [] D
def F_X9_orders  (D : hy_M) : Option hy_M := g_X9_orders [.ref 67] D
set_option maxRecDepth 100000 in
theorem F_X9_orders_2_eq (n2 : Nat) (v1 : Int32) (D : hy_M) : F_X9_orders_2 (n2 + 1) v1 D = (if v1 < (D 68 0) then (if v1 < (D 68 28) then ((F_X9_wantedAt (0 : Int32) v1 D).bind (fun q1 => (if hy_in v1 8 = true then (F_X9_orders_2 n2 (v1 + (1 : Int32)) (hy_w q1.2 75 (v1).toNatClampNeg q1.1)) else none))) else ((F_X9_wantedAt (1 : Int32) (v1 - (D 68 28)) D).bind (fun q1 => (if hy_in v1 8 = true then (F_X9_orders_2 n2 (v1 + (1 : Int32)) (hy_w q1.2 75 (v1).toNatClampNeg q1.1)) else none)))) else (some D)) := by
  rfl
set_option maxRecDepth 100000 in
theorem F_X9_orders_eq  (D : hy_M) : F_X9_orders D = (F_X9_orders_2 300 (0 : Int32) D) := by
  rfl
