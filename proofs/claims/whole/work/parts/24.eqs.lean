def F_X8_lay_20 (N : Nat) (v1 : Int32) (v2 : Int32) (v3 : Int32) (v4 : Int32) (D : hy_M) : Option (Int32 × hy_M) := b_X8_lay_20 N  [some (.ref 0), some (.int v1), some (.int v2), some (.int v3), some (.int v4), none] [] D
def F_X8_lay (N : Nat) (a1 : Int32) (a2 : Int32) (a3 : Int32) (a4 : Int32) (D : hy_M) : Option (Int32 × hy_M) := g_X8_lay N [.ref 0, .int a1, .int a2, .int a3, .int a4] D
set_option maxRecDepth 100000 in
theorem F_X8_lay_20_eq (N : Nat) (v1 : Int32) (v2 : Int32) (v3 : Int32) (v4 : Int32) (D : hy_M) : F_X8_lay_20 N v1 v2 v3 v4 D = ((F_X3_isList N v3 D).bind (fun q1 => (if q1.1 = 0 then (some ((-1 : Int32), q1.2)) else ((F_X3_holds N v3 q1.2).bind (fun q2 => (if q2.1 = 0 then (some ((-11 : Int32), q2.2)) else (if v1 = (1 : Int32) then ((F_X3_layRow_41_3 N v3 v4 (q2.2 1 0) q2.2).bind (fun q3 => (some (q3.1, q3.2)))) else ((F_X2_outOf N v2 q2.2).bind (fun q3 => (if hy_in q3.1 5 = true then (if hy_in q3.1 5 = true then ((F_X3_layRow N v3 v4 (hy_pr 12 (q3.1).toNatClampNeg) (q3.2 18 (q3.1).toNatClampNeg) q3.2).bind (fun q4 => (some (q4.1, q4.2)))) else none) else none)))))))))) := by
  rfl
set_option maxRecDepth 100000 in
theorem F_X8_lay_eq (N : Nat) (a1 : Int32) (a2 : Int32) (a3 : Int32) (a4 : Int32) (D : hy_M) : F_X8_lay N a1 a2 a3 a4 D = (if a1 < 0 then (some ((-1 : Int32), D)) else (if (1 : Int32) < a1 then (some ((-1 : Int32), D)) else (if a1 = 0 then ((F_X8_isTrain N a2 D).bind (fun q1 => (if q1.1 = 0 then (some ((-1 : Int32), q1.2)) else (F_X8_lay_20 N a1 a2 a3 a4 q1.2)))) else (F_X8_lay_20 N a1 a2 a3 a4 D)))) := by
  rfl
def F_X2_become_29_11_2 (N : Nat) (n2 : Nat) (v2 : Int32) (D : hy_M) : Option hy_M := b_X2_become_2 N  n2 [some (.ref 29), some (.ref 11), some (.int v2)] [] D
def F_X2_become_29_11 (N : Nat)  (D : hy_M) : Option hy_M := g_X2_become N [.ref 29, .ref 11] D
set_option maxRecDepth 100000 in
theorem F_X2_become_29_11_2_eq (N : Nat) (n2 : Nat) (v2 : Int32) (D : hy_M) : F_X2_become_29_11_2 N (n2 + 1) v2 D = (if v2 < (5 : Int32) then (if hy_in v2 5 = true then (if hy_in v2 5 = true then (if hy_in v2 5 = true then (if hy_in v2 5 = true then (if hy_in v2 5 = true then (if hy_rng (0 : Int32) ((hy_w D 36 (v2).toNatClampNeg (D 18 (v2).toNatClampNeg)) 36 (v2).toNatClampNeg) (hy_wl (hy_pr 12 (v2).toNatClampNeg)) = true ∧ hy_rng (0 : Int32) ((hy_w D 36 (v2).toNatClampNeg (D 18 (v2).toNatClampNeg)) 36 (v2).toNatClampNeg) (hy_wl (hy_pr 30 (v2).toNatClampNeg)) = true then (F_X2_become_29_11_2 N n2 (v2 + (1 : Int32)) (hy_cp (hy_w D 36 (v2).toNatClampNeg (D 18 (v2).toNatClampNeg)) (hy_pr 12 (v2).toNatClampNeg) (hy_pr 30 (v2).toNatClampNeg) 0 0 (((hy_w D 36 (v2).toNatClampNeg (D 18 (v2).toNatClampNeg)) 36 (v2).toNatClampNeg)).toNatClampNeg)) else none) else none) else none) else none) else none) else none) else (some D)) := by
  rfl
set_option maxRecDepth 100000 in
theorem F_X2_become_29_11_eq (N : Nat)  (D : hy_M) : F_X2_become_29_11 N D = (F_X2_become_29_11_2 N N (0 : Int32) D) := by
  rfl
def F_X7_become_94 (N : Nat) (n94 : Nat) (v2 : Int32) (D : hy_M) : Option hy_M := b_X7_become_94 N  n94 [some (.ref 19), some (.ref 1), some (.int v2)] [] D
def F_X7_become (N : Nat)  (D : hy_M) : Option hy_M := g_X7_become N [.ref 19, .ref 1] D
set_option maxRecDepth 100000 in
theorem F_X7_become_94_eq (N : Nat) (n94 : Nat) (v2 : Int32) (D : hy_M) : F_X7_become_94 N (n94 + 1) v2 D = (if v2 < (2 : Int32) then (if hy_in v2 2 = true then (if hy_in v2 2 = true then (if hy_rng (0 : Int32) (8 : Int32) (hy_wl (hy_pr 6 (v2).toNatClampNeg)) = true ∧ hy_rng (0 : Int32) (8 : Int32) (hy_wl (hy_pr 24 (v2).toNatClampNeg)) = true then (if hy_in v2 2 = true then (if hy_in v2 2 = true then (F_X7_become_94 N n94 (v2 + (1 : Int32)) (hy_w (hy_cp D (hy_pr 6 (v2).toNatClampNeg) (hy_pr 24 (v2).toNatClampNeg) 0 0 8) 27 (v2).toNatClampNeg ((hy_cp D (hy_pr 6 (v2).toNatClampNeg) (hy_pr 24 (v2).toNatClampNeg) 0 0 8) 9 (v2).toNatClampNeg))) else none) else none) else none) else none) else none) else ((F_X2_become_29_11 N (hy_cp D 10 28 0 0 3)).bind (fun q1 => (some q1)))) := by
  rfl
set_option maxRecDepth 100000 in
theorem F_X7_become_eq (N : Nat)  (D : hy_M) : F_X7_become N D = (if ((hy_w (hy_w D 19 0 (D 1 0)) 19 1 ((hy_w D 19 0 (D 1 0)) 1 1)) 1 2) = 0 ∨ ((hy_w (hy_w D 19 0 (D 1 0)) 19 1 ((hy_w D 19 0 (D 1 0)) 1 1)) 1 2) = 1 then (F_X7_become_94 N N (0 : Int32) (hy_cp (hy_cp (hy_cp (hy_cp (hy_w (hy_w (hy_w (hy_w D 19 0 (D 1 0)) 19 1 ((hy_w D 19 0 (D 1 0)) 1 1)) 19 2 ((hy_w (hy_w D 19 0 (D 1 0)) 19 1 ((hy_w D 19 0 (D 1 0)) 1 1)) 1 2)) 19 3 ((hy_w (hy_w (hy_w D 19 0 (D 1 0)) 19 1 ((hy_w D 19 0 (D 1 0)) 1 1)) 19 2 ((hy_w (hy_w D 19 0 (D 1 0)) 19 1 ((hy_w D 19 0 (D 1 0)) 1 1)) 1 2)) 1 3)) 2 20 0 0 8) 3 21 0 0 8) 4 22 0 0 8) 5 23 0 0 8)) else none) := by
  rfl
def F_X8_image (N : Nat)  (D : hy_M) : Option (Int32 × hy_M) := g_X8_image N [.ref 0] D
set_option maxRecDepth 100000 in
theorem F_X8_image_eq (N : Nat)  (D : hy_M) : F_X8_image N D = ((F_X7_become N D).bind (fun q1 => (some (((hy_w q1 0 2 (1 : Int32)) 19 0), (hy_w q1 0 2 (1 : Int32)))))) := by
  rfl
def F_X2_become_11_29_2 (N : Nat) (n2 : Nat) (v2 : Int32) (D : hy_M) : Option hy_M := b_X2_become_2 N  n2 [some (.ref 11), some (.ref 29), some (.int v2)] [] D
def F_X2_become_11_29 (N : Nat)  (D : hy_M) : Option hy_M := g_X2_become N [.ref 11, .ref 29] D
set_option maxRecDepth 100000 in
theorem F_X2_become_11_29_2_eq (N : Nat) (n2 : Nat) (v2 : Int32) (D : hy_M) : F_X2_become_11_29_2 N (n2 + 1) v2 D = (if v2 < (5 : Int32) then (if hy_in v2 5 = true then (if hy_in v2 5 = true then (if hy_in v2 5 = true then (if hy_in v2 5 = true then (if hy_in v2 5 = true then (if hy_rng (0 : Int32) ((hy_w D 18 (v2).toNatClampNeg (D 36 (v2).toNatClampNeg)) 18 (v2).toNatClampNeg) (hy_wl (hy_pr 30 (v2).toNatClampNeg)) = true ∧ hy_rng (0 : Int32) ((hy_w D 18 (v2).toNatClampNeg (D 36 (v2).toNatClampNeg)) 18 (v2).toNatClampNeg) (hy_wl (hy_pr 12 (v2).toNatClampNeg)) = true then (F_X2_become_11_29_2 N n2 (v2 + (1 : Int32)) (hy_cp (hy_w D 18 (v2).toNatClampNeg (D 36 (v2).toNatClampNeg)) (hy_pr 30 (v2).toNatClampNeg) (hy_pr 12 (v2).toNatClampNeg) 0 0 (((hy_w D 18 (v2).toNatClampNeg (D 36 (v2).toNatClampNeg)) 18 (v2).toNatClampNeg)).toNatClampNeg)) else none) else none) else none) else none) else none) else none) else (some D)) := by
  rfl
set_option maxRecDepth 100000 in
theorem F_X2_become_11_29_eq (N : Nat)  (D : hy_M) : F_X2_become_11_29 N D = (F_X2_become_11_29_2 N N (0 : Int32) D) := by
  rfl
def F_X7_become_1_19_94 (N : Nat) (n94 : Nat) (v2 : Int32) (D : hy_M) : Option hy_M := b_X7_become_94 N  n94 [some (.ref 1), some (.ref 19), some (.int v2)] [] D
def F_X7_become_1_19 (N : Nat)  (D : hy_M) : Option hy_M := g_X7_become N [.ref 1, .ref 19] D
set_option maxRecDepth 100000 in
theorem F_X7_become_1_19_94_eq (N : Nat) (n94 : Nat) (v2 : Int32) (D : hy_M) : F_X7_become_1_19_94 N (n94 + 1) v2 D = (if v2 < (2 : Int32) then (if hy_in v2 2 = true then (if hy_in v2 2 = true then (if hy_rng (0 : Int32) (8 : Int32) (hy_wl (hy_pr 24 (v2).toNatClampNeg)) = true ∧ hy_rng (0 : Int32) (8 : Int32) (hy_wl (hy_pr 6 (v2).toNatClampNeg)) = true then (if hy_in v2 2 = true then (if hy_in v2 2 = true then (F_X7_become_1_19_94 N n94 (v2 + (1 : Int32)) (hy_w (hy_cp D (hy_pr 24 (v2).toNatClampNeg) (hy_pr 6 (v2).toNatClampNeg) 0 0 8) 9 (v2).toNatClampNeg ((hy_cp D (hy_pr 24 (v2).toNatClampNeg) (hy_pr 6 (v2).toNatClampNeg) 0 0 8) 27 (v2).toNatClampNeg))) else none) else none) else none) else none) else none) else ((F_X2_become_11_29 N (hy_cp D 28 10 0 0 3)).bind (fun q1 => (some q1)))) := by
  rfl
set_option maxRecDepth 100000 in
theorem F_X7_become_1_19_eq (N : Nat)  (D : hy_M) : F_X7_become_1_19 N D = (if ((hy_w (hy_w D 1 0 (D 19 0)) 1 1 ((hy_w D 1 0 (D 19 0)) 19 1)) 19 2) = 0 ∨ ((hy_w (hy_w D 1 0 (D 19 0)) 1 1 ((hy_w D 1 0 (D 19 0)) 19 1)) 19 2) = 1 then (F_X7_become_1_19_94 N N (0 : Int32) (hy_cp (hy_cp (hy_cp (hy_cp (hy_w (hy_w (hy_w (hy_w D 1 0 (D 19 0)) 1 1 ((hy_w D 1 0 (D 19 0)) 19 1)) 1 2 ((hy_w (hy_w D 1 0 (D 19 0)) 1 1 ((hy_w D 1 0 (D 19 0)) 19 1)) 19 2)) 1 3 ((hy_w (hy_w (hy_w D 1 0 (D 19 0)) 1 1 ((hy_w D 1 0 (D 19 0)) 19 1)) 1 2 ((hy_w (hy_w D 1 0 (D 19 0)) 1 1 ((hy_w D 1 0 (D 19 0)) 19 1)) 19 2)) 19 3)) 20 2 0 0 8) 21 3 0 0 8) 22 4 0 0 8) 23 5 0 0 8)) else none) := by
  rfl
def F_X8_undo (N : Nat)  (D : hy_M) : Option (Int32 × hy_M) := g_X8_undo N [.ref 0] D
set_option maxRecDepth 100000 in
theorem F_X8_undo_eq (N : Nat)  (D : hy_M) : F_X8_undo N D = (if (D 0 2) = 0 then (some ((-3 : Int32), D)) else ((F_X7_become_1_19 N D).bind (fun q1 => (some ((q1 1 0), q1))))) := by
  rfl
def F_X2_countOnTracks_4 (N : Nat) (n4 : Nat) (v1 : Int32) (v2 : Int32) (D : hy_M) : Option (Int32 × hy_M) := b_X2_countOnTracks_4 N  n4 [some (.ref 11), some (.int v1), some (.int v2)] [] D
def F_X2_countOnTracks (N : Nat)  (D : hy_M) : Option (Int32 × hy_M) := g_X2_countOnTracks N [.ref 11] D
set_option maxRecDepth 100000 in
theorem F_X2_countOnTracks_4_eq (N : Nat) (n4 : Nat) (v1 : Int32) (v2 : Int32) (D : hy_M) : F_X2_countOnTracks_4 N (n4 + 1) v1 v2 D = (if v2 < (3 : Int32) then (if hy_in v2 5 = true then (F_X2_countOnTracks_4 N n4 (v1 + (D 18 (v2).toNatClampNeg)) (v2 + (1 : Int32)) D) else none) else (some (v1, D))) := by
  rfl
set_option maxRecDepth 100000 in
theorem F_X2_countOnTracks_eq (N : Nat)  (D : hy_M) : F_X2_countOnTracks N D = (F_X2_countOnTracks_4 N N (0 : Int32) (0 : Int32) D) := by
  rfl
def F_X8_count (N : Nat) (a1 : Int32) (D : hy_M) : Option (Int32 × hy_M) := g_X8_count N [.ref 0, .int a1] D
set_option maxRecDepth 100000 in
theorem F_X8_count_eq (N : Nat) (a1 : Int32) (D : hy_M) : F_X8_count N a1 D = (if a1 = 0 then (some ((D 1 0), D)) else (if a1 = 1 then ((F_X2_countOut N D).bind (fun q2 => (some (q2.1, q2.2)))) else (if a1 = 2 then ((F_X2_countOnTracks N D).bind (fun q1 => (some (q1.1, q1.2)))) else (if a1 = 3 then (some ((D 37 1), D)) else (if a1 = 4 then (some ((D 39 1), D)) else (if a1 = 5 then (some ((D 1 1), D)) else (if a1 = 6 then (if (D 1 2) = 0 then (some ((0 : Int32), D)) else (some ((1 : Int32), D))) else (if a1 = 7 then (some ((D 1 3), D)) else (some ((-2 : Int32), D)))))))))) := by
  rfl
def F_X9_isIn (N : Nat) (a0 : Int64) (a1 : Int64) (a2 : Int64) (D : hy_M) : Option (Int32 × hy_M) := g_X9_isIn N [.long a0, .long a1, .long a2] D
set_option maxRecDepth 100000 in
theorem F_X9_isIn_eq (N : Nat) (a0 : Int64) (a1 : Int64) (a2 : Int64) (D : hy_M) : F_X9_isIn N a0 a1 a2 D = (if (lg_cmp a0 a1) < 0 then (some ((0 : Int32), D)) else (if 0 < (lg_cmp a0 a2) then (some ((0 : Int32), D)) else (some ((1 : Int32), D)))) := by
  rfl
def F_X9_feed_82 (N : Nat) (n82 : Nat) (v1 : Int32) (v2 : Int32) (v3 : Int32) (v4 : Int32) (v5 : Int32) (v6 : Int32) (D : hy_M) : Option (Int32 × hy_M) := b_X9_feed_82 N  n82 [some (.ref 67), some (.int v1), some (.int v2), some (.int v3), some (.int v4), some (.int v5), some (.int v6)] [] D
def F_X9_feed (N : Nat) (a1 : Int32) (a2 : Int32) (a3 : Int32) (a4 : Int32) (a5 : Int32) (D : hy_M) : Option (Int32 × hy_M) := g_X9_feed N [.ref 67, .int a1, .int a2, .int a3, .int a4, .int a5] D
set_option maxRecDepth 100000 in
theorem F_X9_feed_82_eq (N : Nat) (n82 : Nat) (v1 : Int32) (v2 : Int32) (v3 : Int32) (v4 : Int32) (v5 : Int32) (v6 : Int32) (D : hy_M) : F_X9_feed_82 N (n82 + 1) v1 v2 v3 v4 v5 v6 D = (if v6 < v1 then (if v6 = 0 then (if hy_in ((D 67 5) + v6) 40 = true then (F_X9_feed_82 N n82 v1 v2 v3 v4 v5 (v6 + (1 : Int32)) (hy_w D 71 (((D 67 5) + v6)).toNatClampNeg v2)) else none) else (if v6 = (1 : Int32) then (if hy_in ((D 67 5) + v6) 40 = true then (F_X9_feed_82 N n82 v1 v2 v3 v4 v5 (v6 + (1 : Int32)) (hy_w D 71 (((D 67 5) + v6)).toNatClampNeg v3)) else none) else (if v6 = (2 : Int32) then (if hy_in ((D 67 5) + v6) 40 = true then (F_X9_feed_82 N n82 v1 v2 v3 v4 v5 (v6 + (1 : Int32)) (hy_w D 71 (((D 67 5) + v6)).toNatClampNeg v4)) else none) else (if hy_in ((D 67 5) + v6) 40 = true then (F_X9_feed_82 N n82 v1 v2 v3 v4 v5 (v6 + (1 : Int32)) (hy_w D 71 (((D 67 5) + v6)).toNatClampNeg v5)) else none)))) else (some (((hy_w D 67 5 ((D 67 5) + v1)) 67 5), (hy_w D 67 5 ((D 67 5) + v1))))) := by
  rfl
set_option maxRecDepth 100000 in
theorem F_X9_feed_eq (N : Nat) (a1 : Int32) (a2 : Int32) (a3 : Int32) (a4 : Int32) (a5 : Int32) (D : hy_M) : F_X9_feed N a1 a2 a3 a4 a5 D = ((F_X9_isIn N (a1).toInt64 (1 : Int64) (4 : Int64) D).bind (fun q1 => (if q1.1 = 0 then (some ((-2 : Int32), q1.2)) else ((F_X9_isIn N (a2).toInt64 (1 : Int64) (127 : Int64) q1.2).bind (fun q2 => (if q2.1 = 0 then (some ((-2 : Int32), q2.2)) else ((F_X9_isIn N (a3).toInt64 (1 : Int64) (127 : Int64) q2.2).bind (fun q3 => (if q3.1 = 0 then (some ((-2 : Int32), q3.2)) else ((F_X9_isIn N (a4).toInt64 (1 : Int64) (127 : Int64) q3.2).bind (fun q4 => (if q4.1 = 0 then (some ((-2 : Int32), q4.2)) else ((F_X9_isIn N (a5).toInt64 (1 : Int64) (127 : Int64) q4.2).bind (fun q5 => (if q5.1 = 0 then (some ((-2 : Int32), q5.2)) else (if (40 : Int32) < ((q5.2 67 5) + a1) then (some ((-4 : Int32), q5.2)) else (F_X9_feed_82 N N a1 a2 a3 a4 a5 (0 : Int32) q5.2))))))))))))))))) := by
  rfl
def F_X9_ones_4 (N : Nat) (n4 : Nat) (v0 : Int32) (v1 : Int32) (v2 : Int32) (D : hy_M) : Option (Int32 × hy_M) := b_X9_ones_4 N  n4 [some (.int v0), some (.int v1), some (.int v2)] [] D
def F_X9_ones (N : Nat) (a0 : Int32) (D : hy_M) : Option (Int32 × hy_M) := g_X9_ones N [.int a0] D
set_option maxRecDepth 100000 in
theorem F_X9_ones_4_eq (N : Nat) (n4 : Nat) (v0 : Int32) (v1 : Int32) (v2 : Int32) (D : hy_M) : F_X9_ones_4 N (n4 + 1) v0 v1 v2 D = (if v2 < (8 : Int32) then (F_X9_ones_4 N n4 v0 (v1 + ((v0 >>> (v2 &&& 31)) &&& (1 : Int32))) (v2 + (1 : Int32)) D) else (some (v1, D))) := by
  rfl
set_option maxRecDepth 100000 in
theorem F_X9_ones_eq (N : Nat) (a0 : Int32) (D : hy_M) : F_X9_ones N a0 D = (F_X9_ones_4 N N a0 (0 : Int32) (0 : Int32) D) := by
  rfl
def F_X9_has (N : Nat) (a0 : Int32) (a1 : Int32) (D : hy_M) : Option (Int32 × hy_M) := g_X9_has N [.int a0, .int a1] D
set_option maxRecDepth 100000 in
theorem F_X9_has_eq (N : Nat) (a0 : Int32) (a1 : Int32) (D : hy_M) : F_X9_has N a0 a1 D = (if ((a0 >>> (a1 &&& 31)) &&& (1 : Int32)) = (1 : Int32) then (some ((1 : Int32), D)) else (some ((0 : Int32), D))) := by
  rfl
def F_X9_yardFault_6 (N : Nat) (n6 : Nat) (v1 : Int32) (v2 : Int32) (v3 : Int32) (D : hy_M) : Option (Int32 × hy_M) := b_X9_yardFault_6 N  n6 [some (.ref 67), some (.int v1), some (.int v2), some (.int v3), none] [] D
def F_X9_yardFault_45 (N : Nat) (n6 : Nat) (v1 : Int32) (v2 : Int32) (v3 : Int32) (v4 : Int32) (D : hy_M) : Option (Int32 × hy_M) := b_X9_yardFault_45 N (b_X9_yardFault_6 N  n6) [some (.ref 67), some (.int v1), some (.int v2), some (.int v3), some (.int v4)] [] D
def F_X9_yardFault_90 (N : Nat) (n90 : Nat) (v3 : Int32) (v4 : Int32) (D : hy_M) : Option (Int32 × hy_M) := b_X9_yardFault_90 N  n90 [some (.ref 67), none, none, some (.int v3), some (.int v4)] [] D
def F_X9_yardFault (N : Nat)  (D : hy_M) : Option (Int32 × hy_M) := g_X9_yardFault N [.ref 67] D
set_option maxRecDepth 100000 in
theorem F_X9_yardFault_6_eq (N : Nat) (n6 : Nat) (v1 : Int32) (v2 : Int32) (v3 : Int32) (D : hy_M) : F_X9_yardFault_6 N (n6 + 1) v1 v2 v3 D = (if v3 < (D 67 5) then (if hy_in v3 40 = true then (if hy_in v3 40 = true then (if (D 71 (v3).toNatClampNeg) = (124 : Int32) then (if v2 = 0 then (F_X9_yardFault_6 N n6 v1 (1 : Int32) (v3 + (1 : Int32)) D) else (F_X9_yardFault_45 N n6 v1 v2 v3 ((D 71 (v3).toNatClampNeg) - (97 : Int32)) D)) else (F_X9_yardFault_45 N n6 v1 v2 v3 ((D 71 (v3).toNatClampNeg) - (97 : Int32)) D)) else none) else none) else ((F_X9_ones N v1 D).bind (fun q1 => (F_X9_yardFault_90 N N q1.1 (0 : Int32) q1.2)))) := by
  rfl
set_option maxRecDepth 100000 in
theorem F_X9_yardFault_45_eq (N : Nat) (n6 : Nat) (v1 : Int32) (v2 : Int32) (v3 : Int32) (v4 : Int32) (D : hy_M) : F_X9_yardFault_45 N n6 v1 v2 v3 v4 D = ((F_X9_isIn N (v4).toInt64 (0 : Int64) (7 : Int64) D).bind (fun q1 => (if q1.1 = 0 then (some (v3, q1.2)) else ((F_X9_has N v1 v4 q1.2).bind (fun q2 => (if q2.1 = 0 then (F_X9_yardFault_6 N n6 (v1 ||| ((1 : Int32) <<< (v4 &&& 31))) v2 (v3 + (1 : Int32)) q2.2) else (some (v3, q2.2)))))))) := by
  rfl
set_option maxRecDepth 100000 in
theorem F_X9_yardFault_90_eq (N : Nat) (n90 : Nat) (v3 : Int32) (v4 : Int32) (D : hy_M) : F_X9_yardFault_90 N (n90 + 1) v3 v4 D = (if v4 < (D 67 5) then (if hy_in v4 40 = true then (if (D 71 (v4).toNatClampNeg) = (124 : Int32) then (F_X9_yardFault_90 N n90 v3 (v4 + (1 : Int32)) D) else (if hy_in v4 40 = true then (if ((D 71 (v4).toNatClampNeg) - (97 : Int32)) < v3 then (F_X9_yardFault_90 N n90 v3 (v4 + (1 : Int32)) D) else (some (v4, D))) else none)) else none) else (some ((D 67 5), D))) := by
  rfl
set_option maxRecDepth 100000 in
theorem F_X9_yardFault_eq (N : Nat)  (D : hy_M) : F_X9_yardFault N D = (F_X9_yardFault_6 N N (0 : Int32) (0 : Int32) (0 : Int32) D) := by
  rfl
def F_X9_clears_16 (N : Nat) (n16 : Nat) (v1 : Int32) (D : hy_M) : Option hy_M := b_X9_clears_16 N  n16 [some (.ref 67), some (.int v1)] [] D
def F_X9_clears_39 (N : Nat) (n39 : Nat) (v1 : Int32) (D : hy_M) : Option hy_M := b_X9_clears_39 N  n39 [some (.ref 67), some (.int v1)] [] D
def F_X9_clears (N : Nat)  (D : hy_M) : Option hy_M := g_X9_clears N [.ref 67] D
set_option maxRecDepth 100000 in
theorem F_X9_clears_16_eq (N : Nat) (n16 : Nat) (v1 : Int32) (D : hy_M) : F_X9_clears_16 N (n16 + 1) v1 D = (if v1 < (2 : Int32) then (if hy_in ((49 : Int32) + v1) 94 = true then (F_X9_clears_16 N n16 (v1 + (1 : Int32)) (hy_w D 68 (((49 : Int32) + v1)).toNatClampNeg (0 : Int32))) else none) else (F_X9_clears_39 N N (0 : Int32) D)) := by
  rfl
set_option maxRecDepth 100000 in
theorem F_X9_clears_39_eq (N : Nat) (n39 : Nat) (v1 : Int32) (D : hy_M) : F_X9_clears_39 N (n39 + 1) v1 D = (if v1 < (3 : Int32) then (if hy_in ((67 : Int32) + v1) 94 = true then (F_X9_clears_39 N n39 (v1 + (1 : Int32)) (hy_w D 68 (((67 : Int32) + v1)).toNatClampNeg (0 : Int32))) else none) else (some D)) := by
  rfl
set_option maxRecDepth 100000 in
theorem F_X9_clears_eq (N : Nat)  (D : hy_M) : F_X9_clears N D = (F_X9_clears_16 N N (0 : Int32) (hy_w (hy_w D 68 2 (0 : Int32)) 68 3 (0 : Int32))) := by
  rfl
def F_X9_yard_46 (N : Nat) (n46 : Nat) (v2 : Int32) (v3 : Int32) (v4 : Int32) (D : hy_M) : Option (Int32 × hy_M) := b_X9_yard_46 N  n46 [some (.ref 67), none, some (.int v2), some (.int v3), some (.int v4), none] [] D
def F_X9_yard (N : Nat)  (D : hy_M) : Option (Int32 × hy_M) := g_X9_yard N [.ref 67] D
set_option maxRecDepth 100000 in
theorem F_X9_yard_46_eq (N : Nat) (n46 : Nat) (v2 : Int32) (v3 : Int32) (v4 : Int32) (D : hy_M) : F_X9_yard_46 N (n46 + 1) v2 v3 v4 D = (if v4 < v2 then (if hy_in v4 40 = true then (if (D 71 (v4).toNatClampNeg) = (124 : Int32) then (F_X9_yard_46 N n46 v2 (1 : Int32) (v4 + (1 : Int32)) D) else (if hy_in v4 40 = true then (if hy_in ((28 : Int32) + v3) 94 = true then (if hy_in (((30 : Int32) + ((8 : Int32) * v3)) + (D 68 (((28 : Int32) + v3)).toNatClampNeg)) 94 = true then (if hy_in ((28 : Int32) + v3) 94 = true then (if hy_in ((28 : Int32) + v3) 94 = true then (if hy_in ((4 : Int32) + ((D 71 (v4).toNatClampNeg) - (97 : Int32))) 94 = true then (if hy_in ((12 : Int32) + ((D 71 (v4).toNatClampNeg) - (97 : Int32))) 94 = true then (if hy_in ((20 : Int32) + ((D 71 (v4).toNatClampNeg) - (97 : Int32))) 94 = true then (F_X9_yard_46 N n46 v2 v3 (v4 + (1 : Int32)) (hy_w (hy_w (hy_w (hy_w (hy_w D 68 ((((30 : Int32) + ((8 : Int32) * v3)) + (D 68 (((28 : Int32) + v3)).toNatClampNeg))).toNatClampNeg ((D 71 (v4).toNatClampNeg) - (97 : Int32))) 68 (((28 : Int32) + v3)).toNatClampNeg (((hy_w D 68 ((((30 : Int32) + ((8 : Int32) * v3)) + (D 68 (((28 : Int32) + v3)).toNatClampNeg))).toNatClampNeg ((D 71 (v4).toNatClampNeg) - (97 : Int32))) 68 (((28 : Int32) + v3)).toNatClampNeg) + (1 : Int32))) 68 (((4 : Int32) + ((D 71 (v4).toNatClampNeg) - (97 : Int32)))).toNatClampNeg (1 : Int32)) 68 (((12 : Int32) + ((D 71 (v4).toNatClampNeg) - (97 : Int32)))).toNatClampNeg (0 : Int32)) 68 (((20 : Int32) + ((D 71 (v4).toNatClampNeg) - (97 : Int32)))).toNatClampNeg v3)) else none) else none) else none) else none) else none) else none) else none) else none)) else none) else ((F_X9_clears N (hy_w D 68 0 ((D 68 28) + (D 68 29)))).bind (fun q1 => (some ((q1 68 0), q1))))) := by
  rfl
set_option maxRecDepth 100000 in
theorem F_X9_yard_eq (N : Nat)  (D : hy_M) : F_X9_yard N D = ((F_X9_yardFault N D).bind (fun q1 => (if q1.1 < (q1.2 67 5) then (some (((-100 : Int32) - q1.1), (hy_w q1.2 67 5 (0 : Int32)))) else (F_X9_yard_46 N N (q1.2 67 5) (0 : Int32) (0 : Int32) (hy_w (hy_w (hy_w q1.2 67 5 (0 : Int32)) 68 28 (0 : Int32)) 68 29 (0 : Int32)))))) := by
  rfl
def F_X9_codes_25 (N : Nat) (n25 : Nat) (v1 : Int32) (v2 : Int32) (D : hy_M) : Option (Int32 × hy_M) := b_X9_codes_25 N  n25 [some (.ref 67), some (.int v1), some (.int v2), none] [] D
def F_X9_codes_65 (N : Nat) (v1 : Int32) (v2 : Int32) (D : hy_M) : Option (Int32 × hy_M) := b_X9_codes_65 N  [some (.ref 67), some (.int v1), some (.int v2), none] [] D
def F_X9_codes_87 (N : Nat) (n87 : Nat) (v2 : Int32) (v3 : Int32) (D : hy_M) : Option (Int32 × hy_M) := b_X9_codes_87 N  n87 [some (.ref 67), none, some (.int v2), some (.int v3)] [] D
def F_X9_codes (N : Nat)  (D : hy_M) : Option (Int32 × hy_M) := g_X9_codes N [.ref 67] D
set_option maxRecDepth 100000 in
theorem F_X9_codes_25_eq (N : Nat) (n25 : Nat) (v1 : Int32) (v2 : Int32) (D : hy_M) : F_X9_codes_25 N (n25 + 1) v1 v2 D = (if v2 < v1 then (if v2 < (D 68 0) then (if hy_in v2 40 = true then ((F_X9_isIn N ((D 71 (v2).toNatClampNeg)).toInt64 (48 : Int64) (55 : Int64) D).bind (fun q1 => (if q1.1 = 0 then (F_X9_codes_65 N v1 v2 q1.2) else (F_X9_codes_25 N n25 v1 (v2 + (1 : Int32)) q1.2)))) else none) else (F_X9_codes_65 N v1 v2 D)) else (F_X9_codes_65 N v1 v2 D)) := by
  rfl
set_option maxRecDepth 100000 in
theorem F_X9_codes_65_eq (N : Nat) (v1 : Int32) (v2 : Int32) (D : hy_M) : F_X9_codes_65 N v1 v2 D = (if v2 < (D 68 0) then (some (((-100 : Int32) - v2), D)) else (if v2 < v1 then (some (((-100 : Int32) - v2), D)) else (F_X9_codes_87 N N v2 (0 : Int32) D))) := by
  rfl
set_option maxRecDepth 100000 in
theorem F_X9_codes_87_eq (N : Nat) (n87 : Nat) (v2 : Int32) (v3 : Int32) (D : hy_M) : F_X9_codes_87 N (n87 + 1) v2 v3 D = (if v3 < v2 then (if hy_in v3 40 = true then (if hy_in ((12 : Int32) + v3) 94 = true then (F_X9_codes_87 N n87 v2 (v3 + (1 : Int32)) (hy_w D 68 (((12 : Int32) + v3)).toNatClampNeg ((D 71 (v3).toNatClampNeg) - (48 : Int32)))) else none) else none) else (some (v2, D))) := by
  rfl
set_option maxRecDepth 100000 in
theorem F_X9_codes_eq (N : Nat)  (D : hy_M) : F_X9_codes N D = (if (D 68 2) = (1 : Int32) then (some ((-3 : Int32), D)) else (F_X9_codes_25 N N (D 67 5) (0 : Int32) (hy_w D 67 5 (0 : Int32)))) := by
  rfl
def F_X9_isWagon (N : Nat) (a1 : Int32) (D : hy_M) : Option (Int32 × hy_M) := g_X9_isWagon N [.ref 67, .int a1] D
set_option maxRecDepth 100000 in
theorem F_X9_isWagon_eq (N : Nat) (a1 : Int32) (D : hy_M) : F_X9_isWagon N a1 D = ((F_X9_isIn N (a1).toInt64 (0 : Int64) (((D 68 0) - (1 : Int32))).toInt64 D).bind (fun q1 => (if q1.1 = 0 ∨ q1.1 = 1 then some (q1.1, q1.2) else none))) := by
  rfl
def F_X9_set_54 (N : Nat) (v1 : Int32) (v2 : Int32) (v3 : Int32) (D : hy_M) : Option (Int32 × hy_M) := b_X9_set_54 N  [some (.ref 67), some (.int v1), some (.int v2), some (.int v3), none, none] [] D
def F_X9_set_77 (N : Nat) (v1 : Int32) (v3 : Int32) (vs0 : Int32) (D : hy_M) : Option (Int32 × hy_M) := b_X9_set_77 N  [some (.ref 67), some (.int v1), none, some (.int v3), none, none] [.int vs0] D
def F_X9_set (N : Nat) (a1 : Int32) (a2 : Int32) (a3 : Int32) (D : hy_M) : Option (Int32 × hy_M) := g_X9_set N [.ref 67, .int a1, .int a2, .int a3] D
set_option maxRecDepth 100000 in
theorem F_X9_set_54_eq (N : Nat) (v1 : Int32) (v2 : Int32) (v3 : Int32) (D : hy_M) : F_X9_set_54 N v1 v2 v3 D = (if (D 68 2) = (1 : Int32) then (some ((-3 : Int32), D)) else (if v2 = 0 then (F_X9_set_77 N v1 v3 (4 : Int32) D) else (F_X9_set_77 N v1 v3 (12 : Int32) D))) := by
  rfl
set_option maxRecDepth 100000 in
theorem F_X9_set_77_eq (N : Nat) (v1 : Int32) (v3 : Int32) (vs0 : Int32) (D : hy_M) : F_X9_set_77 N v1 v3 vs0 D = (if hy_in (vs0 + v1) 94 = true then (if hy_in (vs0 + v1) 94 = true then (some ((D 68 ((vs0 + v1)).toNatClampNeg), (hy_w D 68 ((vs0 + v1)).toNatClampNeg v3))) else none) else none) := by
  rfl
set_option maxRecDepth 100000 in
theorem F_X9_set_eq (N : Nat) (a1 : Int32) (a2 : Int32) (a3 : Int32) (D : hy_M) : F_X9_set N a1 a2 a3 D = ((F_X9_isWagon N a1 D).bind (fun q1 => (if q1.1 = 0 then (some ((-1 : Int32), q1.2)) else ((F_X9_isIn N (a2).toInt64 (0 : Int64) (1 : Int64) q1.2).bind (fun q2 => (if q2.1 = 0 then (some ((-1 : Int32), q2.2)) else (if a2 = 0 then ((F_X9_isIn N (a3).toInt64 (1 : Int64) (3 : Int64) q2.2).bind (fun q3 => (if q3.1 = 0 then (some ((-2 : Int32), q3.2)) else (F_X9_set_54 N a1 a2 a3 q3.2)))) else ((F_X9_isIn N (a3).toInt64 (0 : Int64) (7 : Int64) q2.2).bind (fun q3 => (if q3.1 = 0 then (some ((-2 : Int32), q3.2)) else (F_X9_set_54 N a1 a2 a3 q3.2))))))))))) := by
  rfl
def F_X9_isTrack (N : Nat) (a0 : Int32) (D : hy_M) : Option (Int32 × hy_M) := g_X9_isTrack N [.int a0] D
set_option maxRecDepth 100000 in
theorem F_X9_isTrack_eq (N : Nat) (a0 : Int32) (D : hy_M) : F_X9_isTrack N a0 D = ((F_X9_isIn N (a0).toInt64 (0 : Int64) (2 : Int64) D).bind (fun q1 => (if q1.1 = 0 ∨ q1.1 = 1 then some (q1.1, q1.2) else none))) := by
  rfl
def F_X9_room (N : Nat) (a1 : Int32) (a2 : Int32) (D : hy_M) : Option (Int32 × hy_M) := g_X9_room N [.ref 67, .int a1, .int a2] D
set_option maxRecDepth 100000 in
theorem F_X9_room_eq (N : Nat) (a1 : Int32) (a2 : Int32) (D : hy_M) : F_X9_room N a1 a2 D = ((F_X9_isTrack N a1 D).bind (fun q1 => (if q1.1 = 0 then (some ((-1 : Int32), q1.2)) else ((F_X9_isIn N (a2).toInt64 (0 : Int64) (24 : Int64) q1.2).bind (fun q2 => (if q2.1 = 0 then (some ((-2 : Int32), q2.2)) else (if (q2.2 68 2) = (1 : Int32) then (some ((-3 : Int32), q2.2)) else (if hy_in ((46 : Int32) + a1) 94 = true then (if hy_in ((46 : Int32) + a1) 94 = true then (some ((q2.2 68 (((46 : Int32) + a1)).toNatClampNeg), (hy_w q2.2 68 (((46 : Int32) + a1)).toNatClampNeg a2))) else none) else none)))))))) := by
  rfl
