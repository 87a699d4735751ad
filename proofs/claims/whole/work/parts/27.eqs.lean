def F_X9_wrongOf_2 (N : Nat) (n2 : Nat) (v1 : Int32) (v2 : Int32) (D : hy_M) : Option (Int32 × hy_M) := b_X9_wrongOf_2 N  n2 [some (.ref 67), some (.int v1), some (.int v2)] [] D
def F_X9_wrongOf (N : Nat) (a1 : Int32) (D : hy_M) : Option (Int32 × hy_M) := g_X9_wrongOf N [.ref 67, .int a1] D
set_option maxRecDepth 100000 in
theorem F_X9_wrongOf_2_eq (N : Nat) (n2 : Nat) (v1 : Int32) (v2 : Int32) (D : hy_M) : F_X9_wrongOf_2 N (n2 + 1) v1 v2 D = (if hy_in ((49 : Int32) + v1) 94 = true then (if v2 < (D 68 (((49 : Int32) + v1)).toNatClampNeg) then (if hy_in (((51 : Int32) + ((8 : Int32) * v1)) + v2) 94 = true then ((F_X9_wantedAt N v1 v2 D).bind (fun q1 => (if (D 68 ((((51 : Int32) + ((8 : Int32) * v1)) + v2)).toNatClampNeg) = q1.1 then (F_X9_wrongOf_2 N n2 v1 (v2 + (1 : Int32)) q1.2) else (some (v2, q1.2))))) else none) else (some ((-1 : Int32), D))) else none) := by
  rfl
set_option maxRecDepth 100000 in
theorem F_X9_wrongOf_eq (N : Nat) (a1 : Int32) (D : hy_M) : F_X9_wrongOf N a1 D = (F_X9_wrongOf_2 N N a1 (0 : Int32) D) := by
  rfl
def F_X9_wrong (N : Nat) (a1 : Int32) (D : hy_M) : Option (Int32 × hy_M) := g_X9_wrong N [.ref 67, .int a1] D
set_option maxRecDepth 100000 in
theorem F_X9_wrong_eq (N : Nat) (a1 : Int32) (D : hy_M) : F_X9_wrong N a1 D = ((F_X9_isTrain N a1 D).bind (fun q1 => (if q1.1 = 0 then (some ((-2 : Int32), q1.2)) else ((F_X9_wrongOf N a1 q1.2).bind (fun q2 => (some (q2.1, q2.2))))))) := by
  rfl
def F_X9_pullsFault_2 (N : Nat) (n2 : Nat) (v1 : Int32) (D : hy_M) : Option (Int32 × hy_M) := b_X9_pullsFault_2 N  n2 [some (.ref 67), some (.int v1)] [] D
def F_X9_pullsFault (N : Nat)  (D : hy_M) : Option (Int32 × hy_M) := g_X9_pullsFault N [.ref 67] D
set_option maxRecDepth 100000 in
theorem F_X9_pullsFault_2_eq (N : Nat) (n2 : Nat) (v1 : Int32) (D : hy_M) : F_X9_pullsFault_2 N (n2 + 1) v1 D = (if v1 < (D 67 5) then (if v1 < (20 : Int32) then (if hy_in v1 40 = true then ((F_X9_isIn N ((D 71 (v1).toNatClampNeg)).toInt64 (48 : Int64) (50 : Int64) D).bind (fun q1 => (if q1.1 = 0 then (some (v1, q1.2)) else (F_X9_pullsFault_2 N n2 (v1 + (1 : Int32)) q1.2)))) else none) else (some (v1, D))) else (some (v1, D))) := by
  rfl
set_option maxRecDepth 100000 in
theorem F_X9_pullsFault_eq (N : Nat)  (D : hy_M) : F_X9_pullsFault N D = (F_X9_pullsFault_2 N N (0 : Int32) D) := by
  rfl
def F_X9_replayed_5 (N : Nat) (n5 : Nat) (v1 : Int32) (v2 : Int32) (v3 : Int32) (v4 : Int32) (D : hy_M) : Option (Int32 × hy_M) := b_X9_replayed_5 N  n5 [some (.ref 67), some (.int v1), some (.int v2), some (.int v3), some (.int v4)] [] D
def F_X9_replayed (N : Nat) (a1 : Int32) (a2 : Int32) (D : hy_M) : Option (Int32 × hy_M) := g_X9_replayed N [.ref 67, .int a1, .int a2] D
set_option maxRecDepth 100000 in
theorem F_X9_replayed_5_eq (N : Nat) (n5 : Nat) (v1 : Int32) (v2 : Int32) (v3 : Int32) (v4 : Int32) (D : hy_M) : F_X9_replayed_5 N (n5 + 1) v1 v2 v3 v4 D = (if v4 < (3 : Int32) then (if hy_in ((67 : Int32) + v4) 94 = true then (if 0 < (D 68 (((67 : Int32) + v4)).toNatClampNeg) then (F_X9_replayed_5 N n5 v1 v2 (v3 ||| ((1 : Int32) <<< (v4 &&& 31))) (v4 + (1 : Int32)) D) else (F_X9_replayed_5 N n5 v1 v2 (v3 ||| (0 : Int32)) (v4 + (1 : Int32)) D)) else none) else (if v1 = 0 then ((F_X9_outs N D).bind (fun q7 => (some (q7.1, q7.2)))) else (if v1 = 1 then (some (v2, D)) else (if v1 = 2 then (some (v3, D)) else (if v1 = 3 then ((F_X9_wrongOf N (v1 - (3 : Int32)) D).bind (fun q5 => (if q5.1 < 0 then (some ((-5 : Int32), q5.2)) else ((F_X9_wrongOf N (v1 - (3 : Int32)) q5.2).bind (fun q6 => (some (q6.1, q6.2))))))) else (if v1 = 4 then ((F_X9_wrongOf N (v1 - (3 : Int32)) D).bind (fun q3 => (if q3.1 < 0 then (some ((-5 : Int32), q3.2)) else ((F_X9_wrongOf N (v1 - (3 : Int32)) q3.2).bind (fun q4 => (some (q4.1, q4.2))))))) else (if v1 = 5 then (some (((D 67 13) - (D 68 0)), D)) else ((F_X9_wrongOf N (v1 - (3 : Int32)) D).bind (fun q1 => (if q1.1 < 0 then (some ((-5 : Int32), q1.2)) else ((F_X9_wrongOf N (v1 - (3 : Int32)) q1.2).bind (fun q2 => (some (q2.1, q2.2)))))))))))))) := by
  rfl
set_option maxRecDepth 100000 in
theorem F_X9_replayed_eq (N : Nat) (a1 : Int32) (a2 : Int32) (D : hy_M) : F_X9_replayed N a1 a2 D = (F_X9_replayed_5 N N a1 a2 (0 : Int32) (0 : Int32) D) := by
  rfl
def F_X9_replay_82 (N : Nat) (n82 : Nat) (v1 : Int32) (v2 : Int32) (v4 : Int32) (v5 : Int32) (D : hy_M) : Option (Int32 × hy_M) := b_X9_replay_82 N  n82 [some (.ref 67), some (.int v1), some (.int v2), none, some (.int v4), some (.int v5)] [] D
def F_X9_replay (N : Nat) (a1 : Int32) (D : hy_M) : Option (Int32 × hy_M) := g_X9_replay N [.ref 67, .int a1] D
set_option maxRecDepth 100000 in
theorem F_X9_replay_82_eq (N : Nat) (n82 : Nat) (v1 : Int32) (v2 : Int32) (v4 : Int32) (v5 : Int32) (D : hy_M) : F_X9_replay_82 N (n82 + 1) v1 v2 v4 v5 D = (if v5 < v2 then (if hy_in v5 40 = true then ((F_X9_pulls N ((D 71 (v5).toNatClampNeg) - (48 : Int32)) D).bind (fun q1 => (if v4 < 0 then ((F_X9_isOver N q1).bind (fun q2 => (if q2.1 = 0 then (F_X9_replay_82 N n82 v1 v2 v4 (v5 + (1 : Int32)) q2.2) else (F_X9_replay_82 N n82 v1 v2 (v5 + (1 : Int32)) (v5 + (1 : Int32)) q2.2)))) else (F_X9_replay_82 N n82 v1 v2 v4 (v5 + (1 : Int32)) q1)))) else none) else ((F_X9_replayed N v1 v4 D).bind (fun q1 => ((F_X9_copies_67_70_68 N q1.2).bind (fun q2 => (some (q1.1, q2))))))) := by
  rfl
set_option maxRecDepth 100000 in
theorem F_X9_replay_eq (N : Nat) (a1 : Int32) (D : hy_M) : F_X9_replay N a1 D = ((F_X9_isIn N (a1).toInt64 (0 : Int64) (5 : Int64) D).bind (fun q1 => (if q1.1 = 0 then (some ((-1 : Int32), q1.2)) else ((F_X9_pullsFault N q1.2).bind (fun q2 => (if q2.1 < (q1.2 67 5) then (some (((-100 : Int32) - q2.1), (hy_w q2.2 67 5 (0 : Int32)))) else ((F_X9_copies N (hy_w q2.2 67 5 (0 : Int32))).bind (fun q3 => ((F_X9_clears N q3).bind (fun q4 => ((F_X9_humps N (hy_w q4 67 13 (0 : Int32))).bind (fun q5 => ((F_X9_isOver N q5).bind (fun q6 => (if q6.1 = 0 then (F_X9_replay_82 N N a1 (q1.2 67 5) (-5 : Int32) (0 : Int32) q6.2) else (F_X9_replay_82 N N a1 (q1.2 67 5) (0 : Int32) (0 : Int32) q6.2)))))))))))))))) := by
  rfl
def F_X9_wholeRun_10 (N : Nat) (n10 : Nat) (v1 : Int32) (D : hy_M) : Option hy_M := b_X9_wholeRun_10 N  n10 [some (.ref 67), some (.int v1)] [] D
def F_X9_wholeRun_48 (N : Nat) (n10 : Nat) (v1 : Int32) (D : hy_M) : Option hy_M := b_X9_wholeRun_48 N (b_X9_wholeRun_10 N  n10) [some (.ref 67), some (.int v1)] [] D
def F_X9_wholeRun (N : Nat)  (D : hy_M) : Option hy_M := g_X9_wholeRun N [.ref 67] D
set_option maxRecDepth 100000 in
theorem F_X9_wholeRun_10_eq (N : Nat) (n10 : Nat) (v1 : Int32) (D : hy_M) : F_X9_wholeRun_10 N (n10 + 1) v1 D = (if v1 < (3 : Int32) then (if (D 67 14) = 0 then (F_X9_wholeRun_48 N n10 v1 D) else (if hy_in ((67 : Int32) + v1) 94 = true then (if 0 < (D 68 (((67 : Int32) + v1)).toNatClampNeg) then ((F_X9_says N (59 : Int32) D).bind (fun q1 => ((F_X9_says N ((48 : Int32) + v1) q1).bind (fun q2 => (F_X9_wholeRun_48 N n10 v1 q2))))) else (F_X9_wholeRun_48 N n10 v1 D)) else none)) else (some D)) := by
  rfl
set_option maxRecDepth 100000 in
theorem F_X9_wholeRun_48_eq (N : Nat) (n10 : Nat) (v1 : Int32) (D : hy_M) : F_X9_wholeRun_48 N n10 v1 D = ((F_X9_pulls N v1 D).bind (fun q1 => (F_X9_wholeRun_10 N n10 (v1 + (1 : Int32)) q1))) := by
  rfl
set_option maxRecDepth 100000 in
theorem F_X9_wholeRun_eq (N : Nat)  (D : hy_M) : F_X9_wholeRun N D = ((F_X9_clears N D).bind (fun q1 => ((F_X9_humps N q1).bind (fun q2 => (F_X9_wholeRun_10 N N (0 : Int32) q2))))) := by
  rfl
def F_X9_spell (N : Nat)  (D : hy_M) : Option (Int32 × hy_M) := g_X9_spell N [.ref 67] D
set_option maxRecDepth 100000 in
theorem F_X9_spell_eq (N : Nat)  (D : hy_M) : F_X9_spell N D = ((F_X9_copies N D).bind (fun q1 => ((F_X9_says N (72 : Int32) (hy_w q1 67 16 (0 : Int32))).bind (fun q2 => ((F_X9_wholeRun N (hy_w q2 67 14 (1 : Int32))).bind (fun q3 => ((F_X9_copies_67_70_68 N (hy_w q3 67 14 (0 : Int32))).bind (fun q4 => (some ((q4 67 16), q4)))))))))) := by
  rfl
def F_X9_paper (N : Nat) (a1 : Int32) (D : hy_M) : Option (Int32 × hy_M) := g_X9_paper N [.ref 67, .int a1] D
set_option maxRecDepth 100000 in
theorem F_X9_paper_eq (N : Nat) (a1 : Int32) (D : hy_M) : F_X9_paper N a1 D = ((F_X9_isIn N (a1).toInt64 (0 : Int64) (((D 67 16) - (1 : Int32))).toInt64 D).bind (fun q1 => (if q1.1 = 0 then (some ((-1 : Int32), q1.2)) else (if hy_in a1 80 = true then (some ((q1.2 77 (a1).toNatClampNeg), q1.2)) else none)))) := by
  rfl
def F_X9_moves_2 (N : Nat) (n2 : Nat) (v1 : Int32) (v2 : Int32) (v3 : Int32) (D : hy_M) : Option hy_M := b_X9_moves_2 N  n2 [some (.ref 67), some (.int v1), some (.int v2), some (.int v3), none] [] D
def F_X9_moves_24 (N : Nat) (n2 : Nat) (v1 : Int32) (v2 : Int32) (v3 : Int32) (vs0 : Int32) (D : hy_M) : Option hy_M := b_X9_moves_24 N (b_X9_moves_2 N  n2) [some (.ref 67), some (.int v1), some (.int v2), some (.int v3), none] [.int vs0] D
def F_X9_moves (N : Nat) (a1 : Int32) (a2 : Int32) (D : hy_M) : Option hy_M := g_X9_moves N [.ref 67, .int a1, .int a2] D
set_option maxRecDepth 100000 in
theorem F_X9_moves_2_eq (N : Nat) (n2 : Nat) (v1 : Int32) (v2 : Int32) (v3 : Int32) (D : hy_M) : F_X9_moves_2 N (n2 + 1) v1 v2 v3 D = (if v3 < (D 68 0) then (if v1 < v3 then (F_X9_moves_24 N n2 v1 v2 v3 (v3 - (1 : Int32)) D) else (F_X9_moves_24 N n2 v1 v2 v3 v3 D)) else (if hy_in v1 8 = true then (some (hy_w D 72 (v1).toNatClampNeg v2)) else none)) := by
  rfl
set_option maxRecDepth 100000 in
theorem F_X9_moves_24_eq (N : Nat) (n2 : Nat) (v1 : Int32) (v2 : Int32) (v3 : Int32) (vs0 : Int32) (D : hy_M) : F_X9_moves_24 N n2 v1 v2 v3 vs0 D = (if vs0 < v2 then (if hy_in v3 8 = true then (F_X9_moves_2 N n2 v1 v2 (v3 + (1 : Int32)) (hy_w D 72 (v3).toNatClampNeg vs0)) else none) else (if hy_in v3 8 = true then (F_X9_moves_2 N n2 v1 v2 (v3 + (1 : Int32)) (hy_w D 72 (v3).toNatClampNeg (vs0 + (1 : Int32)))) else none)) := by
  rfl
set_option maxRecDepth 100000 in
theorem F_X9_moves_eq (N : Nat) (a1 : Int32) (a2 : Int32) (D : hy_M) : F_X9_moves N a1 a2 D = (F_X9_moves_2 N N a1 a2 (0 : Int32) D) := by
  rfl
def F_X9_elsewhere_34 (N : Nat) (n34 : Nat) (v1 : Int32) (v2 : Int32) (v3 : Int32) (v4 : Int32) (v5 : Int32) (D : hy_M) : Option (Int32 × hy_M) := b_X9_elsewhere_34 N  n34 [some (.ref 67), some (.int v1), some (.int v2), some (.int v3), some (.int v4), some (.int v5), none, none] [] D
def F_X9_elsewhere_48 (N : Nat) (n34 : Nat) (n48 : Nat) (v1 : Int32) (v2 : Int32) (v3 : Int32) (v4 : Int32) (v5 : Int32) (v6 : Int32) (D : hy_M) : Option (Int32 × hy_M) := b_X9_elsewhere_48 N (b_X9_elsewhere_34 N  n34) n48 [some (.ref 67), some (.int v1), some (.int v2), some (.int v3), some (.int v4), some (.int v5), some (.int v6), none] [] D
def F_X9_elsewhere (N : Nat) (a1 : Int32) (D : hy_M) : Option (Int32 × hy_M) := g_X9_elsewhere N [.ref 67, .int a1] D
set_option maxRecDepth 100000 in
theorem F_X9_elsewhere_34_eq (N : Nat) (n34 : Nat) (v1 : Int32) (v2 : Int32) (v3 : Int32) (v4 : Int32) (v5 : Int32) (D : hy_M) : F_X9_elsewhere_34 N (n34 + 1) v1 v2 v3 v4 v5 D = (if v5 < (D 68 0) then (F_X9_elsewhere_48 N n34 N v1 v2 v3 v4 v5 (0 : Int32) D) else (if v3 < 0 then (some ((-5 : Int32), D)) else (if v1 = 0 then (some (v3, D)) else (if v1 = (1 : Int32) then (some (v4, D)) else (some (v2, D)))))) := by
  rfl
set_option maxRecDepth 100000 in
theorem F_X9_elsewhere_48_eq (N : Nat) (n34 : Nat) (n48 : Nat) (v1 : Int32) (v2 : Int32) (v3 : Int32) (v4 : Int32) (v5 : Int32) (v6 : Int32) (D : hy_M) : F_X9_elsewhere_48 N n34 (n48 + 1) v1 v2 v3 v4 v5 v6 D = (if v6 < (D 68 0) then ((F_X9_moves N v5 v6 D).bind (fun q1 => ((F_X9_need N q1).bind (fun q2 => (if v6 = v5 then (F_X9_elsewhere_48 N n34 n48 v1 v2 v3 v4 v5 (v6 + (1 : Int32)) q2.2) else (if q2.1 < v2 then (F_X9_elsewhere_48 N n34 n48 v1 q2.1 v5 v6 v5 (v6 + (1 : Int32)) q2.2) else (F_X9_elsewhere_48 N n34 n48 v1 v2 v3 v4 v5 (v6 + (1 : Int32)) q2.2))))))) else (F_X9_elsewhere_34 N n34 v1 v2 v3 v4 (v5 + (1 : Int32)) D)) := by
  rfl
set_option maxRecDepth 100000 in
theorem F_X9_elsewhere_eq (N : Nat) (a1 : Int32) (D : hy_M) : F_X9_elsewhere N a1 D = ((F_X9_isIn N (a1).toInt64 (0 : Int64) (2 : Int64) D).bind (fun q1 => (if q1.1 = 0 then (some ((-2 : Int32), q1.2)) else ((F_X9_asTheyAre N q1.2).bind (fun q2 => ((F_X9_need N q2).bind (fun q3 => (F_X9_elsewhere_34 N N a1 q3.1 (-5 : Int32) (-5 : Int32) (0 : Int32) q3.2)))))))) := by
  rfl
def F_X9_draws_4 (N : Nat) (n4 : Nat) (v2 : Int32) (v3 : Int32) (D : hy_M) : Option hy_M := b_X9_draws_4 N  n4 [some (.ref 67), none, some (.int v2), some (.int v3), none, none] [] D
def F_X9_draws_32 (N : Nat) (n32 : Nat) (v2 : Int32) (v3 : Int32) (D : hy_M) : Option hy_M := b_X9_draws_32 N  n32 [some (.ref 67), none, some (.int v2), some (.int v3), none, none] [] D
def F_X9_draws_56 (N : Nat) (n32 : Nat) (v2 : Int32) (v3 : Int32) (v4 : Int32) (D : hy_M) : Option hy_M := b_X9_draws_56 N (b_X9_draws_32 N  n32) [some (.ref 67), none, some (.int v2), some (.int v3), some (.int v4), none] [] D
def F_X9_draws_94 (N : Nat) (n94 : Nat) (v3 : Int32) (D : hy_M) : Option hy_M := b_X9_draws_94 N  n94 [some (.ref 67), none, none, some (.int v3), none, none] [] D
def F_X9_draws (N : Nat) (a1 : Int32) (D : hy_M) : Option hy_M := g_X9_draws N [.ref 67, .int a1] D
set_option maxRecDepth 100000 in
theorem F_X9_draws_4_eq (N : Nat) (n4 : Nat) (v2 : Int32) (v3 : Int32) (D : hy_M) : F_X9_draws_4 N (n4 + 1) v2 v3 D = (if v3 < (8 : Int32) then (if hy_in v3 8 = true then (F_X9_draws_4 N n4 v2 (v3 + (1 : Int32)) (hy_w D 78 (v3).toNatClampNeg v3)) else none) else (F_X9_draws_32 N N v2 ((D 68 0) - (1 : Int32)) D)) := by
  rfl
set_option maxRecDepth 100000 in
theorem F_X9_draws_32_eq (N : Nat) (n32 : Nat) (v2 : Int32) (v3 : Int32) (D : hy_M) : F_X9_draws_32 N (n32 + 1) v2 v3 D = (if 0 < v3 then (if (v3 + (1 : Int32)) = 0 then none else (F_X9_draws_56 N n32 ((v2 * (1103515245 : Int32)) + (12345 : Int32)) v3 (((((v2 * (1103515245 : Int32)) + (12345 : Int32))).toUInt32 >>> (((9 : Int32)).toUInt32 &&& Int32.toUInt32 31)).toInt32 - ((((v2 * (1103515245 : Int32)) + (12345 : Int32))).toUInt32 >>> (((9 : Int32)).toUInt32 &&& Int32.toUInt32 31)).toInt32 / (v3 + (1 : Int32)) * (v3 + (1 : Int32))) D)) else (F_X9_draws_94 N N (0 : Int32) D)) := by
  rfl
set_option maxRecDepth 100000 in
theorem F_X9_draws_56_eq (N : Nat) (n32 : Nat) (v2 : Int32) (v3 : Int32) (v4 : Int32) (D : hy_M) : F_X9_draws_56 N n32 v2 v3 v4 D = (if hy_in v3 8 = true then (if hy_in v4 8 = true then (if hy_in v3 8 = true then (if hy_in v4 8 = true then (F_X9_draws_32 N n32 v2 (v3 + (-1 : Int32)) (hy_w (hy_w D 78 (v3).toNatClampNeg (D 78 (v4).toNatClampNeg)) 78 (v4).toNatClampNeg (D 78 (v3).toNatClampNeg))) else none) else none) else none) else none) := by
  rfl
set_option maxRecDepth 100000 in
theorem F_X9_draws_94_eq (N : Nat) (n94 : Nat) (v3 : Int32) (D : hy_M) : F_X9_draws_94 N (n94 + 1) v3 D = (if v3 < (8 : Int32) then (if hy_in v3 8 = true then (if hy_in (D 78 (v3).toNatClampNeg) 8 = true then (F_X9_draws_94 N n94 (v3 + (1 : Int32)) (hy_w D 72 ((D 78 (v3).toNatClampNeg)).toNatClampNeg v3)) else none) else none) else (some D)) := by
  rfl
set_option maxRecDepth 100000 in
theorem F_X9_draws_eq (N : Nat) (a1 : Int32) (D : hy_M) : F_X9_draws N a1 D = (F_X9_draws_4 N N a1 (0 : Int32) D) := by
  rfl
def F_X9_drawn_33 (N : Nat) (v1 : Int32) (v2 : Int32) (D : hy_M) : Option (Int32 × hy_M) := b_X9_drawn_33 N  [some (.ref 67), some (.int v1), some (.int v2)] [] D
def F_X9_drawn (N : Nat) (a1 : Int32) (a2 : Int32) (D : hy_M) : Option (Int32 × hy_M) := g_X9_drawn N [.ref 67, .int a1, .int a2] D
set_option maxRecDepth 100000 in
theorem F_X9_drawn_33_eq (N : Nat) (v1 : Int32) (v2 : Int32) (D : hy_M) : F_X9_drawn_33 N v1 v2 D = ((F_X9_draws N v1 D).bind (fun q1 => (if v2 = 0 then ((F_X9_need N q1).bind (fun q2 => (some (q2.1, q2.2)))) else (if v2 = (1 : Int32) then ((F_X9_need N q1).bind (fun q2 => ((F_X9_fewestFor N q2.1 q2.2).bind (fun q3 => (some (q3.1, q3.2)))))) else (if hy_in (v2 - (10 : Int32)) 8 = true then (some ((q1 72 ((v2 - (10 : Int32))).toNatClampNeg), q1)) else none))))) := by
  rfl
set_option maxRecDepth 100000 in
theorem F_X9_drawn_eq (N : Nat) (a1 : Int32) (a2 : Int32) (D : hy_M) : F_X9_drawn N a1 a2 D = ((F_X9_isIn N (a2).toInt64 (0 : Int64) (1 : Int64) D).bind (fun q1 => (if q1.1 = 0 then ((F_X9_isIn N (a2).toInt64 (10 : Int64) (((9 : Int32) + (q1.2 68 0))).toInt64 q1.2).bind (fun q2 => (if q2.1 = 0 then (some ((-1 : Int32), q2.2)) else (F_X9_drawn_33 N a1 a2 q2.2)))) else (F_X9_drawn_33 N a1 a2 q1.2)))) := by
  rfl
def F_X9_odds_45 (N : Nat) (n45 : Nat) (v1 : Int32) (v2 : Int32) (v3 : Int32) (v4 : Int32) (v5 : Int32) (v6 : Int32) (D : hy_M) : Option (Int64 × hy_M) := b_X9_odds_45 N  n45 [some (.ref 67), some (.int v1), some (.int v2), some (.int v3), some (.int v4), some (.int v5), some (.int v6)] [] D
def F_X9_odds (N : Nat) (a1 : Int32) (a2 : Int32) (a3 : Int32) (a4 : Int32) (D : hy_M) : Option (Int64 × hy_M) := g_X9_odds N [.ref 67, .int a1, .int a2, .int a3, .int a4] D
set_option maxRecDepth 100000 in
theorem F_X9_odds_45_eq (N : Nat) (n45 : Nat) (v1 : Int32) (v2 : Int32) (v3 : Int32) (v4 : Int32) (v5 : Int32) (v6 : Int32) (D : hy_M) : F_X9_odds_45 N (n45 + 1) v1 v2 v3 v4 v5 v6 D = (if v6 < v2 then ((F_X9_draws N (v1 + v6) D).bind (fun q1 => ((F_X9_need N q1).bind (fun q2 => (if v3 < q2.1 then (F_X9_odds_45 N n45 v1 v2 v3 v4 (v5 + (0 : Int32)) (v6 + (1 : Int32)) q2.2) else (F_X9_odds_45 N n45 v1 v2 v3 v4 (v5 + (1 : Int32)) (v6 + (1 : Int32)) q2.2)))))) else ((F_X9_partOf N (v5).toInt64 (v2).toInt64 v4 D).bind (fun q1 => (some (q1.1, q1.2))))) := by
  rfl
set_option maxRecDepth 100000 in
theorem F_X9_odds_eq (N : Nat) (a1 : Int32) (a2 : Int32) (a3 : Int32) (a4 : Int32) (D : hy_M) : F_X9_odds N a1 a2 a3 a4 D = ((F_X9_isIn N (a2).toInt64 (1 : Int64) (20 : Int64) D).bind (fun q1 => (if q1.1 = 0 then (some ((-9223372036854775808 : Int64), q1.2)) else ((F_X9_isIn N (a3).toInt64 (0 : Int64) (8 : Int64) q1.2).bind (fun q2 => (if q2.1 = 0 then (some ((-9223372036854775808 : Int64), q2.2)) else ((F_X9_isIn N (a4).toInt64 (0 : Int64) (1 : Int64) q2.2).bind (fun q3 => (if q3.1 = 0 then (some ((-9223372036854775808 : Int64), q3.2)) else (F_X9_odds_45 N N a1 a2 a3 a4 (0 : Int32) (0 : Int32) q3.2)))))))))) := by
  rfl
def F_X9_isList (N : Nat) (a0 : Int32) (D : hy_M) : Option (Int32 × hy_M) := g_X9_isList N [.int a0] D
set_option maxRecDepth 100000 in
theorem F_X9_isList_eq (N : Nat) (a0 : Int32) (D : hy_M) : F_X9_isList N a0 D = ((F_X9_isIn N (a0).toInt64 (0 : Int64) (3 : Int64) D).bind (fun q1 => (if q1.1 = 0 ∨ q1.1 = 1 then some (q1.1, q1.2) else none))) := by
  rfl
def F_X9_isSeen_43 (N : Nat) (n43 : Nat) (v1 : Int32) (v2 : Int32) (v3 : Int32) (v4 : Int32) (D : hy_M) : Option (Int32 × hy_M) := b_X9_isSeen_43 N  n43 [some (.ref 67), some (.int v1), some (.int v2), some (.int v3), some (.int v4)] [] D
def F_X9_isSeen_103 (N : Nat) (v3 : Int32) (D : hy_M) : Option (Int32 × hy_M) := b_X9_isSeen_103 N  [some (.ref 67), none, none, some (.int v3), none] [] D
def F_X9_isSeen (N : Nat) (a1 : Int32) (a2 : Int32) (D : hy_M) : Option (Int32 × hy_M) := g_X9_isSeen N [.ref 67, .int a1, .int a2] D
set_option maxRecDepth 100000 in
theorem F_X9_isSeen_43_eq (N : Nat) (n43 : Nat) (v1 : Int32) (v2 : Int32) (v3 : Int32) (v4 : Int32) (D : hy_M) : F_X9_isSeen_43 N (n43 + 1) v1 v2 v3 v4 D = (if hy_in ((49 : Int32) + v1) 94 = true then (if v4 < (D 68 (((49 : Int32) + v1)).toNatClampNeg) then (if v3 = 0 then (F_X9_isSeen_103 N v3 D) else (if hy_in (((12 : Int32) * v2) + v4) 48 = true then (if hy_in (((51 : Int32) + ((8 : Int32) * v1)) + v4) 94 = true then (if (D 79 ((((12 : Int32) * v2) + v4)).toNatClampNeg) = (D 68 ((((51 : Int32) + ((8 : Int32) * v1)) + v4)).toNatClampNeg) then (F_X9_isSeen_43 N n43 v1 v2 (1 : Int32) (v4 + (1 : Int32)) D) else (F_X9_isSeen_43 N n43 v1 v2 (0 : Int32) (v4 + (1 : Int32)) D)) else none) else none)) else (F_X9_isSeen_103 N v3 D)) else none) := by
  rfl
set_option maxRecDepth 100000 in
theorem F_X9_isSeen_103_eq (N : Nat) (v3 : Int32) (D : hy_M) : F_X9_isSeen_103 N v3 D = ((F_X9_copies_67_70_68 N D).bind (fun q1 => (if v3 = 0 ∨ v3 = 1 then some (v3, q1) else none))) := by
  rfl
set_option maxRecDepth 100000 in
theorem F_X9_isSeen_eq (N : Nat) (a1 : Int32) (a2 : Int32) (D : hy_M) : F_X9_isSeen N a1 a2 D = ((F_X9_copies N D).bind (fun q1 => ((F_X9_wholeRun N q1).bind (fun q2 => (if hy_in a2 4 = true then (if hy_in ((49 : Int32) + a1) 94 = true then (if (q2 80 (a2).toNatClampNeg) = (q2 68 (((49 : Int32) + a1)).toNatClampNeg) then (F_X9_isSeen_43 N N a1 a2 (1 : Int32) (0 : Int32) q2) else (F_X9_isSeen_43 N N a1 a2 (0 : Int32) (0 : Int32) q2)) else none) else none))))) := by
  rfl
def F_X9_seen_53 (N : Nat) (n53 : Nat) (v1 : Int32) (v2 : Int32) (v3 : Int32) (v4 : Int32) (v5 : Int32) (v6 : Int32) (D : hy_M) : Option (Int32 × hy_M) := b_X9_seen_53 N  n53 [some (.ref 67), some (.int v1), some (.int v2), some (.int v3), some (.int v4), some (.int v5), some (.int v6)] [] D
def F_X9_seen (N : Nat) (a1 : Int32) (a2 : Int32) (a3 : Int32) (D : hy_M) : Option (Int32 × hy_M) := g_X9_seen N [.ref 67, .int a1, .int a2, .int a3] D
set_option maxRecDepth 100000 in
theorem F_X9_seen_53_eq (N : Nat) (n53 : Nat) (v1 : Int32) (v2 : Int32) (v3 : Int32) (v4 : Int32) (v5 : Int32) (v6 : Int32) (D : hy_M) : F_X9_seen_53 N (n53 + 1) v1 v2 v3 v4 v5 v6 D = (if v6 < (8 : Int32) then (if hy_in ((12 : Int32) + v1) 94 = true then ((F_X9_isSeen N v2 v3 (hy_w D 68 (((12 : Int32) + v1)).toNatClampNeg v6)).bind (fun q1 => (if q1.1 = 0 then (F_X9_seen_53 N n53 v1 v2 v3 v4 (v5 ||| (0 : Int32)) (v6 + (1 : Int32)) q1.2) else (F_X9_seen_53 N n53 v1 v2 v3 v4 (v5 ||| ((1 : Int32) <<< (v6 &&& 31))) (v6 + (1 : Int32)) q1.2)))) else none) else (if hy_in ((12 : Int32) + v1) 94 = true then (some (v5, (hy_w D 68 (((12 : Int32) + v1)).toNatClampNeg v4))) else none)) := by
  rfl
set_option maxRecDepth 100000 in
theorem F_X9_seen_eq (N : Nat) (a1 : Int32) (a2 : Int32) (a3 : Int32) (D : hy_M) : F_X9_seen N a1 a2 a3 D = ((F_X9_isWagon N a1 D).bind (fun q1 => (if q1.1 = 0 then (some ((-1 : Int32), q1.2)) else ((F_X9_isTrain N a2 q1.2).bind (fun q2 => (if q2.1 = 0 then (some ((-1 : Int32), q2.2)) else ((F_X9_isList N a3 q2.2).bind (fun q3 => (if q3.1 = 0 then (some ((-1 : Int32), q3.2)) else (if hy_in a3 4 = true then (if (q3.2 80 (a3).toNatClampNeg) < 0 then (some ((-11 : Int32), q3.2)) else (if hy_in ((12 : Int32) + a1) 94 = true then (F_X9_seen_53 N N a1 a2 a3 (q3.2 68 (((12 : Int32) + a1)).toNatClampNeg) (0 : Int32) (0 : Int32) q3.2) else none)) else none)))))))))) := by
  rfl
def F_X9_judged (N : Nat)  (D : hy_M) : Option (Int32 × hy_M) := g_X9_judged N [.ref 67] D
set_option maxRecDepth 100000 in
theorem F_X9_judged_eq (N : Nat)  (D : hy_M) : F_X9_judged N D = ((F_X9_notRight N D).bind (fun q1 => (if q1.1 < 0 then ((F_X9_tooLoaded N q1.2).bind (fun q2 => (if q2.1 < 0 then (some ((-5 : Int32), q2.2)) else ((F_X9_tooLoaded N q2.2).bind (fun q3 => (some (((200 : Int32) + q3.1), q3.2))))))) else (some (((100 : Int32) + q1.1), q1.2))))) := by
  rfl
def F_X9_judge_23 (N : Nat) (n23 : Nat) (v1 : Int32) (v2 : Int32) (D : hy_M) : Option (Int32 × hy_M) := b_X9_judge_23 N  n23 [some (.ref 67), some (.int v1), some (.int v2), none] [] D
def F_X9_judge_104 (N : Nat) (n104 : Nat) (v1 : Int32) (v2 : Int32) (D : hy_M) : Option (Int32 × hy_M) := b_X9_judge_104 N  n104 [some (.ref 67), some (.int v1), some (.int v2), none] [] D
def F_X9_judge (N : Nat) (a1 : Int32) (D : hy_M) : Option (Int32 × hy_M) := g_X9_judge N [.ref 67, .int a1] D
set_option maxRecDepth 100000 in
theorem F_X9_judge_23_eq (N : Nat) (n23 : Nat) (v1 : Int32) (v2 : Int32) (D : hy_M) : F_X9_judge_23 N (n23 + 1) v1 v2 D = (if v2 < (D 68 0) then (if hy_in v1 4 = true then (if v2 < (D 80 (v1).toNatClampNeg) then (if hy_in (((12 : Int32) * v1) + v2) 48 = true then ((F_X9_isIn N ((D 79 ((((12 : Int32) * v1) + v2)).toNatClampNeg)).toInt64 (0 : Int64) (7 : Int64) D).bind (fun q1 => (if q1.1 = 0 then (some (v2, q1.2)) else ((F_X9_mayBe N (D 79 ((((12 : Int32) * v1) + v2)).toNatClampNeg) (q1.2 68 1) q1.2).bind (fun q2 => (if q2.1 = 0 then (some (v2, q2.2)) else (F_X9_judge_23 N n23 v1 (v2 + (1 : Int32)) q2.2))))))) else none) else (some (v2, D))) else none) else ((F_X9_copies N D).bind (fun q1 => (F_X9_judge_104 N N v1 (0 : Int32) q1)))) := by
  rfl
set_option maxRecDepth 100000 in
theorem F_X9_judge_104_eq (N : Nat) (n104 : Nat) (v1 : Int32) (v2 : Int32) (D : hy_M) : F_X9_judge_104 N (n104 + 1) v1 v2 D = (if v2 < (D 68 0) then (if hy_in (((12 : Int32) * v1) + v2) 48 = true then (if hy_in ((12 : Int32) + v2) 94 = true then (F_X9_judge_104 N n104 v1 (v2 + (1 : Int32)) (hy_w D 68 (((12 : Int32) + v2)).toNatClampNeg (D 79 ((((12 : Int32) * v1) + v2)).toNatClampNeg))) else none) else none) else ((F_X9_judged N D).bind (fun q1 => ((F_X9_copies_67_70_68 N q1.2).bind (fun q2 => (some (q1.1, q2))))))) := by
  rfl
set_option maxRecDepth 100000 in
theorem F_X9_judge_eq (N : Nat) (a1 : Int32) (D : hy_M) : F_X9_judge N a1 D = ((F_X9_isList N a1 D).bind (fun q1 => (if q1.1 = 0 then (some ((-1 : Int32), q1.2)) else (if hy_in a1 4 = true then (if (q1.2 80 (a1).toNatClampNeg) < 0 then (some ((-11 : Int32), q1.2)) else (F_X9_judge_23 N N a1 (0 : Int32) q1.2)) else none)))) := by
  rfl
def F_X9_list_34 (N : Nat) (n34 : Nat) (v1 : Int32) (v3 : Int32) (D : hy_M) : Option (Int32 × hy_M) := b_X9_list_34 N  n34 [some (.ref 67), some (.int v1), none, some (.int v3)] [] D
def F_X9_list (N : Nat) (a1 : Int32) (a2 : Int32) (D : hy_M) : Option (Int32 × hy_M) := g_X9_list N [.ref 67, .int a1, .int a2] D
set_option maxRecDepth 100000 in
theorem F_X9_list_34_eq (N : Nat) (n34 : Nat) (v1 : Int32) (v3 : Int32) (D : hy_M) : F_X9_list_34 N (n34 + 1) v1 v3 D = (if v3 < (12 : Int32) then (if hy_in (((12 : Int32) * v1) + v3) 48 = true then (F_X9_list_34 N n34 v1 (v3 + (1 : Int32)) (hy_w D 79 ((((12 : Int32) * v1) + v3)).toNatClampNeg (0 : Int32))) else none) else (some ((1 : Int32), D))) := by
  rfl
set_option maxRecDepth 100000 in
theorem F_X9_list_eq (N : Nat) (a1 : Int32) (a2 : Int32) (D : hy_M) : F_X9_list N a1 a2 D = ((F_X9_isList N a1 D).bind (fun q1 => (if q1.1 = 0 then (some ((-1 : Int32), q1.2)) else (if (12 : Int32) < a2 then (some ((-2 : Int32), q1.2)) else (if a2 < 0 then (some ((-14 : Int32), q1.2)) else (if hy_in a1 4 = true then (F_X9_list_34 N N a1 (0 : Int32) (hy_w q1.2 80 (a1).toNatClampNeg a2)) else none)))))) := by
  rfl
def F_X9_put (N : Nat) (a1 : Int32) (a2 : Int32) (a3 : Int32) (D : hy_M) : Option (Int32 × hy_M) := g_X9_put N [.ref 67, .int a1, .int a2, .int a3] D
set_option maxRecDepth 100000 in
theorem F_X9_put_eq (N : Nat) (a1 : Int32) (a2 : Int32) (a3 : Int32) (D : hy_M) : F_X9_put N a1 a2 a3 D = ((F_X9_isList N a1 D).bind (fun q1 => (if q1.1 = 0 then (some ((-1 : Int32), q1.2)) else (if hy_in a1 4 = true then (if (q1.2 80 (a1).toNatClampNeg) < 0 then (some ((-11 : Int32), q1.2)) else (if hy_in a1 4 = true then ((F_X9_isIn N (a2).toInt64 (0 : Int64) (((q1.2 80 (a1).toNatClampNeg) - (1 : Int32))).toInt64 q1.2).bind (fun q2 => (if q2.1 = 0 then (some ((-13 : Int32), q2.2)) else (if hy_in (((12 : Int32) * a1) + a2) 48 = true then (some ((1 : Int32), (hy_w q2.2 79 ((((12 : Int32) * a1) + a2)).toNatClampNeg a3))) else none)))) else none)) else none)))) := by
  rfl
def F_X9_get (N : Nat) (a1 : Int32) (a2 : Int32) (D : hy_M) : Option (Int64 × hy_M) := g_X9_get N [.ref 67, .int a1, .int a2] D
set_option maxRecDepth 100000 in
theorem F_X9_get_eq (N : Nat) (a1 : Int32) (a2 : Int32) (D : hy_M) : F_X9_get N a1 a2 D = ((F_X9_isList N a1 D).bind (fun q1 => (if q1.1 = 0 then (some ((-9223372036854775808 : Int64), q1.2)) else (if hy_in a1 4 = true then ((F_X9_isIn N (a2).toInt64 (0 : Int64) (((q1.2 80 (a1).toNatClampNeg) - (1 : Int32))).toInt64 q1.2).bind (fun q2 => (if q2.1 = 0 then (some ((-9223372036854775808 : Int64), q2.2)) else (if hy_in (((12 : Int32) * a1) + a2) 48 = true then (some (((q2.2 79 ((((12 : Int32) * a1) + a2)).toNatClampNeg)).toInt64, q2.2)) else none)))) else none)))) := by
  rfl
