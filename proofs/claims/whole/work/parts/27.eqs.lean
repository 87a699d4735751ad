def F_X9_wrongOf_2 (n2 : Nat) (v1 : Int32) (v2 : Int32) (D : hy_M) : Option (Int32 × hy_M) := b_X9_wrongOf_2  n2 [some (.ref 67), some (.int v1), some (.int v2)] [] D
def F_X9_wrongOf (a1 : Int32) (D : hy_M) : Option (Int32 × hy_M) := g_X9_wrongOf [.ref 67, .int a1] D
set_option maxRecDepth 100000 in
theorem F_X9_wrongOf_2_eq (n2 : Nat) (v1 : Int32) (v2 : Int32) (D : hy_M) : F_X9_wrongOf_2 (n2 + 1) v1 v2 D = (if hy_in ((49 : Int32) + v1) 94 = true then (if v2 < (D 68 (((49 : Int32) + v1)).toNatClampNeg) then (if hy_in (((51 : Int32) + ((8 : Int32) * v1)) + v2) 94 = true then ((F_X9_wantedAt v1 v2 D).bind (fun q1 => (if (D 68 ((((51 : Int32) + ((8 : Int32) * v1)) + v2)).toNatClampNeg) = q1.1 then (F_X9_wrongOf_2 n2 v1 (v2 + (1 : Int32)) q1.2) else (some (v2, q1.2))))) else none) else (some ((-1 : Int32), D))) else none) := by
  rfl
set_option maxRecDepth 100000 in
theorem F_X9_wrongOf_eq (a1 : Int32) (D : hy_M) : F_X9_wrongOf a1 D = (F_X9_wrongOf_2 300 a1 (0 : Int32) D) := by
  rfl
def F_X9_wrong (a1 : Int32) (D : hy_M) : Option (Int32 × hy_M) := g_X9_wrong [.ref 67, .int a1] D
set_option maxRecDepth 100000 in
theorem F_X9_wrong_eq (a1 : Int32) (D : hy_M) : F_X9_wrong a1 D = ((F_X9_isTrain a1 D).bind (fun q1 => (if q1.1 = 0 then (some ((-2 : Int32), q1.2)) else ((F_X9_wrongOf a1 q1.2).bind (fun q2 => (some (q2.1, q2.2))))))) := by
  rfl
def F_X9_pullsFault_2 (n2 : Nat) (v1 : Int32) (D : hy_M) : Option (Int32 × hy_M) := b_X9_pullsFault_2  n2 [some (.ref 67), some (.int v1)] [] D
def F_X9_pullsFault  (D : hy_M) : Option (Int32 × hy_M) := g_X9_pullsFault [.ref 67] D
set_option maxRecDepth 100000 in
theorem F_X9_pullsFault_2_eq (n2 : Nat) (v1 : Int32) (D : hy_M) : F_X9_pullsFault_2 (n2 + 1) v1 D = (if v1 < (D 67 5) then (if v1 < (20 : Int32) then (if hy_in v1 40 = true then ((F_X9_isIn ((D 71 (v1).toNatClampNeg)).toInt64 (48 : Int64) (50 : Int64) D).bind (fun q1 => (if q1.1 = 0 then (some (v1, q1.2)) else (F_X9_pullsFault_2 n2 (v1 + (1 : Int32)) q1.2)))) else none) else (some (v1, D))) else (some (v1, D))) := by
  rfl
set_option maxRecDepth 100000 in
theorem F_X9_pullsFault_eq  (D : hy_M) : F_X9_pullsFault D = (F_X9_pullsFault_2 300 (0 : Int32) D) := by
  rfl
def F_X9_replayed_5 (n5 : Nat) (v1 : Int32) (v2 : Int32) (v3 : Int32) (v4 : Int32) (D : hy_M) : Option (Int32 × hy_M) := b_X9_replayed_5  n5 [some (.ref 67), some (.int v1), some (.int v2), some (.int v3), some (.int v4)] [] D
def F_X9_replayed (a1 : Int32) (a2 : Int32) (D : hy_M) : Option (Int32 × hy_M) := g_X9_replayed [.ref 67, .int a1, .int a2] D
set_option maxRecDepth 100000 in
theorem F_X9_replayed_5_eq (n5 : Nat) (v1 : Int32) (v2 : Int32) (v3 : Int32) (v4 : Int32) (D : hy_M) : F_X9_replayed_5 (n5 + 1) v1 v2 v3 v4 D = (if v4 < (3 : Int32) then (if hy_in ((67 : Int32) + v4) 94 = true then (if 0 < (D 68 (((67 : Int32) + v4)).toNatClampNeg) then (F_X9_replayed_5 n5 v1 v2 (v3 ||| ((1 : Int32) <<< (v4 &&& 31))) (v4 + (1 : Int32)) D) else (F_X9_replayed_5 n5 v1 v2 (v3 ||| (0 : Int32)) (v4 + (1 : Int32)) D)) else none) else (if v1 = 0 then ((F_X9_outs D).bind (fun q7 => (some (q7.1, q7.2)))) else (if v1 = 1 then (some (v2, D)) else (if v1 = 2 then (some (v3, D)) else (if v1 = 3 then ((F_X9_wrongOf (v1 - (3 : Int32)) D).bind (fun q5 => (if q5.1 < 0 then (some ((-5 : Int32), q5.2)) else ((F_X9_wrongOf (v1 - (3 : Int32)) q5.2).bind (fun q6 => (some (q6.1, q6.2))))))) else (if v1 = 4 then ((F_X9_wrongOf (v1 - (3 : Int32)) D).bind (fun q3 => (if q3.1 < 0 then (some ((-5 : Int32), q3.2)) else ((F_X9_wrongOf (v1 - (3 : Int32)) q3.2).bind (fun q4 => (some (q4.1, q4.2))))))) else (if v1 = 5 then (some (((D 67 13) - (D 68 0)), D)) else ((F_X9_wrongOf (v1 - (3 : Int32)) D).bind (fun q1 => (if q1.1 < 0 then (some ((-5 : Int32), q1.2)) else ((F_X9_wrongOf (v1 - (3 : Int32)) q1.2).bind (fun q2 => (some (q2.1, q2.2)))))))))))))) := by
  rfl
set_option maxRecDepth 100000 in
theorem F_X9_replayed_eq (a1 : Int32) (a2 : Int32) (D : hy_M) : F_X9_replayed a1 a2 D = (F_X9_replayed_5 300 a1 a2 (0 : Int32) (0 : Int32) D) := by
  rfl
def F_X9_replay_82 (n82 : Nat) (v1 : Int32) (v2 : Int32) (v4 : Int32) (v5 : Int32) (D : hy_M) : Option (Int32 × hy_M) := b_X9_replay_82  n82 [some (.ref 67), some (.int v1), some (.int v2), none, some (.int v4), some (.int v5)] [] D
def F_X9_replay (a1 : Int32) (D : hy_M) : Option (Int32 × hy_M) := g_X9_replay [.ref 67, .int a1] D
set_option maxRecDepth 100000 in
theorem F_X9_replay_82_eq (n82 : Nat) (v1 : Int32) (v2 : Int32) (v4 : Int32) (v5 : Int32) (D : hy_M) : F_X9_replay_82 (n82 + 1) v1 v2 v4 v5 D = (if v5 < v2 then (if hy_in v5 40 = true then ((F_X9_pulls ((D 71 (v5).toNatClampNeg) - (48 : Int32)) D).bind (fun q1 => (if v4 < 0 then ((F_X9_isOver q1).bind (fun q2 => (if q2.1 = 0 then (F_X9_replay_82 n82 v1 v2 v4 (v5 + (1 : Int32)) q2.2) else (F_X9_replay_82 n82 v1 v2 (v5 + (1 : Int32)) (v5 + (1 : Int32)) q2.2)))) else (F_X9_replay_82 n82 v1 v2 v4 (v5 + (1 : Int32)) q1)))) else none) else ((F_X9_replayed v1 v4 D).bind (fun q1 => ((F_X9_copies_67_70_68 q1.2).bind (fun q2 => (some (q1.1, q2))))))) := by
  rfl
set_option maxRecDepth 100000 in
theorem F_X9_replay_eq (a1 : Int32) (D : hy_M) : F_X9_replay a1 D = ((F_X9_isIn (a1).toInt64 (0 : Int64) (5 : Int64) D).bind (fun q1 => (if q1.1 = 0 then (some ((-1 : Int32), q1.2)) else ((F_X9_pullsFault q1.2).bind (fun q2 => (if q2.1 < (q1.2 67 5) then (some (((-100 : Int32) - q2.1), (hy_w q2.2 67 5 (0 : Int32)))) else ((F_X9_copies (hy_w q2.2 67 5 (0 : Int32))).bind (fun q3 => ((F_X9_clears q3).bind (fun q4 => ((F_X9_humps (hy_w q4 67 13 (0 : Int32))).bind (fun q5 => ((F_X9_isOver q5).bind (fun q6 => (if q6.1 = 0 then (F_X9_replay_82 300 a1 (q1.2 67 5) (-5 : Int32) (0 : Int32) q6.2) else (F_X9_replay_82 300 a1 (q1.2 67 5) (0 : Int32) (0 : Int32) q6.2)))))))))))))))) := by
  rfl
def F_X9_wholeRun_10 (n10 : Nat) (v1 : Int32) (D : hy_M) : Option hy_M := b_X9_wholeRun_10  n10 [some (.ref 67), some (.int v1)] [] D
def F_X9_wholeRun_48 (n10 : Nat) (v1 : Int32) (D : hy_M) : Option hy_M := b_X9_wholeRun_48 (b_X9_wholeRun_10  n10) [some (.ref 67), some (.int v1)] [] D
def F_X9_wholeRun  (D : hy_M) : Option hy_M := g_X9_wholeRun [.ref 67] D
set_option maxRecDepth 100000 in
theorem F_X9_wholeRun_10_eq (n10 : Nat) (v1 : Int32) (D : hy_M) : F_X9_wholeRun_10 (n10 + 1) v1 D = (if v1 < (3 : Int32) then (if (D 67 14) = 0 then (F_X9_wholeRun_48 n10 v1 D) else (if hy_in ((67 : Int32) + v1) 94 = true then (if 0 < (D 68 (((67 : Int32) + v1)).toNatClampNeg) then ((F_X9_says (59 : Int32) D).bind (fun q1 => ((F_X9_says ((48 : Int32) + v1) q1).bind (fun q2 => (F_X9_wholeRun_48 n10 v1 q2))))) else (F_X9_wholeRun_48 n10 v1 D)) else none)) else (some D)) := by
  rfl
set_option maxRecDepth 100000 in
theorem F_X9_wholeRun_48_eq (n10 : Nat) (v1 : Int32) (D : hy_M) : F_X9_wholeRun_48 n10 v1 D = ((F_X9_pulls v1 D).bind (fun q1 => (F_X9_wholeRun_10 n10 (v1 + (1 : Int32)) q1))) := by
  rfl
set_option maxRecDepth 100000 in
theorem F_X9_wholeRun_eq  (D : hy_M) : F_X9_wholeRun D = ((F_X9_clears D).bind (fun q1 => ((F_X9_humps q1).bind (fun q2 => (F_X9_wholeRun_10 300 (0 : Int32) q2))))) := by
  rfl
def F_X9_spell  (D : hy_M) : Option (Int32 × hy_M) := g_X9_spell [.ref 67] D
set_option maxRecDepth 100000 in
theorem F_X9_spell_eq  (D : hy_M) : F_X9_spell D = ((F_X9_copies D).bind (fun q1 => ((F_X9_says (72 : Int32) (hy_w q1 67 16 (0 : Int32))).bind (fun q2 => ((F_X9_wholeRun (hy_w q2 67 14 (1 : Int32))).bind (fun q3 => ((F_X9_copies_67_70_68 (hy_w q3 67 14 (0 : Int32))).bind (fun q4 => (some ((q4 67 16), q4)))))))))) := by
  rfl
def F_X9_paper (a1 : Int32) (D : hy_M) : Option (Int32 × hy_M) := g_X9_paper [.ref 67, .int a1] D
set_option maxRecDepth 100000 in
theorem F_X9_paper_eq (a1 : Int32) (D : hy_M) : F_X9_paper a1 D = ((F_X9_isIn (a1).toInt64 (0 : Int64) (((D 67 16) - (1 : Int32))).toInt64 D).bind (fun q1 => (if q1.1 = 0 then (some ((-1 : Int32), q1.2)) else (if hy_in a1 80 = true then (some ((q1.2 77 (a1).toNatClampNeg), q1.2)) else none)))) := by
  rfl
def F_X9_moves_2 (n2 : Nat) (v1 : Int32) (v2 : Int32) (v3 : Int32) (D : hy_M) : Option hy_M := b_X9_moves_2  n2 [some (.ref 67), some (.int v1), some (.int v2), some (.int v3), none] [] D
def F_X9_moves_24 (n2 : Nat) (v1 : Int32) (v2 : Int32) (v3 : Int32) (vs0 : Int32) (D : hy_M) : Option hy_M := b_X9_moves_24 (b_X9_moves_2  n2) [some (.ref 67), some (.int v1), some (.int v2), some (.int v3), none] [.int vs0] D
def F_X9_moves (a1 : Int32) (a2 : Int32) (D : hy_M) : Option hy_M := g_X9_moves [.ref 67, .int a1, .int a2] D
set_option maxRecDepth 100000 in
theorem F_X9_moves_2_eq (n2 : Nat) (v1 : Int32) (v2 : Int32) (v3 : Int32) (D : hy_M) : F_X9_moves_2 (n2 + 1) v1 v2 v3 D = (if v3 < (D 68 0) then (if v1 < v3 then (F_X9_moves_24 n2 v1 v2 v3 (v3 - (1 : Int32)) D) else (F_X9_moves_24 n2 v1 v2 v3 v3 D)) else (if hy_in v1 8 = true then (some (hy_w D 72 (v1).toNatClampNeg v2)) else none)) := by
  rfl
set_option maxRecDepth 100000 in
theorem F_X9_moves_24_eq (n2 : Nat) (v1 : Int32) (v2 : Int32) (v3 : Int32) (vs0 : Int32) (D : hy_M) : F_X9_moves_24 n2 v1 v2 v3 vs0 D = (if vs0 < v2 then (if hy_in v3 8 = true then (F_X9_moves_2 n2 v1 v2 (v3 + (1 : Int32)) (hy_w D 72 (v3).toNatClampNeg vs0)) else none) else (if hy_in v3 8 = true then (F_X9_moves_2 n2 v1 v2 (v3 + (1 : Int32)) (hy_w D 72 (v3).toNatClampNeg (vs0 + (1 : Int32)))) else none)) := by
  rfl
set_option maxRecDepth 100000 in
theorem F_X9_moves_eq (a1 : Int32) (a2 : Int32) (D : hy_M) : F_X9_moves a1 a2 D = (F_X9_moves_2 300 a1 a2 (0 : Int32) D) := by
  rfl
def F_X9_elsewhere_34 (n34 : Nat) (v1 : Int32) (v2 : Int32) (v3 : Int32) (v4 : Int32) (v5 : Int32) (D : hy_M) : Option (Int32 × hy_M) := b_X9_elsewhere_34  n34 [some (.ref 67), some (.int v1), some (.int v2), some (.int v3), some (.int v4), some (.int v5), none, none] [] D
def F_X9_elsewhere_48 (n34 : Nat) (n48 : Nat) (v1 : Int32) (v2 : Int32) (v3 : Int32) (v4 : Int32) (v5 : Int32) (v6 : Int32) (D : hy_M) : Option (Int32 × hy_M) := b_X9_elsewhere_48 (b_X9_elsewhere_34  n34) n48 [some (.ref 67), some (.int v1), some (.int v2), some (.int v3), some (.int v4), some (.int v5), some (.int v6), none] [] D
def F_X9_elsewhere (a1 : Int32) (D : hy_M) : Option (Int32 × hy_M) := g_X9_elsewhere [.ref 67, .int a1] D
set_option maxRecDepth 100000 in
theorem F_X9_elsewhere_34_eq (n34 : Nat) (v1 : Int32) (v2 : Int32) (v3 : Int32) (v4 : Int32) (v5 : Int32) (D : hy_M) : F_X9_elsewhere_34 (n34 + 1) v1 v2 v3 v4 v5 D = (if v5 < (D 68 0) then (F_X9_elsewhere_48 n34 300 v1 v2 v3 v4 v5 (0 : Int32) D) else (if v3 < 0 then (some ((-5 : Int32), D)) else (if v1 = 0 then (some (v3, D)) else (if v1 = (1 : Int32) then (some (v4, D)) else (some (v2, D)))))) := by
  rfl
set_option maxRecDepth 100000 in
theorem F_X9_elsewhere_48_eq (n34 : Nat) (n48 : Nat) (v1 : Int32) (v2 : Int32) (v3 : Int32) (v4 : Int32) (v5 : Int32) (v6 : Int32) (D : hy_M) : F_X9_elsewhere_48 n34 (n48 + 1) v1 v2 v3 v4 v5 v6 D = (if v6 < (D 68 0) then ((F_X9_moves v5 v6 D).bind (fun q1 => ((F_X9_need q1).bind (fun q2 => (if v6 = v5 then (F_X9_elsewhere_48 n34 n48 v1 v2 v3 v4 v5 (v6 + (1 : Int32)) q2.2) else (if q2.1 < v2 then (F_X9_elsewhere_48 n34 n48 v1 q2.1 v5 v6 v5 (v6 + (1 : Int32)) q2.2) else (F_X9_elsewhere_48 n34 n48 v1 v2 v3 v4 v5 (v6 + (1 : Int32)) q2.2))))))) else (F_X9_elsewhere_34 n34 v1 v2 v3 v4 (v5 + (1 : Int32)) D)) := by
  rfl
set_option maxRecDepth 100000 in
theorem F_X9_elsewhere_eq (a1 : Int32) (D : hy_M) : F_X9_elsewhere a1 D = ((F_X9_isIn (a1).toInt64 (0 : Int64) (2 : Int64) D).bind (fun q1 => (if q1.1 = 0 then (some ((-2 : Int32), q1.2)) else ((F_X9_asTheyAre q1.2).bind (fun q2 => ((F_X9_need q2).bind (fun q3 => (F_X9_elsewhere_34 300 a1 q3.1 (-5 : Int32) (-5 : Int32) (0 : Int32) q3.2)))))))) := by
  rfl
def F_X9_draws_4 (n4 : Nat) (v2 : Int32) (v3 : Int32) (D : hy_M) : Option hy_M := b_X9_draws_4  n4 [some (.ref 67), none, some (.int v2), some (.int v3), none, none] [] D
def F_X9_draws_32 (n32 : Nat) (v2 : Int32) (v3 : Int32) (D : hy_M) : Option hy_M := b_X9_draws_32  n32 [some (.ref 67), none, some (.int v2), some (.int v3), none, none] [] D
def F_X9_draws_94 (n94 : Nat) (v3 : Int32) (D : hy_M) : Option hy_M := b_X9_draws_94  n94 [some (.ref 67), none, none, some (.int v3), none, none] [] D
def F_X9_draws (a1 : Int32) (D : hy_M) : Option hy_M := g_X9_draws [.ref 67, .int a1] D
set_option maxRecDepth 100000 in
theorem F_X9_draws_4_eq (n4 : Nat) (v2 : Int32) (v3 : Int32) (D : hy_M) : F_X9_draws_4 (n4 + 1) v2 v3 D = (if v3 < (8 : Int32) then (if hy_in v3 8 = true then (F_X9_draws_4 n4 v2 (v3 + (1 : Int32)) (hy_w D 78 (v3).toNatClampNeg v3)) else none) else (F_X9_draws_32 300 v2 ((D 68 0) - (1 : Int32)) D)) := by
  rfl
set_option maxRecDepth 100000 in
theorem F_X9_draws_32_eq (n32 : Nat) (v2 : Int32) (v3 : Int32) (D : hy_M) : F_X9_draws_32 (n32 + 1) v2 v3 D = (if 0 < v3 then (if (v3 + (1 : Int32)) = 0 then none else (if hy_in v3 8 = true then (if hy_in (((((v2 * (1103515245 : Int32)) + (12345 : Int32))).toUInt32 >>> (((9 : Int32)).toUInt32 &&& Int32.toUInt32 31)).toInt32 - ((((v2 * (1103515245 : Int32)) + (12345 : Int32))).toUInt32 >>> (((9 : Int32)).toUInt32 &&& Int32.toUInt32 31)).toInt32 / (v3 + (1 : Int32)) * (v3 + (1 : Int32))) 8 = true then (if hy_in v3 8 = true then (if hy_in (((((v2 * (1103515245 : Int32)) + (12345 : Int32))).toUInt32 >>> (((9 : Int32)).toUInt32 &&& Int32.toUInt32 31)).toInt32 - ((((v2 * (1103515245 : Int32)) + (12345 : Int32))).toUInt32 >>> (((9 : Int32)).toUInt32 &&& Int32.toUInt32 31)).toInt32 / (v3 + (1 : Int32)) * (v3 + (1 : Int32))) 8 = true then (F_X9_draws_32 n32 ((v2 * (1103515245 : Int32)) + (12345 : Int32)) (v3 + (-1 : Int32)) (hy_w (hy_w D 78 (v3).toNatClampNeg (D 78 ((((((v2 * (1103515245 : Int32)) + (12345 : Int32))).toUInt32 >>> (((9 : Int32)).toUInt32 &&& Int32.toUInt32 31)).toInt32 - ((((v2 * (1103515245 : Int32)) + (12345 : Int32))).toUInt32 >>> (((9 : Int32)).toUInt32 &&& Int32.toUInt32 31)).toInt32 / (v3 + (1 : Int32)) * (v3 + (1 : Int32)))).toNatClampNeg)) 78 ((((((v2 * (1103515245 : Int32)) + (12345 : Int32))).toUInt32 >>> (((9 : Int32)).toUInt32 &&& Int32.toUInt32 31)).toInt32 - ((((v2 * (1103515245 : Int32)) + (12345 : Int32))).toUInt32 >>> (((9 : Int32)).toUInt32 &&& Int32.toUInt32 31)).toInt32 / (v3 + (1 : Int32)) * (v3 + (1 : Int32)))).toNatClampNeg (D 78 (v3).toNatClampNeg))) else none) else none) else none) else none)) else (F_X9_draws_94 300 (0 : Int32) D)) := by
  rfl
set_option maxRecDepth 100000 in
theorem F_X9_draws_94_eq (n94 : Nat) (v3 : Int32) (D : hy_M) : F_X9_draws_94 (n94 + 1) v3 D = (if v3 < (8 : Int32) then (if hy_in v3 8 = true then (if hy_in (D 78 (v3).toNatClampNeg) 8 = true then (F_X9_draws_94 n94 (v3 + (1 : Int32)) (hy_w D 72 ((D 78 (v3).toNatClampNeg)).toNatClampNeg v3)) else none) else none) else (some D)) := by
  rfl
set_option maxRecDepth 100000 in
theorem F_X9_draws_eq (a1 : Int32) (D : hy_M) : F_X9_draws a1 D = (F_X9_draws_4 300 a1 (0 : Int32) D) := by
  rfl
def F_X9_drawn_33 (v1 : Int32) (v2 : Int32) (D : hy_M) : Option (Int32 × hy_M) := b_X9_drawn_33  [some (.ref 67), some (.int v1), some (.int v2)] [] D
def F_X9_drawn (a1 : Int32) (a2 : Int32) (D : hy_M) : Option (Int32 × hy_M) := g_X9_drawn [.ref 67, .int a1, .int a2] D
set_option maxRecDepth 100000 in
theorem F_X9_drawn_33_eq (v1 : Int32) (v2 : Int32) (D : hy_M) : F_X9_drawn_33 v1 v2 D = ((F_X9_draws v1 D).bind (fun q1 => (if v2 = 0 then ((F_X9_need q1).bind (fun q2 => (some (q2.1, q2.2)))) else (if v2 = (1 : Int32) then ((F_X9_need q1).bind (fun q2 => ((F_X9_fewestFor q2.1 q2.2).bind (fun q3 => (some (q3.1, q3.2)))))) else (if hy_in (v2 - (10 : Int32)) 8 = true then (some ((q1 72 ((v2 - (10 : Int32))).toNatClampNeg), q1)) else none))))) := by
  rfl
set_option maxRecDepth 100000 in
theorem F_X9_drawn_eq (a1 : Int32) (a2 : Int32) (D : hy_M) : F_X9_drawn a1 a2 D = ((F_X9_isIn (a2).toInt64 (0 : Int64) (1 : Int64) D).bind (fun q1 => (if q1.1 = 0 then ((F_X9_isIn (a2).toInt64 (10 : Int64) (((9 : Int32) + (q1.2 68 0))).toInt64 q1.2).bind (fun q2 => (if q2.1 = 0 then (some ((-1 : Int32), q2.2)) else (F_X9_drawn_33 a1 a2 q2.2)))) else (F_X9_drawn_33 a1 a2 q1.2)))) := by
  rfl
def F_X9_odds_45 (n45 : Nat) (v1 : Int32) (v2 : Int32) (v3 : Int32) (v4 : Int32) (v5 : Int32) (v6 : Int32) (D : hy_M) : Option (Int64 × hy_M) := b_X9_odds_45  n45 [some (.ref 67), some (.int v1), some (.int v2), some (.int v3), some (.int v4), some (.int v5), some (.int v6)] [] D
def F_X9_odds (a1 : Int32) (a2 : Int32) (a3 : Int32) (a4 : Int32) (D : hy_M) : Option (Int64 × hy_M) := g_X9_odds [.ref 67, .int a1, .int a2, .int a3, .int a4] D
set_option maxRecDepth 100000 in
theorem F_X9_odds_45_eq (n45 : Nat) (v1 : Int32) (v2 : Int32) (v3 : Int32) (v4 : Int32) (v5 : Int32) (v6 : Int32) (D : hy_M) : F_X9_odds_45 (n45 + 1) v1 v2 v3 v4 v5 v6 D = (if v6 < v2 then ((F_X9_draws (v1 + v6) D).bind (fun q1 => ((F_X9_need q1).bind (fun q2 => (if v3 < q2.1 then (F_X9_odds_45 n45 v1 v2 v3 v4 (v5 + (0 : Int32)) (v6 + (1 : Int32)) q2.2) else (F_X9_odds_45 n45 v1 v2 v3 v4 (v5 + (1 : Int32)) (v6 + (1 : Int32)) q2.2)))))) else ((F_X9_partOf (v5).toInt64 (v2).toInt64 v4 D).bind (fun q1 => (some (q1.1, q1.2))))) := by
  rfl
set_option maxRecDepth 100000 in
theorem F_X9_odds_eq (a1 : Int32) (a2 : Int32) (a3 : Int32) (a4 : Int32) (D : hy_M) : F_X9_odds a1 a2 a3 a4 D = ((F_X9_isIn (a2).toInt64 (1 : Int64) (20 : Int64) D).bind (fun q1 => (if q1.1 = 0 then (some ((-9223372036854775808 : Int64), q1.2)) else ((F_X9_isIn (a3).toInt64 (0 : Int64) (8 : Int64) q1.2).bind (fun q2 => (if q2.1 = 0 then (some ((-9223372036854775808 : Int64), q2.2)) else ((F_X9_isIn (a4).toInt64 (0 : Int64) (1 : Int64) q2.2).bind (fun q3 => (if q3.1 = 0 then (some ((-9223372036854775808 : Int64), q3.2)) else (F_X9_odds_45 300 a1 a2 a3 a4 (0 : Int32) (0 : Int32) q3.2)))))))))) := by
  rfl
def F_X9_isList (a0 : Int32) (D : hy_M) : Option (Int32 × hy_M) := g_X9_isList [.int a0] D
set_option maxRecDepth 100000 in
theorem F_X9_isList_eq (a0 : Int32) (D : hy_M) : F_X9_isList a0 D = ((F_X9_isIn (a0).toInt64 (0 : Int64) (3 : Int64) D).bind (fun q1 => (if q1.1 = 0 ∨ q1.1 = 1 then some (q1.1, q1.2) else none))) := by
  rfl
def F_X9_isSeen_43 (n43 : Nat) (v1 : Int32) (v2 : Int32) (v3 : Int32) (v4 : Int32) (D : hy_M) : Option (Int32 × hy_M) := b_X9_isSeen_43  n43 [some (.ref 67), some (.int v1), some (.int v2), some (.int v3), some (.int v4)] [] D
def F_X9_isSeen_103 (v3 : Int32) (D : hy_M) : Option (Int32 × hy_M) := b_X9_isSeen_103  [some (.ref 67), none, none, some (.int v3), none] [] D
def F_X9_isSeen (a1 : Int32) (a2 : Int32) (D : hy_M) : Option (Int32 × hy_M) := g_X9_isSeen [.ref 67, .int a1, .int a2] D
set_option maxRecDepth 100000 in
theorem F_X9_isSeen_43_eq (n43 : Nat) (v1 : Int32) (v2 : Int32) (v3 : Int32) (v4 : Int32) (D : hy_M) : F_X9_isSeen_43 (n43 + 1) v1 v2 v3 v4 D = (if hy_in ((49 : Int32) + v1) 94 = true then (if v4 < (D 68 (((49 : Int32) + v1)).toNatClampNeg) then (if v3 = 0 then (F_X9_isSeen_103 v3 D) else (if hy_in (((12 : Int32) * v2) + v4) 48 = true then (if hy_in (((51 : Int32) + ((8 : Int32) * v1)) + v4) 94 = true then (if (D 79 ((((12 : Int32) * v2) + v4)).toNatClampNeg) = (D 68 ((((51 : Int32) + ((8 : Int32) * v1)) + v4)).toNatClampNeg) then (F_X9_isSeen_43 n43 v1 v2 (1 : Int32) (v4 + (1 : Int32)) D) else (F_X9_isSeen_43 n43 v1 v2 (0 : Int32) (v4 + (1 : Int32)) D)) else none) else none)) else (F_X9_isSeen_103 v3 D)) else none) := by
  rfl
set_option maxRecDepth 100000 in
theorem F_X9_isSeen_103_eq (v3 : Int32) (D : hy_M) : F_X9_isSeen_103 v3 D = ((F_X9_copies_67_70_68 D).bind (fun q1 => (if v3 = 0 ∨ v3 = 1 then some (v3, q1) else none))) := by
  rfl
set_option maxRecDepth 100000 in
theorem F_X9_isSeen_eq (a1 : Int32) (a2 : Int32) (D : hy_M) : F_X9_isSeen a1 a2 D = ((F_X9_copies D).bind (fun q1 => ((F_X9_wholeRun q1).bind (fun q2 => (if hy_in a2 4 = true then (if hy_in ((49 : Int32) + a1) 94 = true then (if (q2 80 (a2).toNatClampNeg) = (q2 68 (((49 : Int32) + a1)).toNatClampNeg) then (F_X9_isSeen_43 300 a1 a2 (1 : Int32) (0 : Int32) q2) else (F_X9_isSeen_43 300 a1 a2 (0 : Int32) (0 : Int32) q2)) else none) else none))))) := by
  rfl
def F_X9_seen_53 (n53 : Nat) (v1 : Int32) (v2 : Int32) (v3 : Int32) (v4 : Int32) (v5 : Int32) (v6 : Int32) (D : hy_M) : Option (Int32 × hy_M) := b_X9_seen_53  n53 [some (.ref 67), some (.int v1), some (.int v2), some (.int v3), some (.int v4), some (.int v5), some (.int v6)] [] D
def F_X9_seen (a1 : Int32) (a2 : Int32) (a3 : Int32) (D : hy_M) : Option (Int32 × hy_M) := g_X9_seen [.ref 67, .int a1, .int a2, .int a3] D
set_option maxRecDepth 100000 in
theorem F_X9_seen_53_eq (n53 : Nat) (v1 : Int32) (v2 : Int32) (v3 : Int32) (v4 : Int32) (v5 : Int32) (v6 : Int32) (D : hy_M) : F_X9_seen_53 (n53 + 1) v1 v2 v3 v4 v5 v6 D = (if v6 < (8 : Int32) then (if hy_in ((12 : Int32) + v1) 94 = true then ((F_X9_isSeen v2 v3 (hy_w D 68 (((12 : Int32) + v1)).toNatClampNeg v6)).bind (fun q1 => (if q1.1 = 0 then (F_X9_seen_53 n53 v1 v2 v3 v4 (v5 ||| (0 : Int32)) (v6 + (1 : Int32)) q1.2) else (F_X9_seen_53 n53 v1 v2 v3 v4 (v5 ||| ((1 : Int32) <<< (v6 &&& 31))) (v6 + (1 : Int32)) q1.2)))) else none) else (if hy_in ((12 : Int32) + v1) 94 = true then (some (v5, (hy_w D 68 (((12 : Int32) + v1)).toNatClampNeg v4))) else none)) := by
  rfl
set_option maxRecDepth 100000 in
theorem F_X9_seen_eq (a1 : Int32) (a2 : Int32) (a3 : Int32) (D : hy_M) : F_X9_seen a1 a2 a3 D = ((F_X9_isWagon a1 D).bind (fun q1 => (if q1.1 = 0 then (some ((-1 : Int32), q1.2)) else ((F_X9_isTrain a2 q1.2).bind (fun q2 => (if q2.1 = 0 then (some ((-1 : Int32), q2.2)) else ((F_X9_isList a3 q2.2).bind (fun q3 => (if q3.1 = 0 then (some ((-1 : Int32), q3.2)) else (if hy_in a3 4 = true then (if (q3.2 80 (a3).toNatClampNeg) < 0 then (some ((-11 : Int32), q3.2)) else (if hy_in ((12 : Int32) + a1) 94 = true then (F_X9_seen_53 300 a1 a2 a3 (q3.2 68 (((12 : Int32) + a1)).toNatClampNeg) (0 : Int32) (0 : Int32) q3.2) else none)) else none)))))))))) := by
  rfl
def F_X9_judged  (D : hy_M) : Option (Int32 × hy_M) := g_X9_judged [.ref 67] D
set_option maxRecDepth 100000 in
theorem F_X9_judged_eq  (D : hy_M) : F_X9_judged D = ((F_X9_notRight D).bind (fun q1 => (if q1.1 < 0 then ((F_X9_tooLoaded q1.2).bind (fun q2 => (if q2.1 < 0 then (some ((-5 : Int32), q2.2)) else ((F_X9_tooLoaded q2.2).bind (fun q3 => (some (((200 : Int32) + q3.1), q3.2))))))) else (some (((100 : Int32) + q1.1), q1.2))))) := by
  rfl
def F_X9_judge_23 (n23 : Nat) (v1 : Int32) (v2 : Int32) (D : hy_M) : Option (Int32 × hy_M) := b_X9_judge_23  n23 [some (.ref 67), some (.int v1), some (.int v2), none] [] D
def F_X9_judge_104 (n104 : Nat) (v1 : Int32) (v2 : Int32) (D : hy_M) : Option (Int32 × hy_M) := b_X9_judge_104  n104 [some (.ref 67), some (.int v1), some (.int v2), none] [] D
def F_X9_judge (a1 : Int32) (D : hy_M) : Option (Int32 × hy_M) := g_X9_judge [.ref 67, .int a1] D
set_option maxRecDepth 100000 in
theorem F_X9_judge_23_eq (n23 : Nat) (v1 : Int32) (v2 : Int32) (D : hy_M) : F_X9_judge_23 (n23 + 1) v1 v2 D = (if v2 < (D 68 0) then (if hy_in v1 4 = true then (if v2 < (D 80 (v1).toNatClampNeg) then (if hy_in (((12 : Int32) * v1) + v2) 48 = true then ((F_X9_isIn ((D 79 ((((12 : Int32) * v1) + v2)).toNatClampNeg)).toInt64 (0 : Int64) (7 : Int64) D).bind (fun q1 => (if q1.1 = 0 then (some (v2, q1.2)) else ((F_X9_mayBe (D 79 ((((12 : Int32) * v1) + v2)).toNatClampNeg) (q1.2 68 1) q1.2).bind (fun q2 => (if q2.1 = 0 then (some (v2, q2.2)) else (F_X9_judge_23 n23 v1 (v2 + (1 : Int32)) q2.2))))))) else none) else (some (v2, D))) else none) else ((F_X9_copies D).bind (fun q1 => (F_X9_judge_104 300 v1 (0 : Int32) q1)))) := by
  rfl
set_option maxRecDepth 100000 in
theorem F_X9_judge_104_eq (n104 : Nat) (v1 : Int32) (v2 : Int32) (D : hy_M) : F_X9_judge_104 (n104 + 1) v1 v2 D = (if v2 < (D 68 0) then (if hy_in (((12 : Int32) * v1) + v2) 48 = true then (if hy_in ((12 : Int32) + v2) 94 = true then (F_X9_judge_104 n104 v1 (v2 + (1 : Int32)) (hy_w D 68 (((12 : Int32) + v2)).toNatClampNeg (D 79 ((((12 : Int32) * v1) + v2)).toNatClampNeg))) else none) else none) else ((F_X9_judged D).bind (fun q1 => ((F_X9_copies_67_70_68 q1.2).bind (fun q2 => (some (q1.1, q2))))))) := by
  rfl
set_option maxRecDepth 100000 in
theorem F_X9_judge_eq (a1 : Int32) (D : hy_M) : F_X9_judge a1 D = ((F_X9_isList a1 D).bind (fun q1 => (if q1.1 = 0 then (some ((-1 : Int32), q1.2)) else (if hy_in a1 4 = true then (if (q1.2 80 (a1).toNatClampNeg) < 0 then (some ((-11 : Int32), q1.2)) else (F_X9_judge_23 300 a1 (0 : Int32) q1.2)) else none)))) := by
  rfl
def F_X9_list_34 (n34 : Nat) (v1 : Int32) (v3 : Int32) (D : hy_M) : Option (Int32 × hy_M) := b_X9_list_34  n34 [some (.ref 67), some (.int v1), none, some (.int v3)] [] D
def F_X9_list (a1 : Int32) (a2 : Int32) (D : hy_M) : Option (Int32 × hy_M) := g_X9_list [.ref 67, .int a1, .int a2] D
set_option maxRecDepth 100000 in
theorem F_X9_list_34_eq (n34 : Nat) (v1 : Int32) (v3 : Int32) (D : hy_M) : F_X9_list_34 (n34 + 1) v1 v3 D = (if v3 < (12 : Int32) then (if hy_in (((12 : Int32) * v1) + v3) 48 = true then (F_X9_list_34 n34 v1 (v3 + (1 : Int32)) (hy_w D 79 ((((12 : Int32) * v1) + v3)).toNatClampNeg (0 : Int32))) else none) else (some ((1 : Int32), D))) := by
  rfl
set_option maxRecDepth 100000 in
theorem F_X9_list_eq (a1 : Int32) (a2 : Int32) (D : hy_M) : F_X9_list a1 a2 D = ((F_X9_isList a1 D).bind (fun q1 => (if q1.1 = 0 then (some ((-1 : Int32), q1.2)) else (if (12 : Int32) < a2 then (some ((-2 : Int32), q1.2)) else (if a2 < 0 then (some ((-14 : Int32), q1.2)) else (if hy_in a1 4 = true then (F_X9_list_34 300 a1 (0 : Int32) (hy_w q1.2 80 (a1).toNatClampNeg a2)) else none)))))) := by
  rfl
def F_X9_put (a1 : Int32) (a2 : Int32) (a3 : Int32) (D : hy_M) : Option (Int32 × hy_M) := g_X9_put [.ref 67, .int a1, .int a2, .int a3] D
set_option maxRecDepth 100000 in
theorem F_X9_put_eq (a1 : Int32) (a2 : Int32) (a3 : Int32) (D : hy_M) : F_X9_put a1 a2 a3 D = ((F_X9_isList a1 D).bind (fun q1 => (if q1.1 = 0 then (some ((-1 : Int32), q1.2)) else (if hy_in a1 4 = true then (if (q1.2 80 (a1).toNatClampNeg) < 0 then (some ((-11 : Int32), q1.2)) else (if hy_in a1 4 = true then ((F_X9_isIn (a2).toInt64 (0 : Int64) (((q1.2 80 (a1).toNatClampNeg) - (1 : Int32))).toInt64 q1.2).bind (fun q2 => (if q2.1 = 0 then (some ((-13 : Int32), q2.2)) else (if hy_in (((12 : Int32) * a1) + a2) 48 = true then (some ((1 : Int32), (hy_w q2.2 79 ((((12 : Int32) * a1) + a2)).toNatClampNeg a3))) else none)))) else none)) else none)))) := by
  rfl
def F_X9_get (a1 : Int32) (a2 : Int32) (D : hy_M) : Option (Int64 × hy_M) := g_X9_get [.ref 67, .int a1, .int a2] D
set_option maxRecDepth 100000 in
theorem F_X9_get_eq (a1 : Int32) (a2 : Int32) (D : hy_M) : F_X9_get a1 a2 D = ((F_X9_isList a1 D).bind (fun q1 => (if q1.1 = 0 then (some ((-9223372036854775808 : Int64), q1.2)) else (if hy_in a1 4 = true then ((F_X9_isIn (a2).toInt64 (0 : Int64) (((q1.2 80 (a1).toNatClampNeg) - (1 : Int32))).toInt64 q1.2).bind (fun q2 => (if q2.1 = 0 then (some ((-9223372036854775808 : Int64), q2.2)) else (if hy_in (((12 : Int32) * a1) + a2) 48 = true then (some (((q2.2 79 ((((12 : Int32) * a1) + a2)).toNatClampNeg)).toInt64, q2.2)) else none)))) else none)))) := by
  rfl
