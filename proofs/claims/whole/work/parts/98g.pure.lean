/-! ===== bounded codes: wagons choose ===== -/
theorem hq_load_c {y : Nat → Nat → Nat} {r c : Nat → Nat} {w t : Nat} (hw : w ≤ y 0 0) (h : hq_pre y w r c) : hq_Ld y r w t ≤ hp_load y c t := by
  have e : hq_Ld y r w t = hp_sum (fun j => hq_ld (c j) (y 1 j) t) w := hq_sum_congr w (fun j hj => by rw [h j hj])
  rw [e, hq_load_e]
  have l : ∀ m k, hp_sum (fun j => hq_ld (c j) (y 1 j) t) k ≤ hp_sum (fun j => hq_ld (c j) (y 1 j) t) (k + m) := by
    intro m
    induction m with
    | zero => intro k; exact Nat.le_refl _
    | succ m ih =>
      intro k
      have := ih k
      show _ ≤ hp_sum (fun j => hq_ld (c j) (y 1 j) t) (k + m) + _
      omega
  have := l (y 0 0 - w) w
  rw [show w + (y 0 0 - w) = y 0 0 by omega] at this
  exact this
theorem hq_chX (N : Nat) (hN : 100 ≤ N) {y : Nat → Nat → Nat} (hw : hp_WF y) {s : Nat} (hs : s < 4) {o : Nat → Nat} (ho : hq_OF y s 0 o) : ∀ m w d D r B, w + m = y 0 0 → m < d → hq_K y s D → (∀ j, j ≤ y 0 0 → D 53 j = nI (o j)) → (∀ j, j < w → D 51 j = nI (r j)) → hq_PI y s w r → (∀ t, t < 3 → D 52 t = nI (hq_Ld y r w t)) → (∀ t, t < 3 → hq_Ld y r w t ≤ y 9 t) → hq_BX y B D → (∀ b, B = some b → hq_okS y s b ∧ hq_bl y w r b) → hq_ow y r w + o w < hq_bO y B → ∃ B' D1, F_X0_choose N d (nI w) (nI (hq_ow y r w)) D = some D1 ∧ hq_G D D1 ∧ (∀ j, j < w → D1 51 j = nI (r j)) ∧ (∀ t, D1 52 t = D 52 t) ∧ hq_BX y B' D1 ∧ hq_Ev y s w r B B' ∧ ∀ c, hq_okS y s c → hq_pre y w r c → ∃ b, B' = some b ∧ ¬ hq_bt1 y c b := by
  have b0 := hw.1
  have b1 := hw.2.1
  have Rb := hq_R_b b1 hs
  intro m
  induction m with
  | zero =>
    intro w d D r B e hd hK h53 h51 hP h52 hfit hB hBb hon
    obtain ⟨d, rfl⟩ : ∃ d', d = d' + 1 := ⟨d - 1, by omega⟩
    have e : w = y 0 0 := by omega
    subst e
    have hr : ∀ j, j < y 0 0 → r j < hp_cnt (y 0 1) (2 ^ s) := fun j hj => by have := (hP.1 j hj).2; omega
    obtain ⟨k1, k2, k3, k4, k5, k6, k7, k8, k9, k10⟩ := hK
    obtain ⟨D1, e1, f1, f2⟩ := hq_c16 N d hw hs hr (y 0 0) 0 N (hy_w D 48 6 (nI (hq_ow y r (y 0 0)))) (by omega) (by omega) (by rw [hy_w_ne (by omega)]; exact k1) (fun j hj => by rw [hy_w_ne (by omega)]; exact h51 j hj) (fun i hi => by rw [hy_w_ne (by omega)]; exact k9 i hi) (fun j hj => absurd hj (by omega))
    have hok : hq_okS y s (fun j => hp_cor (y 0 1) (r j)) := by
      refine ⟨⟨fun w hw0 => ?_, hq_PI_n hw hs hP, fun t ht => ?_⟩, fun w hw0 => (hq_cor b1 hs (hr w hw0)).1⟩
      · have := hq_cor b1 hs (hr w hw0)
        exact ⟨this.2.1, this.2.2.1⟩
      · exact hfit t ht
    refine ⟨some (fun j => hp_cor (y 0 1) (r j)), D1, ?_, ⟨fun c a b c' d' => by rw [f2 c d', hy_w_ne a], fun j a => by rw [f2 48 (by omega), hp_wn (Or.inr a)]⟩, fun j hj => by rw [f2 51 (by omega), hy_w_ne (by omega)]; exact h51 j hj, fun t => by rw [f2 52 (by omega), hy_w_ne (by omega)], ⟨?_, fun b hb j hj => ?_⟩, Or.inr ⟨_, rfl, hok, fun j _ => rfl, fun b hb => ?_⟩, fun c hc hp => ⟨_, rfl, hq_bt1_ir hp⟩⟩
    · rw [F_X0_choose_eq, k1, if_neg (by rw [hp_ltN (by omega) (by omega)]; omega)]
      exact e1
    · rw [f2 48 (by omega), hp_ws]
      rfl
    · injection hb with hb
      rw [← hb]
      exact f1 j hj
    · subst hb
      have h0 := ho.1
      have : hq_ow y r (y 0 0) + o (y 0 0) < hq_on1 y b := hon
      left
      show hq_ow y r (y 0 0) < hq_on1 y b
      omega
  | succ m ih =>
    intro w d D r B e hd hK h53 h51 hP h52 hfit hB hBb hon
    obtain ⟨d, rfl⟩ : ∃ d', d = d' + 1 := ⟨d - 1, by omega⟩
    have hwn : w < y 0 0 := by omega
    obtain ⟨lo, elo, lo16, lo1, lo2, lo3⟩ := hq_lfX N hN hw hs hwn hP hK h51
    obtain ⟨hi, hb, ehi, hcmp, hb20, hb1, hb2⟩ := hq_hfX N hN hw hs hwn hP hK h51
    have len3 := (hw.2.2.2.1 w (by omega)).1
    have chw := hq_ch_w hw hwn
    have ldb : ∀ x j t, j < y 0 0 → hq_ld x (y 1 j) t ≤ 3 := fun x j t hj => by
      have := (hw.2.2.2.1 j (by omega)).1
      unfold hq_ld
      split <;> omega
    have Ldb : ∀ q k t, k ≤ y 0 0 → hq_Ld y q k t ≤ 24 := fun q k t hk => by
      have : hq_Ld y q k t ≤ k * 3 := hp_sum_le _ _ 3 (fun j hj => ldb _ _ _ (by omega))
      omega
    have cr : ∀ j, j < w → r j < hp_cnt (y 0 1) (2 ^ s) := fun j hj => by have := (hP.1 j hj).2; omega
    have owb : hq_ow y r w ≤ 24 := by
      have : hq_ow y r w ≤ w * 3 := hp_sum_le _ _ 3 (fun j hj => hq_pc3 (hq_cor b1 hs (cr j hj)).2.1)
      omega
    have ofb := ho.2.2 (w + 1) (by omega) (by omega)
    -- where a fitting one's code stands
    have rk : ∀ c, hq_okS y s c → hq_pre y w r c → lo ≤ hp_cnt (y 0 1) (c w) ∧ hp_cnt (y 0 1) (c w) < hb ∧ hp_cor (y 0 1) (hp_cnt (y 0 1) (c w)) = c w := fun c hc hp => by
      have cc := hc.1.1 w hwn
      have cj : ∀ j, j < w → hp_cnt (y 0 1) (c j) = r j := fun j hj => by
        rw [hp j hj]
        exact (hq_cor b1 hs (cr j hj)).2.2.2
      refine ⟨?_, ?_, hq_rank b1 cc.1 cc.2⟩
      · rcases lo3 with z | ⟨j, h1, h2, h3, h4⟩
        · rw [z]
          exact hq_V2 hw hc.1 hwn
        · have := hq_V1w hw hc.1 (show j < y 0 0 by omega) hwn h2 (by omega)
          rw [cj j h1] at this
          omega
      · refine hb2 _ (hq_V3 hw hc hwn) (fun j h1 h2 h3 => ?_)
        have := hq_V1w hw hc.1 hwn (show j < y 0 0 by omega) h2.symm (by omega)
        rw [cj j h1] at this
        exact this
    have loop : ∀ k x f D1 B1, (x + k = hb ∨ (k = 0 ∧ hb ≤ x)) → k < f → lo ≤ x → x ≤ 40 → hq_G D D1 → (∀ j, j < w → D1 51 j = nI (r j)) → (∀ t, D1 52 t = D 52 t) → hq_BX y B1 D1 → (∀ b, B1 = some b → hq_okS y s b ∧ (hq_bl y w r b ∨ (hq_pre y w r b ∧ ∃ p, p < x ∧ b w = hp_cor (y 0 1) p))) → hq_Ev y s w r B B1 → (∀ c, hq_okS y s c → hq_pre y w r c → hp_cnt (y 0 1) (c w) < x → ∃ b, B1 = some b ∧ ¬ hq_bt1 y c b) → ∃ B' D2, F_X0_choose_67 N d f (nI w) (nI (hq_ow y r w)) hi (nI x) D1 = some D2 ∧ hq_G D D2 ∧ (∀ j, j < w → D2 51 j = nI (r j)) ∧ (∀ t, D2 52 t = D 52 t) ∧ hq_BX y B' D2 ∧ hq_Ev y s w r B B' ∧ ∀ c, hq_okS y s c → hq_pre y w r c → hp_cnt (y 0 1) (c w) < hb → ∃ b, B' = some b ∧ ¬ hq_bt1 y c b := by
      intro k
      induction k with
      | zero =>
        intro x f D1 B1 e1 hf hx x40 hG h51' h52' hB1 hl hE hcov
        obtain ⟨f, rfl⟩ : ∃ f', f = f' + 1 := ⟨f - 1, by omega⟩
        refine ⟨B1, D1, ?_, hG, h51', h52', hB1, hE, fun c h1 h2 h3 => hcov c h1 h2 (by omega)⟩
        rw [F_X0_choose_67_eq, if_pos (by rw [hcmp x (by omega)]; omega)]
      | succ k ihk =>
        intro x f D1 B1 e1 hf hx x40 hG h51' h52' hB1 hl hE hcov
        obtain ⟨f, rfl⟩ : ∃ f', f = f' + 1 := ⟨f - 1, by omega⟩
        have xhb : x < hb := by omega
        obtain ⟨x1, x2⟩ := hb1 x xhb
        have xR : x < hp_cnt (y 0 1) (2 ^ s) := by omega
        have cx := hq_cor b1 hs xR
        have px := hq_pc3 cx.2.1
        have hK1 := hq_K_G hK hG
        have z49 := hK1.2.2.2.2.2.2.2.2.1 x xR
        have z2 := hK1.2.1 w (by omega)
        have z53 : D1 53 (w + 1) = nI (o (w + 1)) := by rw [hG.1 53 (by omega) (by omega) (by omega) (by omega)]; exact h53 _ (by omega)
        have z48 := hB1.1
        have kb := hp_bc N (c := hp_cor (y 0 1) x) (by omega) D1
        have hcx : (hi < nI x) = False := by
          rw [hcmp x (by omega)]
          exact eq_false (by omega)
        have bOb : hq_bO y B1 ≤ 1000 := by
          cases hB' : B1 with
          | none => exact Nat.le_refl _
          | some b =>
            have := hq_pcb (fun w hw0 => ((hl b hB').1.1.1 w hw0).1)
            show hq_on1 y b ≤ 1000
            omega
        obtain ⟨r', er'⟩ : ∃ r', r' = hq_up r w x := ⟨_, rfl⟩
        have rw1 : r' w = x := by rw [er', hq_up_s]
        have rn : ∀ j, j ≠ w → r' j = r j := fun j hj => by rw [er', hq_up_n hj]
        have prw : ∀ c, hq_pre y (w + 1) r' c ↔ (hq_pre y w r c ∧ c w = hp_cor (y 0 1) x) := fun c => by
          refine ⟨fun h => ⟨fun j hj => by rw [h j (by omega), rn j (by omega)], by rw [h w (by omega), rw1]⟩, fun h j hj => ?_⟩
          by_cases z : j = w
          · rw [z, rw1]
            exact h.2
          · rw [rn j z]
            exact h.1 j (by omega)
        have eLd : ∀ t, hq_Ld y r' (w + 1) t = hq_Ld y r w t + hq_ld (hp_cor (y 0 1) x) (y 1 w) t := fun t => by
          have a1 : hq_Ld y r' (w + 1) t = hq_Ld y r' w t + hq_ld (hp_cor (y 0 1) (r' w)) (y 1 w) t := rfl
          have a2 : hq_Ld y r' w t = hq_Ld y r w t := hq_sum_congr w (fun j hj => by rw [rn j (by omega)])
          rw [a1, a2, rw1]
        have eow : hq_ow y r' (w + 1) = hq_ow y r w + hp_pc (hp_cor (y 0 1) x) := by
          have a1 : hq_ow y r' (w + 1) = hq_ow y r' w + hp_pc (hp_cor (y 0 1) (r' w)) := rfl
          have a2 : hq_ow y r' w = hq_ow y r w := hq_sum_congr w (fun j hj => by rw [rn j (by omega)])
          rw [a1, a2, rw1]
        -- those whose code stands at x
        have next : ∀ B2, hq_Ev y s w r B1 B2 → (∀ c, hq_okS y s c → hq_pre y (w + 1) r' c → ∃ b, B2 = some b ∧ ¬ hq_bt1 y c b) → ∀ c, hq_okS y s c → hq_pre y w r c → hp_cnt (y 0 1) (c w) < x + 1 → ∃ b, B2 = some b ∧ ¬ hq_bt1 y c b := fun B2 h1 h2 c h3 h4 h5 => by
          by_cases z : hp_cnt (y 0 1) (c w) = x
          · have := (rk c h3 h4).2.2
            rw [z] at this
            exact h2 c h3 ((prw c).mpr ⟨h4, this.symm⟩)
          · obtain ⟨b, hb', h6⟩ := hcov c h3 h4 (by omega)
            rcases h1 with h1 | ⟨b', h7, _, _, h8⟩
            · exact ⟨b, by rw [h1]; exact hb', h6⟩
            · exact ⟨b', h7, fun q => h6 (hq_bt1_tr q (h8 b hb'))⟩
        have evt : ∀ B2, hq_Ev y s w r B1 B2 → hq_Ev y s w r B B2 := fun B2 h1 => by
          rcases h1 with h1 | ⟨b', h7, h8, h9, h10⟩
          · rw [h1]
            exact hE
          · refine Or.inr ⟨b', h7, h8, h9, fun b hb' => ?_⟩
            rcases hE with z | ⟨b2, z1, _, _, z4⟩
            · exact h10 b (by rw [z]; exact hb')
            · exact hq_bt1_tr (h10 b2 z1) (z4 b hb')
        by_cases tst : hq_ow y r w + hp_pc (hp_cor (y 0 1) x) + o (w + 1) < hq_bO y B1
        · -- it is tried
          have d2 : hy_w D1 51 w (nI x) 2 w = nI (y 1 w) := by rw [hp_wn (Or.inl (by omega))]; exact z2
          obtain ⟨D3, e3, f1, f2, f3⟩ := hq_alX N (by omega) cx.2.1 (nI (y 1 w)) (hy_w D1 51 w (nI x))
          have G3 : hq_G D D3 := ⟨fun c g1 g2 g3 g4 => by rw [f3 c g3, hy_w_ne g2]; exact hG.1 c g1 g2 g3 g4, fun j g1 => by rw [f3 48 (by omega), hy_w_ne (by omega)]; exact hG.2 j g1⟩
          have l3 : ∀ t, t < 3 → D3 52 t = nI (hq_Ld y r' (w + 1) t) := fun t ht => by
            rw [f1 t ht, hp_wn (Or.inl (by omega)), h52' t, h52 t ht, eLd t]
            unfold hq_ld
            by_cases q : hp_bit (hp_cor (y 0 1) x) t = 1
            · rw [if_pos q, if_pos q, nI_add]
            · rw [if_neg q, if_neg q]
              rfl
          have hK3 := hq_K_G hK G3
          have kf := hq_ftX N (by omega) hw (L := hq_Ld y r' (w + 1)) (fun t _ => by have := Ldb r' (w + 1) t (by omega); omega) (D := D3) hK3.2.2.2.2.2.2.1 l3
          have BX3 : hq_BX y B1 D3 := ⟨by rw [f3 48 (by omega), hy_w_ne (by omega)]; exact hB1.1, fun b hb' j hj => by rw [f3 54 (by omega), hy_w_ne (by omega)]; exact hB1.2 b hb' j hj⟩
          have n51 : ∀ j, j < w → D3 51 j = nI (r j) := fun j hj => by rw [f3 51 (by omega), hp_wn (Or.inr (by omega))]; exact h51' j hj
          have tail : ∀ D4 B2, hq_G D D4 → (∀ j, j < w → D4 51 j = nI (r j)) → (∀ t, D4 52 t = D3 52 t) → hq_BX y B2 D4 → (∀ b, B2 = some b → hq_okS y s b ∧ (hq_bl y w r b ∨ (hq_pre y w r b ∧ ∃ p, p < x + 1 ∧ b w = hp_cor (y 0 1) p))) → hq_Ev y s w r B1 B2 → (∀ c, hq_okS y s c → hq_pre y (w + 1) r' c → ∃ b, B2 = some b ∧ ¬ hq_bt1 y c b) → ∃ B' D2, F_X0_choose_151 N d f (nI w) (nI (hq_ow y r w)) hi (nI x) (nI (hp_cor (y 0 1) x)) D4 = some D2 ∧ hq_G D D2 ∧ (∀ j, j < w → D2 51 j = nI (r j)) ∧ (∀ t, D2 52 t = D 52 t) ∧ hq_BX y B' D2 ∧ hq_Ev y s w r B B' ∧ ∀ c, hq_okS y s c → hq_pre y w r c → hp_cnt (y 0 1) (c w) < hb → ∃ b, B' = some b ∧ ¬ hq_bt1 y c b := fun D4 B2 g1 g2 g3 g4 g5 g6 g7 => by
            have d4 := (hq_K_G hK g1).2.1 w (by omega)
            obtain ⟨D5, e5, q1, q2, q3⟩ := hq_alX N (by omega) cx.2.1 (-nI (y 1 w)) D4
            obtain ⟨B', D6, e6, s1⟩ := ihk (x + 1) f D5 B2 (by omega) (by omega) (by omega) (by omega) ⟨fun c a1 a2 a3 a4 => by rw [q3 c a3]; exact g1.1 c a1 a2 a3 a4, fun j a1 => by rw [q3 48 (by omega)]; exact g1.2 j a1⟩ (fun j hj => by rw [q3 51 (by omega)]; exact g2 j hj) (fun t => by
              by_cases ht : t < 3
              · rw [q1 t ht, g3 t, l3 t ht, eLd t, h52 t ht]
                unfold hq_ld
                by_cases q : hp_bit (hp_cor (y 0 1) x) t = 1
                · rw [if_pos q, if_pos q]
                  exact hq_ngp (by have := Ldb r w t (by omega); omega) (by omega)
                · rw [if_neg q, if_neg q]
                  rfl
              · rw [q2 t (by omega), g3 t, f2 t (by omega), hp_wn (Or.inl (by omega)), h52' t]) ⟨by rw [q3 48 (by omega)]; exact g4.1, fun b hb' j hj => by rw [q3 54 (by omega)]; exact g4.2 b hb' j hj⟩ g5 (evt B2 g6) (next B2 g6 g7)
            refine ⟨B', D6, ?_, s1⟩
            rw [F_X0_choose_151_eq, if_pos (hp_in (by omega) (by omega)), hp_cl (by omega), d4, e5, Option.bind_some, hp_inc]
            exact e6
          rcases hq_rm1 (y := y) (L := hq_Ld y r' (w + 1)) with ⟨rm, fit⟩ | ⟨rm, fit⟩
          · rw [rm] at kf
            have hP' : hq_PI y s (w + 1) r' := by
              refine ⟨fun j hj => ?_, fun i j hi' hj ht hp => ?_⟩
              · by_cases z : j = w
                · rw [z, rw1]
                  exact ⟨by omega, x1⟩
                · rw [rn j z]
                  exact hP.1 j (by omega)
              · by_cases zi : i = w
                · by_cases zj : j = w
                  · rw [zi, zj] at hp
                    omega
                  · rw [zi, rw1, rn j zj]
                    rw [zi] at ht hp
                    exact x2 j (by omega) ht.symm hp
                · by_cases zj : j = w
                  · rw [zj, rw1, rn i zi]
                    rw [zj] at ht hp
                    have := lo2 i (by omega) ht hp
                    omega
                  · rw [rn i zi, rn j zj]
                    exact hP.2 i j (by omega) (by omega) ht hp
            have bl' : ∀ b, hq_bl y w r b ∨ (hq_pre y w r b ∧ ∃ p, p < x ∧ b w = hp_cor (y 0 1) p) → hq_bl y (w + 1) r' b := fun b hb' => by
              rcases hb' with ⟨i, a1, a2, a3⟩ | ⟨a1, p, a2, a3⟩
              · exact ⟨i, by omega, fun j hj => by rw [rn j (by omega)]; exact a2 j hj, by rw [rn i (by omega)]; exact a3⟩
              · refine ⟨w, by omega, fun j hj => by rw [rn j (by omega)]; exact a1 j hj, ?_⟩
                rw [rw1, a3]
                exact hq_cor_lt b1 hs a2 xR
            obtain ⟨B2, D4, e4, s1, s2, s3, s4, s5, s6⟩ := ih (w + 1) d D3 r' B1 (by omega) (by omega) hK3 (fun j hj => by rw [G3.1 53 (by omega) (by omega) (by omega) (by omega)]; exact h53 j hj) (fun j hj => by
              by_cases z : j = w
              · rw [z, f3 51 (by omega), hp_ws, rw1]
              · rw [rn j z]
                exact n51 j (by omega)) hP' l3 fit BX3 (fun b hb' => ⟨(hl b hb').1, bl' b (hl b hb').2⟩) (by rw [eow]; exact tst)
            have ev2 : hq_Ev y s w r B1 B2 := by
              rcases s5 with z | ⟨b', z1, z2, z3, z4⟩
              · exact Or.inl z
              · exact Or.inr ⟨b', z1, z2, ((prw b').mp z3).1, z4⟩
            obtain ⟨B', D6, e6, u⟩ := tail D4 B2 (hq_G_tr G3 s1) (fun j hj => by rw [s2 j (by omega), rn j (by omega)]) s3 s4 (fun b hb' => by
              rcases s5 with z | ⟨b', z1, z2, z3, z4⟩
              · rw [z] at hb'
                obtain ⟨a1, a2⟩ := hl b hb'
                refine ⟨a1, ?_⟩
                rcases a2 with a2 | ⟨a2, p, a3, a4⟩
                · exact Or.inl a2
                · exact Or.inr ⟨a2, p, by omega, a4⟩
              · rw [z1] at hb'
                injection hb' with hb'
                subst hb'
                exact ⟨z2, Or.inr ⟨((prw b').mp z3).1, x, by omega, ((prw b').mp z3).2⟩⟩) ev2 s6
            refine ⟨B', D6, ?_, u⟩
            rw [eow] at e4
            rw [← e6, F_X0_choose_67_eq]
            clear hP' bl' s1 s2 s3 s4 s5 s6 ev2 tail fit G3 l3 hK3 BX3 n51 f1 f2 f3
            clear ih ihk rk hcov next evt prw hE hl hBb hB hB1 hP h51 h52 h53 h51' h52' hfit hcmp hb1 hb2 lo1 lo2 lo3 hK hK1 hG ho u e6 eLd rn Ldb ldb cr ofb
            simp (disch := omega) only [hp_kN, nI_add, pk_mul, hp_isInN, hp_m1L, hp_l0, hp_l1, hp_l2, hp_l3, hp_l4, hp_l5, hp_l7, hp_l8, hp_l10, hp_l17, hp_l20, hp_l24, hp_l48, hp_l50, hp_l55, hp_l127, hp_lm1, hp_eqN, hp_ltN, hp_inN, hp_cl, if_pos, if_neg, if_true, if_false, Option.bind_some, hcx, z49, kb, z53, z48, d2, e3, kf, e4]
          · rw [rm] at kf
            obtain ⟨B', D6, e6, u⟩ := tail D3 B1 G3 n51 (fun _ => rfl) BX3 (fun b hb' => by
              obtain ⟨a1, a2⟩ := hl b hb'
              refine ⟨a1, ?_⟩
              rcases a2 with a2 | ⟨a2, p, a3, a4⟩
              · exact Or.inl a2
              · exact Or.inr ⟨a2, p, by omega, a4⟩) (Or.inl rfl) (fun c h1 h2 => by
              exfalso
              apply fit
              intro t ht
              have a1 := hq_load_c (t := t) (show w + 1 ≤ y 0 0 by omega) h2
              have a2 := h1.1.2.2 t ht
              omega)
            refine ⟨B', D6, ?_, u⟩
            rw [← e6, F_X0_choose_67_eq]
            clear tail fit G3 l3 hK3 BX3 n51 f1 f2 f3
            clear ih ihk rk hcov next evt prw hE hl hBb hB hB1 hP h51 h52 h53 h51' h52' hfit hcmp hb1 hb2 lo1 lo2 lo3 hK hK1 hG ho u e6 eLd rn Ldb ldb cr ofb
            simp (disch := omega) only [hp_kN, nI_add, pk_mul, hp_isInN, hp_m1L, hp_l0, hp_l1, hp_l2, hp_l3, hp_l4, hp_l5, hp_l7, hp_l8, hp_l10, hp_l17, hp_l20, hp_l24, hp_l48, hp_l50, hp_l55, hp_l127, hp_lm1, hp_eqN, hp_ltN, hp_inN, hp_cl, if_pos, if_neg, if_true, if_false, Option.bind_some, hcx, z49, kb, z53, z48, d2, e3, kf]
        · -- it is not: too many 1s
          obtain ⟨B', D6, e6, u⟩ := ihk (x + 1) f D1 B1 (by omega) (by omega) (by omega) (by omega) hG h51' h52' hB1 (fun b hb' => by
            obtain ⟨a1, a2⟩ := hl b hb'
            refine ⟨a1, ?_⟩
            rcases a2 with a2 | ⟨a2, p, a3, a4⟩
            · exact Or.inl a2
            · exact Or.inr ⟨a2, p, by omega, a4⟩) hE (next B1 (Or.inl rfl) (fun c h1 h2 => by
            have a1 := hq_onlb hw ho h1 (y 0 0 - (w + 1)) (w + 1) (by omega)
            have a2 : hp_sum (fun j => hp_pc (c j)) (w + 1) = hq_ow y r' (w + 1) := hq_sum_congr _ (fun j hj => by rw [h2 j hj])
            rw [a2, eow] at a1
            cases hB' : B1 with
            | none =>
              exfalso
              rw [hB'] at tst
              apply tst
              show _ < 1000
              omega
            | some b =>
              refine ⟨b, rfl, ?_⟩
              rw [hB'] at tst
              have t2 : ¬ hq_ow y r w + hp_pc (hp_cor (y 0 1) x) + o (w + 1) < hq_on1 y b := tst
              rintro (z | ⟨_, z⟩)
              · omega
              · have a3 := (prw c).mp h2
                have : hq_lex (y 0 0) b c := by
                  rcases (hl b hB').2 with ⟨i, g1, g2, g3⟩ | ⟨g1, p, g2, g3⟩
                  · exact ⟨i, by omega, fun j hj => by rw [g2 j hj, a3.1 j (by omega)], by rw [a3.1 i g1]; exact g3⟩
                  · exact ⟨w, hwn, fun j hj => by rw [g1 j hj, a3.1 j hj], by rw [g3, a3.2]; exact hq_cor_lt b1 hs g2 xR⟩
                exact hq_lex_ir (fun _ _ => rfl) (hq_lex_tr z this)))
          refine ⟨B', D6, ?_, u⟩
          rw [← e6, F_X0_choose_67_eq]
          clear ih ihk rk hcov next evt prw hE hl hBb hB hB1 hP h51 h52 h53 h51' h52' hfit hcmp hb1 hb2 lo1 lo2 lo3 hK hK1 hG ho u e6 eLd rn Ldb ldb cr
          simp (disch := omega) only [hp_kN, nI_add, pk_mul, hp_isInN, hp_m1L, hp_l0, hp_l1, hp_l2, hp_l3, hp_l4, hp_l5, hp_l7, hp_l8, hp_l10, hp_l17, hp_l20, hp_l24, hp_l48, hp_l50, hp_l55, hp_l127, hp_lm1, hp_eqN, hp_ltN, hp_inN, hp_cl, if_pos, if_neg, if_true, if_false, Option.bind_some, hcx, z49, kb, z53, z48]
    obtain ⟨B', D2, e2, u1, u2, u3, u4, u5, u6⟩ := loop (hb - lo) lo N D B (by omega) (by omega) (Nat.le_refl lo) (by omega) (hq_G_rf D) h51 (fun _ => rfl) hB (fun b hb' => ⟨(hBb b hb').1, Or.inl (hBb b hb').2⟩) (Or.inl rfl) (fun c h1 h2 h3 => by
      have := (rk c h1 h2).1
      omega)
    refine ⟨B', D2, ?_, u1, u2, u3, u4, u5, fun c h1 h2 => u6 c h1 h2 (rk c h1 h2).2.1⟩
    rw [F_X0_choose_eq, hK.1, if_pos (by rw [hp_ltN (by omega) (by omega)]; exact hwn), ehi, Option.bind_some, elo, Option.bind_some]
    exact e2
