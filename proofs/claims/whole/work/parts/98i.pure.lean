/-! ===== the law: call by call ===== -/
theorem hz_lg (r : Int64) : lg_cmp r r = 0 := by
  unfold lg_cmp
  simp
theorem hq_L192 (N SL : Nat) (sx : Nat → Int32) (n i : Nat) (hN : 1000000000 ≤ N) (hSL : SL ≤ 3072) (hi : i + 6 ≤ SL) {D : hy_M} (hI : hp_Inv D) (ih : ∀ D2, hp_Inv D2 → F_L_law_18 N SL sx n (nI (i + 6)) D2 = some ()) : F_L_law_192 N SL sx n (nI i) D = some () := by
  obtain ⟨r, D1, D2, e1, e2, h2⟩ := hp_go (st_feed N (by omega) (sx (nI i + (1 : Int32)).toNatClampNeg) (sx (nI i + (2 : Int32)).toNatClampNeg) (sx (nI i + (3 : Int32)).toNatClampNeg) (sx (nI i + (4 : Int32)).toNatClampNeg) (sx (nI i + (5 : Int32)).toNatClampNeg)) hI
  have j1 : hy_in (nI i + (1 : Int32)) SL = true := by
    rw [show nI i + (1 : Int32) = nI (i + 1) from nI_add i 1, hp_inN (by omega)]
    omega
  have j2 : hy_in (nI i + (2 : Int32)) SL = true := by
    rw [show nI i + (2 : Int32) = nI (i + 2) from nI_add i 2, hp_inN (by omega)]
    omega
  have j3 : hy_in (nI i + (3 : Int32)) SL = true := by
    rw [show nI i + (3 : Int32) = nI (i + 3) from nI_add i 3, hp_inN (by omega)]
    omega
  have j4 : hy_in (nI i + (4 : Int32)) SL = true := by
    rw [show nI i + (4 : Int32) = nI (i + 4) from nI_add i 4, hp_inN (by omega)]
    omega
  have j5 : hy_in (nI i + (5 : Int32)) SL = true := by
    rw [show nI i + (5 : Int32) = nI (i + 5) from nI_add i 5, hp_inN (by omega)]
    omega
  rw [F_L_law_192_eq, if_pos j1, if_pos j2, if_pos j3, if_pos j4, if_pos j5, e1, Option.bind_some, if_pos j1, if_pos j2, if_pos j3, if_pos j4, if_pos j5, e2, Option.bind_some, if_pos (show (r, D1).1 = (r, D2).1 from rfl), show nI i + (6 : Int32) = nI (i + 6) from nI_add i 6]
  exact ih D2 h2
theorem hq_L255 (N SL : Nat) (sx : Nat → Int32) (n i : Nat) (hN : 1000000000 ≤ N) (hSL : SL ≤ 3072) (hi : i + 6 ≤ SL) {D : hy_M} (hI : hp_Inv D) (ih : ∀ D2, hp_Inv D2 → F_L_law_18 N SL sx n (nI (i + 6)) D2 = some ()) : F_L_law_255 N SL sx n (nI i) D = some () := by
  obtain ⟨r, D1, D2, e1, e2, h2⟩ := hp_go (st_yard N (by omega)) hI
  rw [F_L_law_255_eq, e1, Option.bind_some, e2, Option.bind_some, if_pos (show (r, D1).1 = (r, D2).1 from rfl), show nI i + (6 : Int32) = nI (i + 6) from nI_add i 6]
  exact ih D2 h2
theorem hq_L268 (N SL : Nat) (sx : Nat → Int32) (n i : Nat) (hN : 1000000000 ≤ N) (hSL : SL ≤ 3072) (hi : i + 6 ≤ SL) {D : hy_M} (hI : hp_Inv D) (ih : ∀ D2, hp_Inv D2 → F_L_law_18 N SL sx n (nI (i + 6)) D2 = some ()) : F_L_law_268 N SL sx n (nI i) D = some () := by
  obtain ⟨r, D1, D2, e1, e2, h2⟩ := hp_go (st_codes N (by omega)) hI
  rw [F_L_law_268_eq, e1, Option.bind_some, e2, Option.bind_some, if_pos (show (r, D1).1 = (r, D2).1 from rfl), show nI i + (6 : Int32) = nI (i + 6) from nI_add i 6]
  exact ih D2 h2
theorem hq_L281 (N SL : Nat) (sx : Nat → Int32) (n i : Nat) (hN : 1000000000 ≤ N) (hSL : SL ≤ 3072) (hi : i + 6 ≤ SL) {D : hy_M} (hI : hp_Inv D) (ih : ∀ D2, hp_Inv D2 → F_L_law_18 N SL sx n (nI (i + 6)) D2 = some ()) : F_L_law_281 N SL sx n (nI i) D = some () := by
  obtain ⟨r, D1, D2, e1, e2, h2⟩ := hp_go (st_set N (sx (nI i + (1 : Int32)).toNatClampNeg) (sx (nI i + (2 : Int32)).toNatClampNeg) (sx (nI i + (3 : Int32)).toNatClampNeg)) hI
  have j1 : hy_in (nI i + (1 : Int32)) SL = true := by
    rw [show nI i + (1 : Int32) = nI (i + 1) from nI_add i 1, hp_inN (by omega)]
    omega
  have j2 : hy_in (nI i + (2 : Int32)) SL = true := by
    rw [show nI i + (2 : Int32) = nI (i + 2) from nI_add i 2, hp_inN (by omega)]
    omega
  have j3 : hy_in (nI i + (3 : Int32)) SL = true := by
    rw [show nI i + (3 : Int32) = nI (i + 3) from nI_add i 3, hp_inN (by omega)]
    omega
  rw [F_L_law_281_eq, if_pos j1, if_pos j2, if_pos j3, e1, Option.bind_some, if_pos j1, if_pos j2, if_pos j3, e2, Option.bind_some, if_pos (show (r, D1).1 = (r, D2).1 from rfl), show nI i + (6 : Int32) = nI (i + 6) from nI_add i 6]
  exact ih D2 h2
theorem hq_L324 (N SL : Nat) (sx : Nat → Int32) (n i : Nat) (hN : 1000000000 ≤ N) (hSL : SL ≤ 3072) (hi : i + 6 ≤ SL) {D : hy_M} (hI : hp_Inv D) (ih : ∀ D2, hp_Inv D2 → F_L_law_18 N SL sx n (nI (i + 6)) D2 = some ()) : F_L_law_324 N SL sx n (nI i) D = some () := by
  obtain ⟨r, D1, D2, e1, e2, h2⟩ := hp_go (st_room N (sx (nI i + (1 : Int32)).toNatClampNeg) (sx (nI i + (2 : Int32)).toNatClampNeg)) hI
  have j1 : hy_in (nI i + (1 : Int32)) SL = true := by
    rw [show nI i + (1 : Int32) = nI (i + 1) from nI_add i 1, hp_inN (by omega)]
    omega
  have j2 : hy_in (nI i + (2 : Int32)) SL = true := by
    rw [show nI i + (2 : Int32) = nI (i + 2) from nI_add i 2, hp_inN (by omega)]
    omega
  rw [F_L_law_324_eq, if_pos j1, if_pos j2, e1, Option.bind_some, if_pos j1, if_pos j2, e2, Option.bind_some, if_pos (show (r, D1).1 = (r, D2).1 from rfl), show nI i + (6 : Int32) = nI (i + 6) from nI_add i 6]
  exact ih D2 h2
theorem hq_L357 (N SL : Nat) (sx : Nat → Int32) (n i : Nat) (hN : 1000000000 ≤ N) (hSL : SL ≤ 3072) (hi : i + 6 ≤ SL) {D : hy_M} (hI : hp_Inv D) (ih : ∀ D2, hp_Inv D2 → F_L_law_18 N SL sx n (nI (i + 6)) D2 = some ()) : F_L_law_357 N SL sx n (nI i) D = some () := by
  obtain ⟨r, D1, D2, e1, e2, h2⟩ := hp_go (st_brand N (sx (nI i + (1 : Int32)).toNatClampNeg)) hI
  have j1 : hy_in (nI i + (1 : Int32)) SL = true := by
    rw [show nI i + (1 : Int32) = nI (i + 1) from nI_add i 1, hp_inN (by omega)]
    omega
  rw [F_L_law_357_eq, if_pos j1, e1, Option.bind_some, if_pos j1, e2, Option.bind_some, if_pos (show (r, D1).1 = (r, D2).1 from rfl), show nI i + (6 : Int32) = nI (i + 6) from nI_add i 6]
  exact ih D2 h2
theorem hq_L380 (N SL : Nat) (sx : Nat → Int32) (n i : Nat) (hN : 1000000000 ≤ N) (hSL : SL ≤ 3072) (hi : i + 6 ≤ SL) {D : hy_M} (hI : hp_Inv D) (ih : ∀ D2, hp_Inv D2 → F_L_law_18 N SL sx n (nI (i + 6)) D2 = some ()) : F_L_law_380 N SL sx n (nI i) D = some () := by
  obtain ⟨r, D1, D2, e1, e2, h2⟩ := hp_go (st_wagon N (by omega) (sx (nI i + (1 : Int32)).toNatClampNeg) (sx (nI i + (2 : Int32)).toNatClampNeg)) hI
  have j1 : hy_in (nI i + (1 : Int32)) SL = true := by
    rw [show nI i + (1 : Int32) = nI (i + 1) from nI_add i 1, hp_inN (by omega)]
    omega
  have j2 : hy_in (nI i + (2 : Int32)) SL = true := by
    rw [show nI i + (2 : Int32) = nI (i + 2) from nI_add i 2, hp_inN (by omega)]
    omega
  rw [F_L_law_380_eq, if_pos j1, if_pos j2, e1, Option.bind_some, if_pos j1, if_pos j2, e2, Option.bind_some, if_pos (show (r, D1).1 = (r, D2).1 from rfl), show nI i + (6 : Int32) = nI (i + 6) from nI_add i 6]
  exact ih D2 h2
theorem hq_L413 (N SL : Nat) (sx : Nat → Int32) (n i : Nat) (hN : 1000000000 ≤ N) (hSL : SL ≤ 3072) (hi : i + 6 ≤ SL) {D : hy_M} (hI : hp_Inv D) (ih : ∀ D2, hp_Inv D2 → F_L_law_18 N SL sx n (nI (i + 6)) D2 = some ()) : F_L_law_413 N SL sx n (nI i) D = some () := by
  obtain ⟨r, D1, D2, e1, e2, h2⟩ := hp_go (st_wanted N (sx (nI i + (1 : Int32)).toNatClampNeg) (sx (nI i + (2 : Int32)).toNatClampNeg)) hI
  have j1 : hy_in (nI i + (1 : Int32)) SL = true := by
    rw [show nI i + (1 : Int32) = nI (i + 1) from nI_add i 1, hp_inN (by omega)]
    omega
  have j2 : hy_in (nI i + (2 : Int32)) SL = true := by
    rw [show nI i + (2 : Int32) = nI (i + 2) from nI_add i 2, hp_inN (by omega)]
    omega
  rw [F_L_law_413_eq, if_pos j1, if_pos j2, e1, Option.bind_some, if_pos j1, if_pos j2, e2, Option.bind_some, if_pos (show (r, D1).1 = (r, D2).1 from rfl), show nI i + (6 : Int32) = nI (i + 6) from nI_add i 6]
  exact ih D2 h2
theorem hq_L446 (N SL : Nat) (sx : Nat → Int32) (n i : Nat) (hN : 1000000000 ≤ N) (hSL : SL ≤ 3072) (hi : i + 6 ≤ SL) {D : hy_M} (hI : hp_Inv D) (ih : ∀ D2, hp_Inv D2 → F_L_law_18 N SL sx n (nI (i + 6)) D2 = some ()) : F_L_law_446 N SL sx n (nI i) D = some () := by
  obtain ⟨r, D1, D2, e1, e2, h2⟩ := hp_go (st_track N (by omega) (sx (nI i + (1 : Int32)).toNatClampNeg) (sx (nI i + (2 : Int32)).toNatClampNeg)) hI
  have j1 : hy_in (nI i + (1 : Int32)) SL = true := by
    rw [show nI i + (1 : Int32) = nI (i + 1) from nI_add i 1, hp_inN (by omega)]
    omega
  have j2 : hy_in (nI i + (2 : Int32)) SL = true := by
    rw [show nI i + (2 : Int32) = nI (i + 2) from nI_add i 2, hp_inN (by omega)]
    omega
  rw [F_L_law_446_eq, if_pos j1, if_pos j2, e1, Option.bind_some, if_pos j1, if_pos j2, e2, Option.bind_some, if_pos (show (r, D1).1 = (r, D2).1 from rfl), show nI i + (6 : Int32) = nI (i + 6) from nI_add i 6]
  exact ih D2 h2
theorem hq_L479 (N SL : Nat) (sx : Nat → Int32) (n i : Nat) (hN : 1000000000 ≤ N) (hSL : SL ≤ 3072) (hi : i + 6 ≤ SL) {D : hy_M} (hI : hp_Inv D) (ih : ∀ D2, hp_Inv D2 → F_L_law_18 N SL sx n (nI (i + 6)) D2 = some ()) : F_L_law_479 N SL sx n (nI i) D = some () := by
  obtain ⟨r, D1, D2, e1, e2, h2⟩ := hp_go (st_chains N (by omega) (sx (nI i + (1 : Int32)).toNatClampNeg)) hI
  have j1 : hy_in (nI i + (1 : Int32)) SL = true := by
    rw [show nI i + (1 : Int32) = nI (i + 1) from nI_add i 1, hp_inN (by omega)]
    omega
  rw [F_L_law_479_eq, if_pos j1, e1, Option.bind_some, if_pos j1, e2, Option.bind_some, if_pos (show (r, D1).1 = (r, D2).1 from rfl), show nI i + (6 : Int32) = nI (i + 6) from nI_add i 6]
  exact ih D2 h2
theorem hq_L502 (N SL : Nat) (sx : Nat → Int32) (n i : Nat) (hN : 1000000000 ≤ N) (hSL : SL ≤ 3072) (hi : i + 6 ≤ SL) {D : hy_M} (hI : hp_Inv D) (ih : ∀ D2, hp_Inv D2 → F_L_law_18 N SL sx n (nI (i + 6)) D2 = some ()) : F_L_law_502 N SL sx n (nI i) D = some () := by
  obtain ⟨r, D1, D2, e1, e2, h2⟩ := hp_go (st_fewest N (by omega) (sx (nI i + (1 : Int32)).toNatClampNeg)) hI
  have j1 : hy_in (nI i + (1 : Int32)) SL = true := by
    rw [show nI i + (1 : Int32) = nI (i + 1) from nI_add i 1, hp_inN (by omega)]
    omega
  rw [F_L_law_502_eq, if_pos j1, e1, Option.bind_some, if_pos j1, e2, Option.bind_some, if_pos (show (r, D1).1 = (r, D2).1 from rfl), show nI i + (6 : Int32) = nI (i + 6) from nI_add i 6]
  exact ih D2 h2
theorem hq_L525 (N SL : Nat) (sx : Nat → Int32) (n i : Nat) (hN : 1000000000 ≤ N) (hSL : SL ≤ 3072) (hi : i + 6 ≤ SL) {D : hy_M} (hI : hp_Inv D) (ih : ∀ D2, hp_Inv D2 → F_L_law_18 N SL sx n (nI (i + 6)) D2 = some ()) : F_L_law_525 N SL sx n (nI i) D = some () := by
  obtain ⟨r, D1, D2, e1, e2, h2⟩ := hp_go (st_presort N (by omega)) hI
  rw [F_L_law_525_eq, e1, Option.bind_some, e2, Option.bind_some, if_pos (show (r, D1).1 = (r, D2).1 from rfl), show nI i + (6 : Int32) = nI (i + 6) from nI_add i 6]
  exact ih D2 h2
theorem hq_L538 (N SL : Nat) (sx : Nat → Int32) (n i : Nat) (hN : 1000000000 ≤ N) (hSL : SL ≤ 3072) (hi : i + 6 ≤ SL) {D : hy_M} (hI : hp_Inv D) (ih : ∀ D2, hp_Inv D2 → F_L_law_18 N SL sx n (nI (i + 6)) D2 = some ()) : F_L_law_538 N SL sx n (nI i) D = some () := by
  obtain ⟨r, D1, D2, e1, e2, h2⟩ := hp_go (st_right N (by omega) (sx (nI i + (1 : Int32)).toNatClampNeg)) hI
  have j1 : hy_in (nI i + (1 : Int32)) SL = true := by
    rw [show nI i + (1 : Int32) = nI (i + 1) from nI_add i 1, hp_inN (by omega)]
    omega
  rw [F_L_law_538_eq, if_pos j1, e1, Option.bind_some, if_pos j1, e2, Option.bind_some, if_pos (show (r, D1).1 = (r, D2).1 from rfl), show nI i + (6 : Int32) = nI (i + 6) from nI_add i 6]
  exact ih D2 h2
theorem hq_L561 (N SL : Nat) (sx : Nat → Int32) (n i : Nat) (hN : 1000000000 ≤ N) (hSL : SL ≤ 3072) (hi : i + 6 ≤ SL) {D : hy_M} (hI : hp_Inv D) (ih : ∀ D2, hp_Inv D2 → F_L_law_18 N SL sx n (nI (i + 6)) D2 = some ()) : F_L_law_561 N SL sx n (nI i) D = some () := by
  obtain ⟨r, D1, D2, e1, e2, h2⟩ := hp_go (st_bounded N (by omega) (sx (nI i + (1 : Int32)).toNatClampNeg)) hI
  have j1 : hy_in (nI i + (1 : Int32)) SL = true := by
    rw [show nI i + (1 : Int32) = nI (i + 1) from nI_add i 1, hp_inN (by omega)]
    omega
  rw [F_L_law_561_eq, if_pos j1, e1, Option.bind_some, if_pos j1, e2, Option.bind_some, if_pos (show (r, D1).1 = (r, D2).1 from rfl), show nI i + (6 : Int32) = nI (i + 6) from nI_add i 6]
  exact ih D2 h2
theorem hq_L584 (N SL : Nat) (sx : Nat → Int32) (n i : Nat) (hN : 1000000000 ≤ N) (hSL : SL ≤ 3072) (hi : i + 6 ≤ SL) {D : hy_M} (hI : hp_Inv D) (ih : ∀ D2, hp_Inv D2 → F_L_law_18 N SL sx n (nI (i + 6)) D2 = some ()) : F_L_law_584 N SL sx n (nI i) D = some () := by
  obtain ⟨r, D1, D2, e1, e2, h2⟩ := hp_go (st_bind N (by omega)) hI
  rw [F_L_law_584_eq, e1, Option.bind_some, e2, Option.bind_some, if_pos (show (r, D1).1 = (r, D2).1 from rfl), show nI i + (6 : Int32) = nI (i + 6) from nI_add i 6]
  exact ih D2 h2
theorem hq_L597 (N SL : Nat) (sx : Nat → Int32) (n i : Nat) (hN : 1000000000 ≤ N) (hSL : SL ≤ 3072) (hi : i + 6 ≤ SL) {D : hy_M} (hI : hp_Inv D) (ih : ∀ D2, hp_Inv D2 → F_L_law_18 N SL sx n (nI (i + 6)) D2 = some ()) : F_L_law_597 N SL sx n (nI i) D = some () := by
  obtain ⟨r, D1, D2, e1, e2, h2⟩ := hp_go (st_mean N (by omega) (sx (nI i + (1 : Int32)).toNatClampNeg)) hI
  have j1 : hy_in (nI i + (1 : Int32)) SL = true := by
    rw [show nI i + (1 : Int32) = nI (i + 1) from nI_add i 1, hp_inN (by omega)]
    omega
  rw [F_L_law_597_eq, if_pos j1, e1, Option.bind_some, if_pos j1, e2, Option.bind_some, if_pos (show lg_cmp (r, D1).1 (r, D2).1 = 0 from hz_lg r), show nI i + (6 : Int32) = nI (i + 6) from nI_add i 6]
  exact ih D2 h2
theorem hq_L621 (N SL : Nat) (sx : Nat → Int32) (n i : Nat) (hN : 1000000000 ≤ N) (hSL : SL ≤ 3072) (hi : i + 6 ≤ SL) {D : hy_M} (hI : hp_Inv D) (ih : ∀ D2, hp_Inv D2 → F_L_law_18 N SL sx n (nI (i + 6)) D2 = some ()) : F_L_law_621 N SL sx n (nI i) D = some () := by
  obtain ⟨r, D1, D2, e1, e2, h2⟩ := hp_go (st_hump N (by omega)) hI
  rw [F_L_law_621_eq, e1, Option.bind_some, e2, Option.bind_some, if_pos (show (r, D1).1 = (r, D2).1 from rfl), show nI i + (6 : Int32) = nI (i + 6) from nI_add i 6]
  exact ih D2 h2
theorem hq_L634 (N SL : Nat) (sx : Nat → Int32) (n i : Nat) (hN : 1000000000 ≤ N) (hSL : SL ≤ 3072) (hi : i + 6 ≤ SL) {D : hy_M} (hI : hp_Inv D) (ih : ∀ D2, hp_Inv D2 → F_L_law_18 N SL sx n (nI (i + 6)) D2 = some ()) : F_L_law_634 N SL sx n (nI i) D = some () := by
  obtain ⟨r, D1, D2, e1, e2, h2⟩ := hp_go (st_pull N (by omega) (sx (nI i + (1 : Int32)).toNatClampNeg)) hI
  have j1 : hy_in (nI i + (1 : Int32)) SL = true := by
    rw [show nI i + (1 : Int32) = nI (i + 1) from nI_add i 1, hp_inN (by omega)]
    omega
  rw [F_L_law_634_eq, if_pos j1, e1, Option.bind_some, if_pos j1, e2, Option.bind_some, if_pos (show (r, D1).1 = (r, D2).1 from rfl), show nI i + (6 : Int32) = nI (i + 6) from nI_add i 6]
  exact ih D2 h2
theorem hq_L657 (N SL : Nat) (sx : Nat → Int32) (n i : Nat) (hN : 1000000000 ≤ N) (hSL : SL ≤ 3072) (hi : i + 6 ≤ SL) {D : hy_M} (hI : hp_Inv D) (ih : ∀ D2, hp_Inv D2 → F_L_law_18 N SL sx n (nI (i + 6)) D2 = some ()) : F_L_law_657 N SL sx n (nI i) D = some () := by
  obtain ⟨r, D1, D2, e1, e2, h2⟩ := hp_go (st_clear N (by omega)) hI
  rw [F_L_law_657_eq, e1, Option.bind_some, e2, Option.bind_some, if_pos (show (r, D1).1 = (r, D2).1 from rfl), show nI i + (6 : Int32) = nI (i + 6) from nI_add i 6]
  exact ih D2 h2
theorem hq_L670 (N SL : Nat) (sx : Nat → Int32) (n i : Nat) (hN : 1000000000 ≤ N) (hSL : SL ≤ 3072) (hi : i + 6 ≤ SL) {D : hy_M} (hI : hp_Inv D) (ih : ∀ D2, hp_Inv D2 → F_L_law_18 N SL sx n (nI (i + 6)) D2 = some ()) : F_L_law_670 N SL sx n (nI i) D = some () := by
  obtain ⟨r, D1, D2, e1, e2, h2⟩ := hp_go (st_out N (sx (nI i + (1 : Int32)).toNatClampNeg) (sx (nI i + (2 : Int32)).toNatClampNeg)) hI
  have j1 : hy_in (nI i + (1 : Int32)) SL = true := by
    rw [show nI i + (1 : Int32) = nI (i + 1) from nI_add i 1, hp_inN (by omega)]
    omega
  have j2 : hy_in (nI i + (2 : Int32)) SL = true := by
    rw [show nI i + (2 : Int32) = nI (i + 2) from nI_add i 2, hp_inN (by omega)]
    omega
  rw [F_L_law_670_eq, if_pos j1, if_pos j2, e1, Option.bind_some, if_pos j1, if_pos j2, e2, Option.bind_some, if_pos (show (r, D1).1 = (r, D2).1 from rfl), show nI i + (6 : Int32) = nI (i + 6) from nI_add i 6]
  exact ih D2 h2
theorem hq_L703 (N SL : Nat) (sx : Nat → Int32) (n i : Nat) (hN : 1000000000 ≤ N) (hSL : SL ≤ 3072) (hi : i + 6 ≤ SL) {D : hy_M} (hI : hp_Inv D) (ih : ∀ D2, hp_Inv D2 → F_L_law_18 N SL sx n (nI (i + 6)) D2 = some ()) : F_L_law_703 N SL sx n (nI i) D = some () := by
  obtain ⟨r, D1, D2, e1, e2, h2⟩ := hp_go (st_wrong N (by omega) (sx (nI i + (1 : Int32)).toNatClampNeg)) hI
  have j1 : hy_in (nI i + (1 : Int32)) SL = true := by
    rw [show nI i + (1 : Int32) = nI (i + 1) from nI_add i 1, hp_inN (by omega)]
    omega
  rw [F_L_law_703_eq, if_pos j1, e1, Option.bind_some, if_pos j1, e2, Option.bind_some, if_pos (show (r, D1).1 = (r, D2).1 from rfl), show nI i + (6 : Int32) = nI (i + 6) from nI_add i 6]
  exact ih D2 h2
theorem hq_L726 (N SL : Nat) (sx : Nat → Int32) (n i : Nat) (hN : 1000000000 ≤ N) (hSL : SL ≤ 3072) (hi : i + 6 ≤ SL) {D : hy_M} (hI : hp_Inv D) (ih : ∀ D2, hp_Inv D2 → F_L_law_18 N SL sx n (nI (i + 6)) D2 = some ()) : F_L_law_726 N SL sx n (nI i) D = some () := by
  obtain ⟨r, D1, D2, e1, e2, h2⟩ := hp_go (st_replay N (by omega) (sx (nI i + (1 : Int32)).toNatClampNeg)) hI
  have j1 : hy_in (nI i + (1 : Int32)) SL = true := by
    rw [show nI i + (1 : Int32) = nI (i + 1) from nI_add i 1, hp_inN (by omega)]
    omega
  rw [F_L_law_726_eq, if_pos j1, e1, Option.bind_some, if_pos j1, e2, Option.bind_some, if_pos (show (r, D1).1 = (r, D2).1 from rfl), show nI i + (6 : Int32) = nI (i + 6) from nI_add i 6]
  exact ih D2 h2
theorem hq_L749 (N SL : Nat) (sx : Nat → Int32) (n i : Nat) (hN : 1000000000 ≤ N) (hSL : SL ≤ 3072) (hi : i + 6 ≤ SL) {D : hy_M} (hI : hp_Inv D) (ih : ∀ D2, hp_Inv D2 → F_L_law_18 N SL sx n (nI (i + 6)) D2 = some ()) : F_L_law_749 N SL sx n (nI i) D = some () := by
  obtain ⟨r, D1, D2, e1, e2, h2⟩ := hp_go (st_spell N (by omega)) hI
  rw [F_L_law_749_eq, e1, Option.bind_some, e2, Option.bind_some, if_pos (show (r, D1).1 = (r, D2).1 from rfl), show nI i + (6 : Int32) = nI (i + 6) from nI_add i 6]
  exact ih D2 h2
theorem hq_L762 (N SL : Nat) (sx : Nat → Int32) (n i : Nat) (hN : 1000000000 ≤ N) (hSL : SL ≤ 3072) (hi : i + 6 ≤ SL) {D : hy_M} (hI : hp_Inv D) (ih : ∀ D2, hp_Inv D2 → F_L_law_18 N SL sx n (nI (i + 6)) D2 = some ()) : F_L_law_762 N SL sx n (nI i) D = some () := by
  obtain ⟨r, D1, D2, e1, e2, h2⟩ := hp_go (st_paper N (sx (nI i + (1 : Int32)).toNatClampNeg)) hI
  have j1 : hy_in (nI i + (1 : Int32)) SL = true := by
    rw [show nI i + (1 : Int32) = nI (i + 1) from nI_add i 1, hp_inN (by omega)]
    omega
  rw [F_L_law_762_eq, if_pos j1, e1, Option.bind_some, if_pos j1, e2, Option.bind_some, if_pos (show (r, D1).1 = (r, D2).1 from rfl), show nI i + (6 : Int32) = nI (i + 6) from nI_add i 6]
  exact ih D2 h2
theorem hq_L785 (N SL : Nat) (sx : Nat → Int32) (n i : Nat) (hN : 1000000000 ≤ N) (hSL : SL ≤ 3072) (hi : i + 6 ≤ SL) {D : hy_M} (hI : hp_Inv D) (ih : ∀ D2, hp_Inv D2 → F_L_law_18 N SL sx n (nI (i + 6)) D2 = some ()) : F_L_law_785 N SL sx n (nI i) D = some () := by
  obtain ⟨r, D1, D2, e1, e2, h2⟩ := hp_go (st_elsewhere N (by omega) (sx (nI i + (1 : Int32)).toNatClampNeg)) hI
  have j1 : hy_in (nI i + (1 : Int32)) SL = true := by
    rw [show nI i + (1 : Int32) = nI (i + 1) from nI_add i 1, hp_inN (by omega)]
    omega
  rw [F_L_law_785_eq, if_pos j1, e1, Option.bind_some, if_pos j1, e2, Option.bind_some, if_pos (show (r, D1).1 = (r, D2).1 from rfl), show nI i + (6 : Int32) = nI (i + 6) from nI_add i 6]
  exact ih D2 h2
theorem hq_L808 (N SL : Nat) (sx : Nat → Int32) (n i : Nat) (hN : 1000000000 ≤ N) (hSL : SL ≤ 3072) (hi : i + 6 ≤ SL) {D : hy_M} (hI : hp_Inv D) (ih : ∀ D2, hp_Inv D2 → F_L_law_18 N SL sx n (nI (i + 6)) D2 = some ()) : F_L_law_808 N SL sx n (nI i) D = some () := by
  obtain ⟨r, D1, D2, e1, e2, h2⟩ := hp_go (st_drawn N (by omega) (sx (nI i + (1 : Int32)).toNatClampNeg) (sx (nI i + (2 : Int32)).toNatClampNeg)) hI
  have j1 : hy_in (nI i + (1 : Int32)) SL = true := by
    rw [show nI i + (1 : Int32) = nI (i + 1) from nI_add i 1, hp_inN (by omega)]
    omega
  have j2 : hy_in (nI i + (2 : Int32)) SL = true := by
    rw [show nI i + (2 : Int32) = nI (i + 2) from nI_add i 2, hp_inN (by omega)]
    omega
  rw [F_L_law_808_eq, if_pos j1, if_pos j2, e1, Option.bind_some, if_pos j1, if_pos j2, e2, Option.bind_some, if_pos (show (r, D1).1 = (r, D2).1 from rfl), show nI i + (6 : Int32) = nI (i + 6) from nI_add i 6]
  exact ih D2 h2
theorem hq_L841 (N SL : Nat) (sx : Nat → Int32) (n i : Nat) (hN : 1000000000 ≤ N) (hSL : SL ≤ 3072) (hi : i + 6 ≤ SL) {D : hy_M} (hI : hp_Inv D) (ih : ∀ D2, hp_Inv D2 → F_L_law_18 N SL sx n (nI (i + 6)) D2 = some ()) : F_L_law_841 N SL sx n (nI i) D = some () := by
  obtain ⟨r, D1, D2, e1, e2, h2⟩ := hp_go (st_odds N (by omega) (sx (nI i + (1 : Int32)).toNatClampNeg) (sx (nI i + (2 : Int32)).toNatClampNeg) (sx (nI i + (3 : Int32)).toNatClampNeg) (sx (nI i + (4 : Int32)).toNatClampNeg)) hI
  have j1 : hy_in (nI i + (1 : Int32)) SL = true := by
    rw [show nI i + (1 : Int32) = nI (i + 1) from nI_add i 1, hp_inN (by omega)]
    omega
  have j2 : hy_in (nI i + (2 : Int32)) SL = true := by
    rw [show nI i + (2 : Int32) = nI (i + 2) from nI_add i 2, hp_inN (by omega)]
    omega
  have j3 : hy_in (nI i + (3 : Int32)) SL = true := by
    rw [show nI i + (3 : Int32) = nI (i + 3) from nI_add i 3, hp_inN (by omega)]
    omega
  have j4 : hy_in (nI i + (4 : Int32)) SL = true := by
    rw [show nI i + (4 : Int32) = nI (i + 4) from nI_add i 4, hp_inN (by omega)]
    omega
  rw [F_L_law_841_eq, if_pos j1, if_pos j2, if_pos j3, if_pos j4, e1, Option.bind_some, if_pos j1, if_pos j2, if_pos j3, if_pos j4, e2, Option.bind_some, if_pos (show lg_cmp (r, D1).1 (r, D2).1 = 0 from hz_lg r), show nI i + (6 : Int32) = nI (i + 6) from nI_add i 6]
  exact ih D2 h2
theorem hq_L895 (N SL : Nat) (sx : Nat → Int32) (n i : Nat) (hN : 1000000000 ≤ N) (hSL : SL ≤ 3072) (hi : i + 6 ≤ SL) {D : hy_M} (hI : hp_Inv D) (ih : ∀ D2, hp_Inv D2 → F_L_law_18 N SL sx n (nI (i + 6)) D2 = some ()) : F_L_law_895 N SL sx n (nI i) D = some () := by
  obtain ⟨r, D1, D2, e1, e2, h2⟩ := hp_go (st_seen N (by omega) (sx (nI i + (1 : Int32)).toNatClampNeg) (sx (nI i + (2 : Int32)).toNatClampNeg) (sx (nI i + (3 : Int32)).toNatClampNeg)) hI
  have j1 : hy_in (nI i + (1 : Int32)) SL = true := by
    rw [show nI i + (1 : Int32) = nI (i + 1) from nI_add i 1, hp_inN (by omega)]
    omega
  have j2 : hy_in (nI i + (2 : Int32)) SL = true := by
    rw [show nI i + (2 : Int32) = nI (i + 2) from nI_add i 2, hp_inN (by omega)]
    omega
  have j3 : hy_in (nI i + (3 : Int32)) SL = true := by
    rw [show nI i + (3 : Int32) = nI (i + 3) from nI_add i 3, hp_inN (by omega)]
    omega
  rw [F_L_law_895_eq, if_pos j1, if_pos j2, if_pos j3, e1, Option.bind_some, if_pos j1, if_pos j2, if_pos j3, e2, Option.bind_some, if_pos (show (r, D1).1 = (r, D2).1 from rfl), show nI i + (6 : Int32) = nI (i + 6) from nI_add i 6]
  exact ih D2 h2
theorem hq_L938 (N SL : Nat) (sx : Nat → Int32) (n i : Nat) (hN : 1000000000 ≤ N) (hSL : SL ≤ 3072) (hi : i + 6 ≤ SL) {D : hy_M} (hI : hp_Inv D) (ih : ∀ D2, hp_Inv D2 → F_L_law_18 N SL sx n (nI (i + 6)) D2 = some ()) : F_L_law_938 N SL sx n (nI i) D = some () := by
  obtain ⟨r, D1, D2, e1, e2, h2⟩ := hp_go (st_judge N (by omega) (sx (nI i + (1 : Int32)).toNatClampNeg)) hI
  have j1 : hy_in (nI i + (1 : Int32)) SL = true := by
    rw [show nI i + (1 : Int32) = nI (i + 1) from nI_add i 1, hp_inN (by omega)]
    omega
  rw [F_L_law_938_eq, if_pos j1, e1, Option.bind_some, if_pos j1, e2, Option.bind_some, if_pos (show (r, D1).1 = (r, D2).1 from rfl), show nI i + (6 : Int32) = nI (i + 6) from nI_add i 6]
  exact ih D2 h2
theorem hq_L961 (N SL : Nat) (sx : Nat → Int32) (n i : Nat) (hN : 1000000000 ≤ N) (hSL : SL ≤ 3072) (hi : i + 6 ≤ SL) {D : hy_M} (hI : hp_Inv D) (ih : ∀ D2, hp_Inv D2 → F_L_law_18 N SL sx n (nI (i + 6)) D2 = some ()) : F_L_law_961 N SL sx n (nI i) D = some () := by
  obtain ⟨r, D1, D2, e1, e2, h2⟩ := hp_go (st_list N (by omega) (sx (nI i + (1 : Int32)).toNatClampNeg) (sx (nI i + (2 : Int32)).toNatClampNeg)) hI
  have j1 : hy_in (nI i + (1 : Int32)) SL = true := by
    rw [show nI i + (1 : Int32) = nI (i + 1) from nI_add i 1, hp_inN (by omega)]
    omega
  have j2 : hy_in (nI i + (2 : Int32)) SL = true := by
    rw [show nI i + (2 : Int32) = nI (i + 2) from nI_add i 2, hp_inN (by omega)]
    omega
  rw [F_L_law_961_eq, if_pos j1, if_pos j2, e1, Option.bind_some, if_pos j1, if_pos j2, e2, Option.bind_some, if_pos (show (r, D1).1 = (r, D2).1 from rfl), show nI i + (6 : Int32) = nI (i + 6) from nI_add i 6]
  exact ih D2 h2
theorem hq_L994 (N SL : Nat) (sx : Nat → Int32) (n i : Nat) (hN : 1000000000 ≤ N) (hSL : SL ≤ 3072) (hi : i + 6 ≤ SL) {D : hy_M} (hI : hp_Inv D) (ih : ∀ D2, hp_Inv D2 → F_L_law_18 N SL sx n (nI (i + 6)) D2 = some ()) : F_L_law_994 N SL sx n (nI i) D = some () := by
  obtain ⟨r, D1, D2, e1, e2, h2⟩ := hp_go (st_put N (sx (nI i + (1 : Int32)).toNatClampNeg) (sx (nI i + (2 : Int32)).toNatClampNeg) (sx (nI i + (3 : Int32)).toNatClampNeg)) hI
  have j1 : hy_in (nI i + (1 : Int32)) SL = true := by
    rw [show nI i + (1 : Int32) = nI (i + 1) from nI_add i 1, hp_inN (by omega)]
    omega
  have j2 : hy_in (nI i + (2 : Int32)) SL = true := by
    rw [show nI i + (2 : Int32) = nI (i + 2) from nI_add i 2, hp_inN (by omega)]
    omega
  have j3 : hy_in (nI i + (3 : Int32)) SL = true := by
    rw [show nI i + (3 : Int32) = nI (i + 3) from nI_add i 3, hp_inN (by omega)]
    omega
  rw [F_L_law_994_eq, if_pos j1, if_pos j2, if_pos j3, e1, Option.bind_some, if_pos j1, if_pos j2, if_pos j3, e2, Option.bind_some, if_pos (show (r, D1).1 = (r, D2).1 from rfl), show nI i + (6 : Int32) = nI (i + 6) from nI_add i 6]
  exact ih D2 h2
theorem hq_L1037 (N SL : Nat) (sx : Nat → Int32) (n i : Nat) (hN : 1000000000 ≤ N) (hSL : SL ≤ 3072) (hi : i + 6 ≤ SL) {D : hy_M} (hI : hp_Inv D) (ih : ∀ D2, hp_Inv D2 → F_L_law_18 N SL sx n (nI (i + 6)) D2 = some ()) : F_L_law_1037 N SL sx n (nI i) D = some () := by
  obtain ⟨r, D1, D2, e1, e2, h2⟩ := hp_go (st_get N (sx (nI i + (1 : Int32)).toNatClampNeg) (sx (nI i + (2 : Int32)).toNatClampNeg)) hI
  have j1 : hy_in (nI i + (1 : Int32)) SL = true := by
    rw [show nI i + (1 : Int32) = nI (i + 1) from nI_add i 1, hp_inN (by omega)]
    omega
  have j2 : hy_in (nI i + (2 : Int32)) SL = true := by
    rw [show nI i + (2 : Int32) = nI (i + 2) from nI_add i 2, hp_inN (by omega)]
    omega
  rw [F_L_law_1037_eq, if_pos j1, if_pos j2, e1, Option.bind_some, if_pos j1, if_pos j2, e2, Option.bind_some, if_pos (show lg_cmp (r, D1).1 (r, D2).1 = 0 from hz_lg r), show nI i + (6 : Int32) = nI (i + 6) from nI_add i 6]
  exact ih D2 h2
theorem hq_L1071 (N SL : Nat) (sx : Nat → Int32) (n i : Nat) (hN : 1000000000 ≤ N) (hSL : SL ≤ 3072) (hi : i + 6 ≤ SL) {D : hy_M} (hI : hp_Inv D) (ih : ∀ D2, hp_Inv D2 → F_L_law_18 N SL sx n (nI (i + 6)) D2 = some ()) : F_L_law_1071 N SL sx n (nI i) D = some () := by
  obtain ⟨r, D1, D2, e1, e2, h2⟩ := hp_go (st_lay N (by omega) (sx (nI i + (1 : Int32)).toNatClampNeg) (sx (nI i + (2 : Int32)).toNatClampNeg) (sx (nI i + (3 : Int32)).toNatClampNeg) (sx (nI i + (4 : Int32)).toNatClampNeg)) hI
  have j1 : hy_in (nI i + (1 : Int32)) SL = true := by
    rw [show nI i + (1 : Int32) = nI (i + 1) from nI_add i 1, hp_inN (by omega)]
    omega
  have j2 : hy_in (nI i + (2 : Int32)) SL = true := by
    rw [show nI i + (2 : Int32) = nI (i + 2) from nI_add i 2, hp_inN (by omega)]
    omega
  have j3 : hy_in (nI i + (3 : Int32)) SL = true := by
    rw [show nI i + (3 : Int32) = nI (i + 3) from nI_add i 3, hp_inN (by omega)]
    omega
  have j4 : hy_in (nI i + (4 : Int32)) SL = true := by
    rw [show nI i + (4 : Int32) = nI (i + 4) from nI_add i 4, hp_inN (by omega)]
    omega
  rw [F_L_law_1071_eq, if_pos j1, if_pos j2, if_pos j3, if_pos j4, e1, Option.bind_some, if_pos j1, if_pos j2, if_pos j3, if_pos j4, e2, Option.bind_some, if_pos (show (r, D1).1 = (r, D2).1 from rfl), show nI i + (6 : Int32) = nI (i + 6) from nI_add i 6]
  exact ih D2 h2
theorem hq_L1124 (N SL : Nat) (sx : Nat → Int32) (n i : Nat) (hN : 1000000000 ≤ N) (hSL : SL ≤ 3072) (hi : i + 6 ≤ SL) {D : hy_M} (hI : hp_Inv D) (ih : ∀ D2, hp_Inv D2 → F_L_law_18 N SL sx n (nI (i + 6)) D2 = some ()) : F_L_law_1124 N SL sx n (nI i) D = some () := by
  obtain ⟨r, D1, D2, e1, e2, h2⟩ := hp_go (st_image N (by omega)) hI
  rw [F_L_law_1124_eq, e1, Option.bind_some, e2, Option.bind_some, if_pos (show (r, D1).1 = (r, D2).1 from rfl), show nI i + (6 : Int32) = nI (i + 6) from nI_add i 6]
  exact ih D2 h2
theorem hq_L1137 (N SL : Nat) (sx : Nat → Int32) (n i : Nat) (hN : 1000000000 ≤ N) (hSL : SL ≤ 3072) (hi : i + 6 ≤ SL) {D : hy_M} (hI : hp_Inv D) (ih : ∀ D2, hp_Inv D2 → F_L_law_18 N SL sx n (nI (i + 6)) D2 = some ()) : F_L_law_1137 N SL sx n (nI i) D = some () := by
  obtain ⟨r, D1, D2, e1, e2, h2⟩ := hp_go (st_undo N (by omega)) hI
  rw [F_L_law_1137_eq, e1, Option.bind_some, e2, Option.bind_some, if_pos (show (r, D1).1 = (r, D2).1 from rfl), show nI i + (6 : Int32) = nI (i + 6) from nI_add i 6]
  exact ih D2 h2
theorem hq_L1150 (N SL : Nat) (sx : Nat → Int32) (n i : Nat) (hN : 1000000000 ≤ N) (hSL : SL ≤ 3072) (hi : i + 6 ≤ SL) {D : hy_M} (hI : hp_Inv D) (ih : ∀ D2, hp_Inv D2 → F_L_law_18 N SL sx n (nI (i + 6)) D2 = some ()) : F_L_law_1150 N SL sx n (nI i) D = some () := by
  obtain ⟨r, D1, D2, e1, e2, h2⟩ := hp_go (st_count N (by omega) (sx (nI i + (1 : Int32)).toNatClampNeg)) hI
  have j1 : hy_in (nI i + (1 : Int32)) SL = true := by
    rw [show nI i + (1 : Int32) = nI (i + 1) from nI_add i 1, hp_inN (by omega)]
    omega
  rw [F_L_law_1150_eq, if_pos j1, e1, Option.bind_some, if_pos j1, e2, Option.bind_some, if_pos (show (r, D1).1 = (r, D2).1 from rfl), show nI i + (6 : Int32) = nI (i + 6) from nI_add i 6]
  exact ih D2 h2
theorem hq_loop (N SL : Nat) (sx : Nat → Int32) (hN : 1000000000 ≤ N) (hSL : SL ≤ 3072) : ∀ n i D, i ≤ SL → SL < i + 6 * n → hp_Inv D → F_L_law_18 N SL sx n (nI i) D = some () := by
  intro n
  induction n with
  | zero => intro i D h1 h2 _; omega
  | succ n ih0 =>
    intro i D h1 h2 hI
    have hc : ((Int32.ofNat SL) - (6 : Int32) < nI i) = (SL < i + 6) := by
      apply propext
      have e : (Int32.ofNat SL) - (6 : Int32) = nI SL - nI 6 := rfl
      rw [e, Int32.lt_iff_toInt_lt, pk_sub_toInt (by omega) (by omega), hp_ti (by omega)]
      omega
    by_cases hi : SL < i + 6
    · rw [F_L_law_18_eq, if_pos (by rw [hc]; exact hi)]
    · have hi6 : i + 6 ≤ SL := by omega
      have ih : ∀ D2, hp_Inv D2 → F_L_law_18 N SL sx n (nI (i + 6)) D2 = some () := fun D2 h => ih0 (i + 6) D2 (by omega) (by omega) h
      have e6 : nI i + (6 : Int32) = nI (i + 6) := nI_add i 6
      rw [F_L_law_18_eq, if_neg (by rw [hc]; exact hi), if_pos (by rw [hp_inN (by omega)]; omega)]
      generalize (sx (nI i).toNatClampNeg) &&& (63 : Int32) = c
      by_cases h0 : c = 0
      · rw [if_pos h0]
        exact hq_L192 N SL sx n i hN hSL hi6 hI ih
      rw [if_neg h0]
      by_cases h1 : c = 1
      · rw [if_pos h1]
        exact hq_L255 N SL sx n i hN hSL hi6 hI ih
      rw [if_neg h1]
      by_cases h2 : c = 2
      · rw [if_pos h2]
        exact hq_L268 N SL sx n i hN hSL hi6 hI ih
      rw [if_neg h2]
      by_cases h3 : c = 3
      · rw [if_pos h3]
        exact hq_L281 N SL sx n i hN hSL hi6 hI ih
      rw [if_neg h3]
      by_cases h4 : c = 4
      · rw [if_pos h4]
        exact hq_L324 N SL sx n i hN hSL hi6 hI ih
      rw [if_neg h4]
      by_cases h5 : c = 5
      · rw [if_pos h5]
        exact hq_L357 N SL sx n i hN hSL hi6 hI ih
      rw [if_neg h5]
      by_cases h6 : c = 6
      · rw [if_pos h6]
        exact hq_L380 N SL sx n i hN hSL hi6 hI ih
      rw [if_neg h6]
      by_cases h7 : c = 7
      · rw [if_pos h7]
        exact hq_L413 N SL sx n i hN hSL hi6 hI ih
      rw [if_neg h7]
      by_cases h8 : c = 8
      · rw [if_pos h8]
        exact hq_L446 N SL sx n i hN hSL hi6 hI ih
      rw [if_neg h8]
      by_cases h9 : c = 9
      · rw [if_pos h9]
        exact hq_L479 N SL sx n i hN hSL hi6 hI ih
      rw [if_neg h9]
      by_cases h10 : c = 10
      · rw [if_pos h10]
        exact hq_L502 N SL sx n i hN hSL hi6 hI ih
      rw [if_neg h10]
      by_cases h11 : c = 11
      · rw [if_pos h11]
        exact hq_L525 N SL sx n i hN hSL hi6 hI ih
      rw [if_neg h11]
      by_cases h12 : c = 12
      · rw [if_pos h12]
        exact hq_L538 N SL sx n i hN hSL hi6 hI ih
      rw [if_neg h12]
      by_cases h13 : c = 13
      · rw [if_pos h13]
        exact hq_L561 N SL sx n i hN hSL hi6 hI ih
      rw [if_neg h13]
      by_cases h14 : c = 14
      · rw [if_pos h14]
        exact hq_L584 N SL sx n i hN hSL hi6 hI ih
      rw [if_neg h14]
      by_cases h15 : c = 15
      · rw [if_pos h15]
        exact hq_L597 N SL sx n i hN hSL hi6 hI ih
      rw [if_neg h15]
      by_cases h16 : c = 16
      · rw [if_pos h16]
        exact hq_L621 N SL sx n i hN hSL hi6 hI ih
      rw [if_neg h16]
      by_cases h17 : c = 17
      · rw [if_pos h17]
        exact hq_L634 N SL sx n i hN hSL hi6 hI ih
      rw [if_neg h17]
      by_cases h18 : c = 18
      · rw [if_pos h18]
        exact hq_L657 N SL sx n i hN hSL hi6 hI ih
      rw [if_neg h18]
      by_cases h19 : c = 19
      · rw [if_pos h19]
        exact hq_L670 N SL sx n i hN hSL hi6 hI ih
      rw [if_neg h19]
      by_cases h20 : c = 20
      · rw [if_pos h20]
        exact hq_L703 N SL sx n i hN hSL hi6 hI ih
      rw [if_neg h20]
      by_cases h21 : c = 21
      · rw [if_pos h21]
        exact hq_L726 N SL sx n i hN hSL hi6 hI ih
      rw [if_neg h21]
      by_cases h22 : c = 22
      · rw [if_pos h22]
        exact hq_L749 N SL sx n i hN hSL hi6 hI ih
      rw [if_neg h22]
      by_cases h23 : c = 23
      · rw [if_pos h23]
        exact hq_L762 N SL sx n i hN hSL hi6 hI ih
      rw [if_neg h23]
      by_cases h24 : c = 24
      · rw [if_pos h24]
        exact hq_L785 N SL sx n i hN hSL hi6 hI ih
      rw [if_neg h24]
      by_cases h25 : c = 25
      · rw [if_pos h25]
        exact hq_L808 N SL sx n i hN hSL hi6 hI ih
      rw [if_neg h25]
      by_cases h26 : c = 26
      · rw [if_pos h26]
        exact hq_L841 N SL sx n i hN hSL hi6 hI ih
      rw [if_neg h26]
      by_cases h27 : c = 27
      · rw [if_pos h27]
        exact hq_L895 N SL sx n i hN hSL hi6 hI ih
      rw [if_neg h27]
      by_cases h28 : c = 28
      · rw [if_pos h28]
        exact hq_L938 N SL sx n i hN hSL hi6 hI ih
      rw [if_neg h28]
      by_cases h29 : c = 29
      · rw [if_pos h29]
        exact hq_L961 N SL sx n i hN hSL hi6 hI ih
      rw [if_neg h29]
      by_cases h30 : c = 30
      · rw [if_pos h30]
        exact hq_L994 N SL sx n i hN hSL hi6 hI ih
      rw [if_neg h30]
      by_cases h31 : c = 31
      · rw [if_pos h31]
        exact hq_L1037 N SL sx n i hN hSL hi6 hI ih
      rw [if_neg h31]
      by_cases h32 : c = 32
      · rw [if_pos h32]
        exact hq_L1071 N SL sx n i hN hSL hi6 hI ih
      rw [if_neg h32]
      by_cases h33 : c = 33
      · rw [if_pos h33]
        exact hq_L1124 N SL sx n i hN hSL hi6 hI ih
      rw [if_neg h33]
      by_cases h34 : c = 34
      · rw [if_pos h34]
        exact hq_L1137 N SL sx n i hN hSL hi6 hI ih
      rw [if_neg h34]
      by_cases h35 : c = 35
      · rw [if_pos h35]
        exact hq_L1150 N SL sx n i hN hSL hi6 hI ih
      rw [if_neg h35]
      rw [e6]
      exact ih D hI
theorem hq_law (N n SL : Nat) (sx : Nat → Int32) (D : hy_M) (hN : 1000000000 ≤ N) (hn : 600 ≤ n) (hSL : SL ≤ 3072) (hI : hp_Inv D) : b_L_law_18 N SL sx n [some (.ref 1001), some (.ref 0), some (.ref 67), some (.int 0)] [] D = some () := hq_loop N SL sx hN hSL n 0 D (by omega) (by omega) hI
/-! the first memory -/
def hz_y0 : Nat → Nat → Nat := fun i _ => if i = 9 then 24 else 0
theorem hz_i1 : ((List.range 18).all fun i => (List.range 8).all fun j => !(decide (j < hp_ub i)) || decide (hz_fin.2.1 (1 + i) j = nI (hz_y0 i j))) = true := by decide +kernel
theorem hz_i2 : ((List.range 18).all fun i => (List.range 8).all fun j => !(decide (j < hp_ub i)) || decide (i = 4) || decide (hz_fin.2.1 68 (hp_pos i j) = nI (hz_y0 i j))) = true := by decide +kernel
theorem hz_i3 : hz_fin.2.1 1 3 = nI 0 ∧ hz_fin.2.1 68 3 = nI 0 ∧ hz_fin.2.1 0 2 = nI 0 ∧ hz_fin.2.1 37 1 = nI 0 ∧ hz_fin.2.1 39 1 = nI 0 ∧ hz_fin.2.1 67 3 = nI 0 ∧ hz_fin.2.1 67 5 = nI 0 ∧ hz_fin.2.1 67 16 = nI 0 ∧ hz_fin.2.1 67 14 = 0 := by decide +kernel
theorem hz_i4 : (∀ l, l < 4 → hz_fin.2.1 47 l = -1) ∧ (∀ l, l < 4 → hz_fin.2.1 80 l = -1) ∧ ∀ t, t < 3 → hz_fin.2.1 52 t = 0 := by decide +kernel
theorem hz_y0_WF : hp_WF hz_y0 := by
  refine ⟨by decide, by decide, by decide, fun w _ => ⟨show 0 ≤ 3 by omega, show 0 < 8 by omega, show 0 < 2 by omega⟩, fun t ht j hj => ?_, by decide, fun t ht => show 24 ≤ 24 by omega, fun w hw => absurd hw (by decide +revert), fun t ht j hj => ?_, by decide, fun l hl j hj => ?_⟩
  · show (if 6 + t = 9 then 24 else 0) < 8
    rw [if_neg (by omega)]
    omega
  · have : j < 0 := hj
    omega
  · have : j < 0 := hj
    omega
theorem hz_Inv : hp_Inv hz_fin.2.1 := by
  obtain ⟨a1, a2, a3, a4, a5, a6, a7, a8, a9⟩ := hz_i3
  obtain ⟨b1, b2, b3⟩ := hz_i4
  have neg : ∀ j : Nat, ¬ (j : Int) < ((-1 : Int32)).toInt := fun j h => by
    have : ((-1 : Int32)).toInt = -1 := by decide
    omega
  refine ⟨(hz_y0, 0, hz_y0, 0, 0, 0, 0, fun _ => 0, fun _ => 0, fun _ => -1, fun _ _ => 0), ⟨hz_y0_WF, by omega, fun h => absurd h (by omega), by omega, fun j hj => absurd hj (by omega), by omega, fun j hj => absurd hj (by omega), fun l _ => show -1 ≤ ((-1 : Int32)).toInt ∧ ((-1 : Int32)).toInt ≤ 12 by decide⟩, ⟨⟨?_, fun i j hd => ?_⟩, a3, fun h => absurd h (by omega), a4, fun j hj => absurd hj (by omega), a5, fun j hj => absurd hj (by omega), fun l hl => ⟨b1 l hl, fun j hj => absurd hj (neg j)⟩, b3, hz_fin_8⟩, ⟨?_, fun i j hd h4 => ?_⟩, a6, fun h => absurd h (by omega), a7, fun j hj => absurd hj (by omega), a8, fun j hj => absurd hj (by omega), fun l hl => ⟨b2 l hl, fun j hj => absurd hj (neg j)⟩, a9⟩
  · exact a1
  · have hb := hp_ub_lt hd.1
    have h := hp_all1 (hp_all1 hz_i1 hb.1) hb.2
    simp only [hd.1, decide_true, Bool.not_true, Bool.false_or, decide_eq_true_eq] at h
    exact h
  · exact a2
  · have hb := hp_ub_lt hd.1
    have h := hp_all1 (hp_all1 hz_i2 hb.1) hb.2
    simp only [hd.1, h4, decide_true, decide_false, Bool.not_true, Bool.false_or, decide_eq_true_eq] at h
    exact h
theorem hy_main_ok : hy_main := fun SL sx hSL => hq_law 1000000000000 600 SL sx hz_fin.2.1 (by omega) (by omega) hSL hz_Inv
