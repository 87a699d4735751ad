theorem cls_0 : hy_cls 0 RX0 TX0 8 tyX0 := ⟨rfl, fun w hw => (by
  have h : ∀ w ∈ u_ws RX0 TX0 8, (w ∈ tables_1 ∧ goodWord w = true) := by decide +kernel
  exact hy_WT_in (List.mem_append_right _ (h w hw).1) (h w hw).2), tyX0_ok, nmX0⟩
theorem cls_1 : hy_cls 1 RX2 TX2 2 tyX2 := ⟨rfl, fun w hw => (by
  have h : ∀ w ∈ u_ws RX2 TX2 2, (w ∈ tables_1 ∧ goodWord w = true) := by decide +kernel
  exact hy_WT_in (List.mem_append_right _ (h w hw).1) (h w hw).2), tyX2_ok, nmX2⟩
theorem cls_2 : hy_cls 2 RX3 TX3 2 tyX3 := ⟨rfl, fun w hw => (by
  have h : ∀ w ∈ u_ws RX3 TX3 2, (w ∈ tables_1 ∧ goodWord w = true) := by decide +kernel
  exact hy_WT_in (List.mem_append_right _ (h w hw).1) (h w hw).2), tyX3_ok, nmX3⟩
theorem cls_3 : hy_cls 3 RX4 TX4 2 tyX4 := ⟨rfl, fun w hw => (by
  have h : ∀ w ∈ u_ws RX4 TX4 2, (w ∈ tables_1 ∧ goodWord w = true) := by decide +kernel
  exact hy_WT_in (List.mem_append_right _ (h w hw).1) (h w hw).2), tyX4_ok, nmX4⟩
theorem cls_4 : hy_cls 4 RX5 TX5 5 tyX5 := ⟨rfl, fun w hw => (by
  have h : ∀ w ∈ u_ws RX5 TX5 5, (w ∈ tables_1 ∧ goodWord w = true) := by decide +kernel
  exact hy_WT_in (List.mem_append_right _ (h w hw).1) (h w hw).2), tyX5_ok, nmX5⟩
theorem cls_5 : hy_cls 5 RX6 TX6 2 tyX6 := ⟨rfl, fun w hw => (by
  have h : ∀ w ∈ u_ws RX6 TX6 2, (w ∈ tables_1 ∧ goodWord w = true) := by decide +kernel
  exact hy_WT_in (List.mem_append_right _ (h w hw).1) (h w hw).2), tyX6_ok, nmX6⟩
theorem cls_6 : hy_cls 6 RX7 TX7 12 tyX7 := ⟨rfl, fun w hw => (by
  have h : ∀ w ∈ u_ws RX7 TX7 12, (w ∈ tables_1 ∧ goodWord w = true) := by decide +kernel
  exact hy_WT_in (List.mem_append_right _ (h w hw).1) (h w hw).2), tyX7_ok, nmX7⟩
theorem cls_7 : hy_cls 7 RX8 TX8 10 tyX8 := ⟨rfl, fun w hw => (by
  have h : ∀ w ∈ u_ws RX8 TX8 10, (w ∈ tables_1 ∧ goodWord w = true) := by decide +kernel
  exact hy_WT_in (List.mem_append_right _ (h w hw).1) (h w hw).2), tyX8_ok, nmX8⟩
theorem cls_8 : hy_cls 8 RX9 TX9 20 tyX9 := ⟨rfl, fun w hw => (by
  have h : ∀ w ∈ u_ws RX9 TX9 20, (w ∈ tables_1 ∧ goodWord w = true) := by decide +kernel
  exact hy_WT_in (List.mem_append_right _ (h w hw).1) (h w hw).2), tyX9_ok, nmX9⟩
theorem fl_X8_12 : hy_fl RX8 12 7 0 := ⟨RX8, TX8, 10, tyX8, cls_7, by decide, hy_in_tb (i := 212) (by decide +kernel) rfl⟩
theorem fl_X8_18 : hy_fl RX8 18 7 1 := ⟨RX8, TX8, 10, tyX8, cls_7, by decide, hy_in_tb (i := 213) (by decide +kernel) rfl⟩
theorem fl_X8_21 : hy_fl RX8 21 7 2 := ⟨RX8, TX8, 10, tyX8, cls_7, by decide, hy_in_tb (i := 214) (by decide +kernel) rfl⟩
theorem fl_X8_28 : hy_fl RX8 28 7 3 := ⟨RX8, TX8, 10, tyX8, cls_7, by decide, hy_in_tb (i := 215) (by decide +kernel) rfl⟩
theorem fl_X8_35 : hy_fl RX8 35 7 4 := ⟨RX8, TX8, 10, tyX8, cls_7, by decide, hy_in_tb (i := 216) (by decide +kernel) rfl⟩
theorem fl_X8_42 : hy_fl RX8 42 7 5 := ⟨RX8, TX8, 10, tyX8, cls_7, by decide, hy_in_tb (i := 217) (by decide +kernel) rfl⟩
theorem fl_X8_49 : hy_fl RX8 49 7 6 := ⟨RX8, TX8, 10, tyX8, cls_7, by decide, hy_in_tb (i := 218) (by decide +kernel) rfl⟩
theorem fl_X8_56 : hy_fl RX8 56 7 7 := ⟨RX8, TX8, 10, tyX8, cls_7, by decide, hy_in_tb (i := 219) (by decide +kernel) rfl⟩
theorem fl_X8_63 : hy_fl RX8 63 7 8 := ⟨RX8, TX8, 10, tyX8, cls_7, by decide, hy_in_tb (i := 220) (by decide +kernel) rfl⟩
theorem fl_X8_67 : hy_fl RX8 67 7 9 := ⟨RX8, TX8, 10, tyX8, cls_7, by decide, hy_in_tb (i := 221) (by decide +kernel) rfl⟩
theorem fl_X8_75 : hy_fl RX8 75 5 1 := ⟨RX6, TX6, 2, tyX6, cls_5, by decide, hy_in_tb (i := 114) (by decide +kernel) rfl⟩
theorem fl_X8_91 : hy_fl RX8 91 6 0 := ⟨RX7, TX7, 12, tyX7, cls_6, by decide, hy_in_tb (i := 52) (by decide +kernel) rfl⟩
theorem fl_X8_94 : hy_fl RX8 94 6 2 := ⟨RX7, TX7, 12, tyX7, cls_6, by decide, hy_in_tb (i := 57) (by decide +kernel) rfl⟩
theorem fl_X8_101 : hy_fl RX8 101 6 5 := ⟨RX7, TX7, 12, tyX7, cls_6, by decide, hy_in_tb (i := 64) (by decide +kernel) rfl⟩
theorem fl_X8_111 : hy_fl RX8 111 6 4 := ⟨RX7, TX7, 12, tyX7, cls_6, by decide, hy_in_tb (i := 61) (by decide +kernel) rfl⟩
theorem fl_X8_117 : hy_fl RX8 117 6 10 := ⟨RX7, TX7, 12, tyX7, cls_6, by decide, hy_in_tb (i := 76) (by decide +kernel) rfl⟩
theorem fl_X8_120 : hy_fl RX8 120 6 1 := ⟨RX7, TX7, 12, tyX7, cls_6, by decide, hy_in_tb (i := 55) (by decide +kernel) rfl⟩
theorem fl_X8_123 : hy_fl RX8 123 6 6 := ⟨RX7, TX7, 12, tyX7, cls_6, by decide, hy_in_tb (i := 67) (by decide +kernel) rfl⟩
theorem fl_X8_126 : hy_fl RX8 126 6 7 := ⟨RX7, TX7, 12, tyX7, cls_6, by decide, hy_in_tb (i := 70) (by decide +kernel) rfl⟩
theorem fl_X8_149 : hy_fl RX8 149 6 9 := ⟨RX7, TX7, 12, tyX7, cls_6, by decide, hy_in_tb (i := 74) (by decide +kernel) rfl⟩
theorem fl_X8_156 : hy_fl RX8 156 6 11 := ⟨RX7, TX7, 12, tyX7, cls_6, by decide, hy_in_tb (i := 79) (by decide +kernel) rfl⟩
theorem fl_X8_206 : hy_fl RX8 206 0 7 := ⟨RX0, TX0, 8, tyX0, cls_0, by decide, hy_in_tb (i := 166) (by decide +kernel) rfl⟩
theorem fl_X8_233 : hy_fl RX8 233 6 3 := ⟨RX7, TX7, 12, tyX7, cls_6, by decide, hy_in_tb (i := 59) (by decide +kernel) rfl⟩
theorem fl_X8_249 : hy_fl RX8 249 1 1 := ⟨RX2, TX2, 2, tyX2, cls_1, by decide, hy_in_tb (i := 42) (by decide +kernel) rfl⟩
theorem fl_X8_258 : hy_fl RX8 258 3 1 := ⟨RX4, TX4, 2, tyX4, cls_3, by decide, hy_in_tb (i := 130) (by decide +kernel) rfl⟩
theorem fl_X8_271 : hy_fl RX8 271 3 0 := ⟨RX4, TX4, 2, tyX4, cls_3, by decide, hy_in_tb (i := 128) (by decide +kernel) rfl⟩
theorem fl_X8_277 : hy_fl RX8 277 4 2 := ⟨RX5, TX5, 5, tyX5, cls_4, by decide, hy_in_tb (i := 194) (by decide +kernel) rfl⟩
theorem fl_X8_280 : hy_fl RX8 280 4 3 := ⟨RX5, TX5, 5, tyX5, cls_4, by decide, hy_in_tb (i := 196) (by decide +kernel) rfl⟩
theorem fl_X8_283 : hy_fl RX8 283 4 4 := ⟨RX5, TX5, 5, tyX5, cls_4, by decide, hy_in_tb (i := 198) (by decide +kernel) rfl⟩
theorem fl_X8_289 : hy_fl RX8 289 4 1 := ⟨RX5, TX5, 5, tyX5, cls_4, by decide, hy_in_tb (i := 192) (by decide +kernel) rfl⟩
theorem fl_X8_307 : hy_fl RX8 307 2 1 := ⟨RX3, TX3, 2, tyX3, cls_2, by decide, hy_in_tb (i := 146) (by decide +kernel) rfl⟩
theorem fl_X8_313 : hy_fl RX8 313 2 0 := ⟨RX3, TX3, 2, tyX3, cls_2, by decide, hy_in_tb (i := 144) (by decide +kernel) rfl⟩
theorem fl_X8_327 : hy_fl RX8 327 1 0 := ⟨RX2, TX2, 2, tyX2, cls_1, by decide, hy_in_tb (i := 39) (by decide +kernel) rfl⟩
theorem fl_X0_9 : hy_fl RX0 9 0 0 := ⟨RX0, TX0, 8, tyX0, cls_0, by decide, hy_in_tb (i := 158) (by decide +kernel) rfl⟩
theorem fl_X0_15 : hy_fl RX0 15 0 1 := ⟨RX0, TX0, 8, tyX0, cls_0, by decide, hy_in_tb (i := 159) (by decide +kernel) rfl⟩
theorem fl_X0_19 : hy_fl RX0 19 0 2 := ⟨RX0, TX0, 8, tyX0, cls_0, by decide, hy_in_tb (i := 160) (by decide +kernel) rfl⟩
theorem fl_X0_22 : hy_fl RX0 22 0 3 := ⟨RX0, TX0, 8, tyX0, cls_0, by decide, hy_in_tb (i := 161) (by decide +kernel) rfl⟩
theorem fl_X0_25 : hy_fl RX0 25 0 4 := ⟨RX0, TX0, 8, tyX0, cls_0, by decide, hy_in_tb (i := 162) (by decide +kernel) rfl⟩
theorem fl_X0_28 : hy_fl RX0 28 0 5 := ⟨RX0, TX0, 8, tyX0, cls_0, by decide, hy_in_tb (i := 163) (by decide +kernel) rfl⟩
theorem fl_X0_31 : hy_fl RX0 31 0 6 := ⟨RX0, TX0, 8, tyX0, cls_0, by decide, hy_in_tb (i := 164) (by decide +kernel) rfl⟩
theorem fl_X0_34 : hy_fl RX0 34 0 7 := ⟨RX0, TX0, 8, tyX0, cls_0, by decide, hy_in_tb (i := 165) (by decide +kernel) rfl⟩
theorem fl_X0_37 : hy_fl RX0 37 6 0 := ⟨RX7, TX7, 12, tyX7, cls_6, by decide, hy_in_tb (i := 50) (by decide +kernel) rfl⟩
theorem fl_X0_46 : hy_fl RX0 46 6 1 := ⟨RX7, TX7, 12, tyX7, cls_6, by decide, hy_in_tb (i := 54) (by decide +kernel) rfl⟩
theorem fl_X0_82 : hy_fl RX0 82 6 6 := ⟨RX7, TX7, 12, tyX7, cls_6, by decide, hy_in_tb (i := 66) (by decide +kernel) rfl⟩
theorem fl_X0_85 : hy_fl RX0 85 6 9 := ⟨RX7, TX7, 12, tyX7, cls_6, by decide, hy_in_tb (i := 73) (by decide +kernel) rfl⟩
theorem fl_X0_91 : hy_fl RX0 91 6 7 := ⟨RX7, TX7, 12, tyX7, cls_6, by decide, hy_in_tb (i := 69) (by decide +kernel) rfl⟩
theorem fl_X0_100 : hy_fl RX0 100 6 4 := ⟨RX7, TX7, 12, tyX7, cls_6, by decide, hy_in_tb (i := 62) (by decide +kernel) rfl⟩
theorem fl_X0_106 : hy_fl RX0 106 6 10 := ⟨RX7, TX7, 12, tyX7, cls_6, by decide, hy_in_tb (i := 77) (by decide +kernel) rfl⟩
theorem fl_X2_13 : hy_fl RX2 13 1 0 := ⟨RX2, TX2, 2, tyX2, cls_1, by decide, hy_in_tb (i := 37) (by decide +kernel) rfl⟩
theorem fl_X2_16 : hy_fl RX2 16 1 1 := ⟨RX2, TX2, 2, tyX2, cls_1, by decide, hy_in_tb (i := 40) (by decide +kernel) rfl⟩
theorem fl_X3_11 : hy_fl RX3 11 2 0 := ⟨RX3, TX3, 2, tyX3, cls_2, by decide, hy_in_tb (i := 143) (by decide +kernel) rfl⟩
theorem fl_X3_16 : hy_fl RX3 16 2 1 := ⟨RX3, TX3, 2, tyX3, cls_2, by decide, hy_in_tb (i := 145) (by decide +kernel) rfl⟩
theorem fl_X4_9 : hy_fl RX4 9 3 0 := ⟨RX4, TX4, 2, tyX4, cls_3, by decide, hy_in_tb (i := 127) (by decide +kernel) rfl⟩
theorem fl_X4_15 : hy_fl RX4 15 3 1 := ⟨RX4, TX4, 2, tyX4, cls_3, by decide, hy_in_tb (i := 129) (by decide +kernel) rfl⟩
theorem fl_X5_9 : hy_fl RX5 9 4 0 := ⟨RX5, TX5, 5, tyX5, cls_4, by decide, hy_in_tb (i := 190) (by decide +kernel) rfl⟩
theorem fl_X5_15 : hy_fl RX5 15 4 1 := ⟨RX5, TX5, 5, tyX5, cls_4, by decide, hy_in_tb (i := 191) (by decide +kernel) rfl⟩
theorem fl_X5_18 : hy_fl RX5 18 4 2 := ⟨RX5, TX5, 5, tyX5, cls_4, by decide, hy_in_tb (i := 193) (by decide +kernel) rfl⟩
theorem fl_X5_25 : hy_fl RX5 25 4 4 := ⟨RX5, TX5, 5, tyX5, cls_4, by decide, hy_in_tb (i := 197) (by decide +kernel) rfl⟩
theorem fl_X5_44 : hy_fl RX5 44 6 0 := ⟨RX7, TX7, 12, tyX7, cls_6, by decide, hy_in_tb (i := 51) (by decide +kernel) rfl⟩
theorem fl_X6_9 : hy_fl RX6 9 5 0 := ⟨RX6, TX6, 2, tyX6, cls_5, by decide, hy_in_tb (i := 111) (by decide +kernel) rfl⟩
theorem fl_X6_15 : hy_fl RX6 15 5 1 := ⟨RX6, TX6, 2, tyX6, cls_5, by decide, hy_in_tb (i := 113) (by decide +kernel) rfl⟩
theorem fl_X7_9 : hy_fl RX7 9 6 0 := ⟨RX7, TX7, 12, tyX7, cls_6, by decide, hy_in_tb (i := 49) (by decide +kernel) rfl⟩
theorem fl_X7_15 : hy_fl RX7 15 6 1 := ⟨RX7, TX7, 12, tyX7, cls_6, by decide, hy_in_tb (i := 53) (by decide +kernel) rfl⟩
theorem fl_X7_18 : hy_fl RX7 18 6 2 := ⟨RX7, TX7, 12, tyX7, cls_6, by decide, hy_in_tb (i := 56) (by decide +kernel) rfl⟩
theorem fl_X7_22 : hy_fl RX7 22 6 3 := ⟨RX7, TX7, 12, tyX7, cls_6, by decide, hy_in_tb (i := 58) (by decide +kernel) rfl⟩
theorem fl_X7_25 : hy_fl RX7 25 6 4 := ⟨RX7, TX7, 12, tyX7, cls_6, by decide, hy_in_tb (i := 60) (by decide +kernel) rfl⟩
theorem fl_X7_29 : hy_fl RX7 29 6 5 := ⟨RX7, TX7, 12, tyX7, cls_6, by decide, hy_in_tb (i := 63) (by decide +kernel) rfl⟩
theorem fl_X7_32 : hy_fl RX7 32 6 6 := ⟨RX7, TX7, 12, tyX7, cls_6, by decide, hy_in_tb (i := 65) (by decide +kernel) rfl⟩
theorem fl_X7_35 : hy_fl RX7 35 6 7 := ⟨RX7, TX7, 12, tyX7, cls_6, by decide, hy_in_tb (i := 68) (by decide +kernel) rfl⟩
theorem fl_X7_40 : hy_fl RX7 40 6 8 := ⟨RX7, TX7, 12, tyX7, cls_6, by decide, hy_in_tb (i := 71) (by decide +kernel) rfl⟩
theorem fl_X7_43 : hy_fl RX7 43 6 9 := ⟨RX7, TX7, 12, tyX7, cls_6, by decide, hy_in_tb (i := 72) (by decide +kernel) rfl⟩
theorem fl_X7_46 : hy_fl RX7 46 6 10 := ⟨RX7, TX7, 12, tyX7, cls_6, by decide, hy_in_tb (i := 75) (by decide +kernel) rfl⟩
theorem fl_X7_52 : hy_fl RX7 52 6 11 := ⟨RX7, TX7, 12, tyX7, cls_6, by decide, hy_in_tb (i := 78) (by decide +kernel) rfl⟩
theorem fl_X7_66 : hy_fl RX7 66 5 1 := ⟨RX6, TX6, 2, tyX6, cls_5, by decide, hy_in_tb (i := 115) (by decide +kernel) rfl⟩
theorem fl_X7_71 : hy_fl RX7 71 5 0 := ⟨RX6, TX6, 2, tyX6, cls_5, by decide, hy_in_tb (i := 112) (by decide +kernel) rfl⟩
theorem fl_X7_137 : hy_fl RX7 137 1 1 := ⟨RX2, TX2, 2, tyX2, cls_1, by decide, hy_in_tb (i := 41) (by decide +kernel) rfl⟩
theorem fl_X7_140 : hy_fl RX7 140 1 0 := ⟨RX2, TX2, 2, tyX2, cls_1, by decide, hy_in_tb (i := 38) (by decide +kernel) rfl⟩
theorem fl_X9_9 : hy_fl RX9 9 8 0 := ⟨RX9, TX9, 20, tyX9, cls_8, by decide, hy_in_tb (i := 719) (by decide +kernel) rfl⟩
theorem fl_X9_15 : hy_fl RX9 15 8 1 := ⟨RX9, TX9, 20, tyX9, cls_8, by decide, hy_in_tb (i := 720) (by decide +kernel) rfl⟩
theorem fl_X9_18 : hy_fl RX9 18 8 2 := ⟨RX9, TX9, 20, tyX9, cls_8, by decide, hy_in_tb (i := 721) (by decide +kernel) rfl⟩
theorem fl_X9_21 : hy_fl RX9 21 8 4 := ⟨RX9, TX9, 20, tyX9, cls_8, by decide, hy_in_tb (i := 723) (by decide +kernel) rfl⟩
theorem fl_X9_24 : hy_fl RX9 24 8 6 := ⟨RX9, TX9, 20, tyX9, cls_8, by decide, hy_in_tb (i := 725) (by decide +kernel) rfl⟩
theorem fl_X9_27 : hy_fl RX9 27 8 7 := ⟨RX9, TX9, 20, tyX9, cls_8, by decide, hy_in_tb (i := 726) (by decide +kernel) rfl⟩
theorem fl_X9_30 : hy_fl RX9 30 8 8 := ⟨RX9, TX9, 20, tyX9, cls_8, by decide, hy_in_tb (i := 727) (by decide +kernel) rfl⟩
theorem fl_X9_33 : hy_fl RX9 33 8 9 := ⟨RX9, TX9, 20, tyX9, cls_8, by decide, hy_in_tb (i := 728) (by decide +kernel) rfl⟩
theorem fl_X9_36 : hy_fl RX9 36 8 10 := ⟨RX9, TX9, 20, tyX9, cls_8, by decide, hy_in_tb (i := 729) (by decide +kernel) rfl⟩
theorem fl_X9_39 : hy_fl RX9 39 8 15 := ⟨RX9, TX9, 20, tyX9, cls_8, by decide, hy_in_tb (i := 734) (by decide +kernel) rfl⟩
theorem fl_X9_42 : hy_fl RX9 42 8 17 := ⟨RX9, TX9, 20, tyX9, cls_8, by decide, hy_in_tb (i := 736) (by decide +kernel) rfl⟩
theorem fl_X9_45 : hy_fl RX9 45 8 18 := ⟨RX9, TX9, 20, tyX9, cls_8, by decide, hy_in_tb (i := 737) (by decide +kernel) rfl⟩
theorem fl_X9_48 : hy_fl RX9 48 8 19 := ⟨RX9, TX9, 20, tyX9, cls_8, by decide, hy_in_tb (i := 738) (by decide +kernel) rfl⟩
theorem fl_X9_65 : hy_fl RX9 65 8 5 := ⟨RX9, TX9, 20, tyX9, cls_8, by decide, hy_in_tb (i := 724) (by decide +kernel) rfl⟩
theorem fl_X9_168 : hy_fl RX9 168 8 11 := ⟨RX9, TX9, 20, tyX9, cls_8, by decide, hy_in_tb (i := 730) (by decide +kernel) rfl⟩
theorem fl_X9_171 : hy_fl RX9 171 8 12 := ⟨RX9, TX9, 20, tyX9, cls_8, by decide, hy_in_tb (i := 731) (by decide +kernel) rfl⟩
theorem fl_X9_212 : hy_fl RX9 212 8 13 := ⟨RX9, TX9, 20, tyX9, cls_8, by decide, hy_in_tb (i := 732) (by decide +kernel) rfl⟩
theorem fl_X9_215 : hy_fl RX9 215 8 14 := ⟨RX9, TX9, 20, tyX9, cls_8, by decide, hy_in_tb (i := 733) (by decide +kernel) rfl⟩
theorem fl_X9_255 : hy_fl RX9 255 8 16 := ⟨RX9, TX9, 20, tyX9, cls_8, by decide, hy_in_tb (i := 735) (by decide +kernel) rfl⟩
theorem fl_X9_281 : hy_fl RX9 281 8 3 := ⟨RX9, TX9, 20, tyX9, cls_8, by decide, hy_in_tb (i := 722) (by decide +kernel) rfl⟩
theorem fp_X8_21 : hy_fp RX8 21 7 2 .boolean := ⟨RX8, TX8, 10, tyX8, cls_7, by decide, hy_in_tb (i := 214) (by decide +kernel) rfl, rfl, rfl⟩
theorem fp_X8_75 : hy_fp RX8 75 5 1 .int := ⟨RX6, TX6, 2, tyX6, cls_5, by decide, hy_in_tb (i := 114) (by decide +kernel) rfl, rfl, rfl⟩
theorem fp_X8_94 : hy_fp RX8 94 6 2 .boolean := ⟨RX7, TX7, 12, tyX7, cls_6, by decide, hy_in_tb (i := 57) (by decide +kernel) rfl, rfl, rfl⟩
theorem fp_X8_120 : hy_fp RX8 120 6 1 .int := ⟨RX7, TX7, 12, tyX7, cls_6, by decide, hy_in_tb (i := 55) (by decide +kernel) rfl, rfl, rfl⟩
theorem fp_X8_233 : hy_fp RX8 233 6 3 .int := ⟨RX7, TX7, 12, tyX7, cls_6, by decide, hy_in_tb (i := 59) (by decide +kernel) rfl, rfl, rfl⟩
theorem fp_X8_258 : hy_fp RX8 258 3 1 .int := ⟨RX4, TX4, 2, tyX4, cls_3, by decide, hy_in_tb (i := 130) (by decide +kernel) rfl, rfl, rfl⟩
theorem fp_X0_15 : hy_fp RX0 15 0 1 .int := ⟨RX0, TX0, 8, tyX0, cls_0, by decide, hy_in_tb (i := 159) (by decide +kernel) rfl, rfl, rfl⟩
theorem fp_X0_31 : hy_fp RX0 31 0 6 .int := ⟨RX0, TX0, 8, tyX0, cls_0, by decide, hy_in_tb (i := 164) (by decide +kernel) rfl, rfl, rfl⟩
theorem fp_X4_15 : hy_fp RX4 15 3 1 .int := ⟨RX4, TX4, 2, tyX4, cls_3, by decide, hy_in_tb (i := 129) (by decide +kernel) rfl, rfl, rfl⟩
theorem fp_X5_18 : hy_fp RX5 18 4 2 .int := ⟨RX5, TX5, 5, tyX5, cls_4, by decide, hy_in_tb (i := 193) (by decide +kernel) rfl, rfl, rfl⟩
theorem fp_X5_22 : hy_fp RX5 22 4 3 .int := ⟨RX5, TX5, 5, tyX5, cls_4, by decide, hy_in_tb (i := 195) (by decide +kernel) rfl, rfl, rfl⟩
theorem fp_X5_25 : hy_fp RX5 25 4 4 .int := ⟨RX5, TX5, 5, tyX5, cls_4, by decide, hy_in_tb (i := 197) (by decide +kernel) rfl, rfl, rfl⟩
theorem fp_X6_15 : hy_fp RX6 15 5 1 .int := ⟨RX6, TX6, 2, tyX6, cls_5, by decide, hy_in_tb (i := 113) (by decide +kernel) rfl, rfl, rfl⟩
theorem fp_X7_9 : hy_fp RX7 9 6 0 .int := ⟨RX7, TX7, 12, tyX7, cls_6, by decide, hy_in_tb (i := 49) (by decide +kernel) rfl, rfl, rfl⟩
theorem fp_X7_15 : hy_fp RX7 15 6 1 .int := ⟨RX7, TX7, 12, tyX7, cls_6, by decide, hy_in_tb (i := 53) (by decide +kernel) rfl, rfl, rfl⟩
theorem fp_X7_18 : hy_fp RX7 18 6 2 .boolean := ⟨RX7, TX7, 12, tyX7, cls_6, by decide, hy_in_tb (i := 56) (by decide +kernel) rfl, rfl, rfl⟩
theorem fp_X7_22 : hy_fp RX7 22 6 3 .int := ⟨RX7, TX7, 12, tyX7, cls_6, by decide, hy_in_tb (i := 58) (by decide +kernel) rfl, rfl, rfl⟩
theorem fp_X9_65 : hy_fp RX9 65 8 5 .int := ⟨RX9, TX9, 20, tyX9, cls_8, by decide, hy_in_tb (i := 724) (by decide +kernel) rfl, rfl, rfl⟩
theorem fp_X9_168 : hy_fp RX9 168 8 11 .int := ⟨RX9, TX9, 20, tyX9, cls_8, by decide, hy_in_tb (i := 730) (by decide +kernel) rfl, rfl, rfl⟩
theorem fp_X9_171 : hy_fp RX9 171 8 12 .int := ⟨RX9, TX9, 20, tyX9, cls_8, by decide, hy_in_tb (i := 731) (by decide +kernel) rfl, rfl, rfl⟩
theorem fp_X9_212 : hy_fp RX9 212 8 13 .int := ⟨RX9, TX9, 20, tyX9, cls_8, by decide, hy_in_tb (i := 732) (by decide +kernel) rfl, rfl, rfl⟩
theorem fp_X9_215 : hy_fp RX9 215 8 14 .boolean := ⟨RX9, TX9, 20, tyX9, cls_8, by decide, hy_in_tb (i := 733) (by decide +kernel) rfl, rfl, rfl⟩
theorem fp_X9_255 : hy_fp RX9 255 8 16 .int := ⟨RX9, TX9, 20, tyX9, cls_8, by decide, hy_in_tb (i := 735) (by decide +kernel) rfl, rfl, rfl⟩
theorem fp_X9_281 : hy_fp RX9 281 8 3 .boolean := ⟨RX9, TX9, 20, tyX9, cls_8, by decide, hy_in_tb (i := 722) (by decide +kernel) rfl, rfl, rfl⟩
theorem k_X5_37 : Cond.constant RX5 37 1103515245 ∈ hy_WT := hy_in_tb (i := 631) (by decide +kernel) rfl
theorem k_X9_264 : Cond.constant RX9 264 1103515245 ∈ hy_WT := hy_in_tb (i := 1097) (by decide +kernel) rfl
theorem k_J6_265 : Cond.constant RJ6 265 1431655765 ∈ hy_WT := hy_in_tb (i := 265) (by decide +kernel) rfl
theorem k_J6_266 : Cond.constant RJ6 266 858993459 ∈ hy_WT := hy_in_tb (i := 266) (by decide +kernel) rfl
theorem k_J6_267 : Cond.constant RJ6 267 252645135 ∈ hy_WT := hy_in_tb (i := 267) (by decide +kernel) rfl
theorem kl_X8_215 : Cond.constantLong RX8 215 (-9223372036854775808) ∈ hy_WT := hy_in_tb (i := 505) (by decide +kernel) rfl
theorem kl_X9_55 : Cond.constantLong RX9 55 2 ∈ hy_WT := hy_in_tb (i := 830) (by decide +kernel) rfl
theorem kl_X9_61 : Cond.constantLong RX9 61 4 ∈ hy_WT := hy_in_tb (i := 784) (by decide +kernel) rfl
theorem kl_X9_63 : Cond.constantLong RX9 63 127 ∈ hy_WT := hy_in_tb (i := 788) (by decide +kernel) rfl
theorem kl_X9_69 : Cond.constantLong RX9 69 7 ∈ hy_WT := hy_in_tb (i := 797) (by decide +kernel) rfl
theorem kl_X9_82 : Cond.constantLong RX9 82 48 ∈ hy_WT := hy_in_tb (i := 812) (by decide +kernel) rfl
theorem kl_X9_84 : Cond.constantLong RX9 84 55 ∈ hy_WT := hy_in_tb (i := 813) (by decide +kernel) rfl
theorem kl_X9_90 : Cond.constantLong RX9 90 3 ∈ hy_WT := hy_in_tb (i := 822) (by decide +kernel) rfl
theorem kl_X9_95 : Cond.constantLong RX9 95 24 ∈ hy_WT := hy_in_tb (i := 831) (by decide +kernel) rfl
theorem kl_X9_134 : Cond.constantLong RX9 134 (-1) ∈ hy_WT := hy_in_tb (i := 890) (by decide +kernel) rfl
theorem kl_X9_142 : Cond.constantLong RX9 142 10 ∈ hy_WT := hy_in_tb (i := 903) (by decide +kernel) rfl
theorem kl_X9_147 : Cond.constantLong RX9 147 17 ∈ hy_WT := hy_in_tb (i := 916) (by decide +kernel) rfl
theorem kl_X9_210 : Cond.constantLong RX9 210 (-9223372036854775808) ∈ hy_WT := hy_in_tb (i := 1002) (by decide +kernel) rfl
theorem kl_X9_245 : Cond.constantLong RX9 245 50 ∈ hy_WT := hy_in_tb (i := 1064) (by decide +kernel) rfl
theorem kl_X9_247 : Cond.constantLong RX9 247 5 ∈ hy_WT := hy_in_tb (i := 1059) (by decide +kernel) rfl
theorem kl_X9_268 : Cond.constantLong RX9 268 20 ∈ hy_WT := hy_in_tb (i := 1102) (by decide +kernel) rfl
theorem kl_X9_270 : Cond.constantLong RX9 270 8 ∈ hy_WT := hy_in_tb (i := 1103) (by decide +kernel) rfl
theorem gs_X8_170 : Cond.fieldLink RX8 170 "HumpYard" "AS_THEY_COME" "[I" ∈ hy_WT := hy_in_tb (i := 351) (by decide +kernel) rfl
theorem acp_n : Cond.native arraycopyName ∈ hy_WT := hy_in_tb (i := 500) (by decide +kernel) rfl
theorem acp_s : Cond.static arraycopyName ∈ hy_WT := hy_in_tb (i := 499) (by decide +kernel) rfl
theorem acp_i : Cond.initialized "java/lang/System" ∈ hy_WT := hy_in_tb (i := 13) (by decide +kernel) rfl
theorem acp_m : Cond.initialized "java/lang/Math" ∈ hy_WT := hy_in_tb (i := 11) (by decide +kernel) rfl
theorem ma_s : Cond.static Lib.Math.max.name ∈ hy_WT := hy_in_tb (i := 361) (by decide +kernel) rfl
set_option maxRecDepth 100000 in
theorem ma_c : Cond.code Lib.Math.max.name Lib.Math.max.code 2 (some .int) ∈ hy_WT := hy_in_tb (i := 362) (by decide +kernel) rfl
theorem mi_s : Cond.static Lib.Math.min.name ∈ hy_WT := hy_in_tb (i := 472) (by decide +kernel) rfl
set_option maxRecDepth 100000 in
theorem mi_c : Cond.code Lib.Math.min.name Lib.Math.min.code 2 (some .int) ∈ hy_WT := hy_in_tb (i := 473) (by decide +kernel) rfl
theorem ml_X8_71 : Cond.methodLink RX8 71 yX6_takes ∈ hy_WT := hy_in_tb (i := 247) (by decide +kernel) rfl
theorem ml_X8_79 : Cond.methodLink RX8 79 yX6_append ∈ hy_WT := hy_in_tb (i := 250) (by decide +kernel) rfl
theorem ml_X8_83 : Cond.methodLink RX8 83 yX6_faultOfYard ∈ hy_WT := hy_in_tb (i := 258) (by decide +kernel) rfl
theorem ml_X8_87 : Cond.methodLink RX8 87 yX7_becomeNew ∈ hy_WT := hy_in_tb (i := 272) (by decide +kernel) rfl
theorem ml_X8_97 : Cond.methodLink RX8 97 yX6_faultOfFigures ∈ hy_WT := hy_in_tb (i := 292) (by decide +kernel) rfl
theorem ml_X8_104 : Cond.methodLink RX8 104 yX6_figureAt ∈ hy_WT := hy_in_tb (i := 300) (by decide +kernel) rfl
theorem ml_X8_108 : Cond.methodLink RX8 108 yX7_hasWagon ∈ hy_WT := hy_in_tb (i := 305) (by decide +kernel) rfl
theorem ml_X8_114 : Cond.methodLink RX8 114 yX8_isTrack ∈ hy_WT := hy_in_tb (i := 313) (by decide +kernel) rfl
theorem ml_X8_129 : Cond.methodLink RX8 129 yX7_chainOf ∈ hy_WT := hy_in_tb (i := 324) (by decide +kernel) rfl
theorem ml_X8_132 : Cond.methodLink RX8 132 yX8_whereIs ∈ hy_WT := hy_in_tb (i := 338) (by decide +kernel) rfl
theorem ml_X8_135 : Cond.methodLink RX8 135 yJ6_bitCount_0f7a4 ∈ hy_WT := hy_in_tb (i := 346) (by decide +kernel) rfl
theorem ml_X8_140 : Cond.methodLink RX8 140 yX8_fewestNow ∈ hy_WT := hy_in_tb (i := 347) (by decide +kernel) rfl
theorem ml_X8_143 : Cond.methodLink RX8 143 yX8_presortedCode ∈ hy_WT := hy_in_tb (i := 376) (by decide +kernel) rfl
theorem ml_X8_146 : Cond.methodLink RX8 146 yX8_isTrain ∈ hy_WT := hy_in_tb (i := 385) (by decide +kernel) rfl
theorem ml_X8_152 : Cond.methodLink RX8 152 yX7_wantedAt ∈ hy_WT := hy_in_tb (i := 388) (by decide +kernel) rfl
theorem ml_X8_159 : Cond.methodLink RX8 159 yX7_lengthsOn ∈ hy_WT := hy_in_tb (i := 393) (by decide +kernel) rfl
theorem ml_X8_163 : Cond.methodLink RX8 163 yX7_loadOf ∈ hy_WT := hy_in_tb (i := 397) (by decide +kernel) rfl
theorem ml_X8_167 : Cond.methodLink RX8 167 yX2_wagonAt ∈ hy_WT := hy_in_tb (i := 401) (by decide +kernel) rfl
theorem ml_X8_173 : Cond.methodLink RX8 173 yX7_needOf ∈ hy_WT := hy_in_tb (i := 352) (by decide +kernel) rfl
theorem ml_X8_177 : Cond.methodLink RX8 177 yX7_chainsOf ∈ hy_WT := hy_in_tb (i := 409) (by decide +kernel) rfl
theorem ml_X8_181 : Cond.methodLink RX8 181 yX1_howMany ∈ hy_WT := hy_in_tb (i := 414) (by decide +kernel) rfl
theorem ml_X8_186 : Cond.methodLink RX8 186 yX1_mayBe ∈ hy_WT := hy_in_tb (i := 417) (by decide +kernel) rfl
theorem ml_X8_190 : Cond.methodLink RX8 190 yX7_stepsOf ∈ hy_WT := hy_in_tb (i := 422) (by decide +kernel) rfl
theorem ml_X8_193 : Cond.methodLink RX8 193 yX7_firstNotRight ∈ hy_WT := hy_in_tb (i := 431) (by decide +kernel) rfl
theorem ml_X8_196 : Cond.methodLink RX8 196 yX7_judgeCodes ∈ hy_WT := hy_in_tb (i := 435) (by decide +kernel) rfl
theorem ml_X8_199 : Cond.methodLink RX8 199 yX7_rollsOf ∈ hy_WT := hy_in_tb (i := 442) (by decide +kernel) rfl
theorem ml_X8_202 : Cond.methodLink RX8 202 yX0_findBest ∈ hy_WT := hy_in_tb (i := 451) (by decide +kernel) rfl
theorem ml_X8_209 : Cond.methodLink RX8 209 arraycopyName ∈ hy_WT := hy_in_tb (i := 498) (by decide +kernel) rfl
theorem ml_X8_217 : Cond.methodLink RX8 217 yX8_partOfLowest ∈ hy_WT := hy_in_tb (i := 506) (by decide +kernel) rfl
theorem ml_X8_221 : Cond.methodLink RX8 221 yX7_humpInto ∈ hy_WT := hy_in_tb (i := 513) (by decide +kernel) rfl
theorem ml_X8_225 : Cond.methodLink RX8 225 yX7_isOverfull ∈ hy_WT := hy_in_tb (i := 528) (by decide +kernel) rfl
theorem ml_X8_229 : Cond.methodLink RX8 229 yX2_become ∈ hy_WT := hy_in_tb (i := 533) (by decide +kernel) rfl
theorem ml_X8_236 : Cond.methodLink RX8 236 yX2_countOut ∈ hy_WT := hy_in_tb (i := 538) (by decide +kernel) rfl
theorem ml_X8_239 : Cond.methodLink RX8 239 yX7_pullIn ∈ hy_WT := hy_in_tb (i := 547) (by decide +kernel) rfl
theorem ml_X8_243 : Cond.methodLink RX8 243 yX7_becomeCleared ∈ hy_WT := hy_in_tb (i := 555) (by decide +kernel) rfl
theorem ml_X8_246 : Cond.methodLink RX8 246 yX2_outOf ∈ hy_WT := hy_in_tb (i := 560) (by decide +kernel) rfl
theorem ml_X8_252 : Cond.methodLink RX8 252 yX7_firstWrong ∈ hy_WT := hy_in_tb (i := 565) (by decide +kernel) rfl
theorem ml_X8_255 : Cond.methodLink RX8 255 yX8_replayed ∈ hy_WT := hy_in_tb (i := 573) (by decide +kernel) rfl
theorem ml_X8_259 : Cond.methodLink RX8 259 yX4_append ∈ hy_WT := hy_in_tb (i := 589) (by decide +kernel) rfl
theorem ml_X8_260 : Cond.methodLink RX8 260 yX7_laneBehind ∈ hy_WT := hy_in_tb (i := 593) (by decide +kernel) rfl
theorem ml_X8_264 : Cond.methodLink RX8 264 yX4_appendRoll ∈ hy_WT := hy_in_tb (i := 594) (by decide +kernel) rfl
theorem ml_X8_268 : Cond.methodLink RX8 268 yX8_spellPull ∈ hy_WT := hy_in_tb (i := 600) (by decide +kernel) rfl
theorem ml_X8_274 : Cond.methodLink RX8 274 yX5_findElsewhere ∈ hy_WT := hy_in_tb (i := 612) (by decide +kernel) rfl
theorem ml_X8_286 : Cond.methodLink RX8 286 yX5_drawRow ∈ hy_WT := hy_in_tb (i := 626) (by decide +kernel) rfl
theorem ml_X8_292 : Cond.methodLink RX8 292 yX1_fewestFor ∈ hy_WT := hy_in_tb (i := 363) (by decide +kernel) rfl
theorem ml_X8_295 : Cond.methodLink RX8 295 yX3_isList ∈ hy_WT := hy_in_tb (i := 640) (by decide +kernel) rfl
theorem ml_X8_298 : Cond.methodLink RX8 298 yX3_holds ∈ hy_WT := hy_in_tb (i := 643) (by decide +kernel) rfl
theorem ml_X8_301 : Cond.methodLink RX8 301 yX7_runWhole ∈ hy_WT := hy_in_tb (i := 647) (by decide +kernel) rfl
theorem ml_X8_304 : Cond.methodLink RX8 304 yX8_tellsOut ∈ hy_WT := hy_in_tb (i := 653) (by decide +kernel) rfl
theorem ml_X8_308 : Cond.methodLink RX8 308 Lib.Math.min.name ∈ hy_WT := hy_in_tb (i := 661) (by decide +kernel) rfl
theorem ml_X8_317 : Cond.methodLink RX8 317 yX3_makeZeros ∈ hy_WT := hy_in_tb (i := 666) (by decide +kernel) rfl
theorem ml_X8_320 : Cond.methodLink RX8 320 yX3_hasPlace ∈ hy_WT := hy_in_tb (i := 674) (by decide +kernel) rfl
theorem ml_X8_323 : Cond.methodLink RX8 323 yX3_layRow ∈ hy_WT := hy_in_tb (i := 686) (by decide +kernel) rfl
theorem ml_X8_328 : Cond.methodLink RX8 328 yX7_become ∈ hy_WT := hy_in_tb (i := 695) (by decide +kernel) rfl
theorem ml_X8_331 : Cond.methodLink RX8 331 yX2_countOnTracks ∈ hy_WT := hy_in_tb (i := 709) (by decide +kernel) rfl
theorem ml_X8_334 : Cond.methodLink RX8 334 yX1_codeOfRank ∈ hy_WT := hy_in_tb (i := 380) (by decide +kernel) rfl
theorem ml_X8_337 : Cond.methodLink RX8 337 yX2_laneOf ∈ hy_WT := hy_in_tb (i := 342) (by decide +kernel) rfl
theorem ml_X8_340 : Cond.methodLink RX8 340 yX2_tracksInUse ∈ hy_WT := hy_in_tb (i := 577) (by decide +kernel) rfl
theorem ml_X8_343 : Cond.methodLink RX8 343 yX8_wrongInThought ∈ hy_WT := hy_in_tb (i := 581) (by decide +kernel) rfl
theorem ml_X0_42 : Cond.methodLink RX0 42 yX7_chainOf ∈ hy_WT := hy_in_tb (i := 455) (by decide +kernel) rfl
theorem ml_X0_49 : Cond.methodLink RX0 49 yX0_allowBelow ∈ hy_WT := hy_in_tb (i := 456) (by decide +kernel) rfl
theorem ml_X0_53 : Cond.methodLink RX0 53 yX0_foresee ∈ hy_WT := hy_in_tb (i := 461) (by decide +kernel) rfl
theorem ml_X0_57 : Cond.methodLink RX0 57 yX0_choose ∈ hy_WT := hy_in_tb (i := 474) (by decide +kernel) rfl
theorem ml_X0_61 : Cond.methodLink RX0 61 yX1_mayBe ∈ hy_WT := hy_in_tb (i := 460) (by decide +kernel) rfl
theorem ml_X0_67 : Cond.methodLink RX0 67 yX0_highest ∈ hy_WT := hy_in_tb (i := 465) (by decide +kernel) rfl
theorem ml_X0_71 : Cond.methodLink RX0 71 yJ6_bitCount_0f7a4 ∈ hy_WT := hy_in_tb (i := 470) (by decide +kernel) rfl
theorem ml_X0_76 : Cond.methodLink RX0 76 Lib.Math.min.name ∈ hy_WT := hy_in_tb (i := 471) (by decide +kernel) rfl
theorem ml_X0_88 : Cond.methodLink RX0 88 yX7_wantedAt ∈ hy_WT := hy_in_tb (i := 469) (by decide +kernel) rfl
theorem ml_X0_94 : Cond.methodLink RX0 94 yX0_highFor ∈ hy_WT := hy_in_tb (i := 478) (by decide +kernel) rfl
theorem ml_X0_97 : Cond.methodLink RX0 97 yX0_lowFor ∈ hy_WT := hy_in_tb (i := 482) (by decide +kernel) rfl
theorem ml_X0_103 : Cond.methodLink RX0 103 yX0_addLoad ∈ hy_WT := hy_in_tb (i := 486) (by decide +kernel) rfl
theorem ml_X0_109 : Cond.methodLink RX0 109 yX0_loadsFit ∈ hy_WT := hy_in_tb (i := 490) (by decide +kernel) rfl
theorem ml_X1_9 : Cond.methodLink RX1 9 yJ6_bitCount_0f7a4 ∈ hy_WT := hy_in_tb (i := 372) (by decide +kernel) rfl
theorem ml_X1_15 : Cond.methodLink RX1 15 yX1_mayBe ∈ hy_WT := hy_in_tb (i := 369) (by decide +kernel) rfl
theorem ml_X1_21 : Cond.methodLink RX1 21 yX1_codeOfRank ∈ hy_WT := hy_in_tb (i := 366) (by decide +kernel) rfl
theorem ml_X1_25 : Cond.methodLink RX1 25 yX1_widthOf ∈ hy_WT := hy_in_tb (i := 373) (by decide +kernel) rfl
theorem ml_X2_20 : Cond.methodLink RX2 20 arraycopyName ∈ hy_WT := hy_in_tb (i := 537) (by decide +kernel) rfl
theorem ml_X2_26 : Cond.methodLink RX2 26 yX2_outOf ∈ hy_WT := hy_in_tb (i := 542) (by decide +kernel) rfl
theorem ml_X3_20 : Cond.methodLink RX3 20 yX3_hasPlace ∈ hy_WT := hy_in_tb (i := 690) (by decide +kernel) rfl
theorem ml_X4_19 : Cond.methodLink RX4 19 yX4_append ∈ hy_WT := hy_in_tb (i := 598) (by decide +kernel) rfl
theorem ml_X4_23 : Cond.methodLink RX4 23 yX2_outOf ∈ hy_WT := hy_in_tb (i := 599) (by decide +kernel) rfl
theorem ml_X5_31 : Cond.methodLink RX5 31 arraycopyName ∈ hy_WT := hy_in_tb (i := 630) (by decide +kernel) rfl
theorem ml_X5_38 : Cond.methodLink RX5 38 yX7_needOf ∈ hy_WT := hy_in_tb (i := 617) (by decide +kernel) rfl
theorem ml_X5_47 : Cond.methodLink RX5 47 yX5_moveTo ∈ hy_WT := hy_in_tb (i := 618) (by decide +kernel) rfl
theorem ml_X6_19 : Cond.methodLink RX6 19 yJ6_bitCount_0f7a4 ∈ hy_WT := hy_in_tb (i := 262) (by decide +kernel) rfl
theorem ml_X6_25 : Cond.methodLink RX6 25 yX6_firstLetterFrom ∈ hy_WT := hy_in_tb (i := 268) (by decide +kernel) rfl
theorem ml_X6_28 : Cond.methodLink RX6 28 yX6_figureAt ∈ hy_WT := hy_in_tb (i := 296) (by decide +kernel) rfl
theorem ml_X7_56 : Cond.methodLink RX7 56 arraycopyName ∈ hy_WT := hy_in_tb (i := 699) (by decide +kernel) rfl
theorem ml_X7_62 : Cond.methodLink RX7 62 yX2_become ∈ hy_WT := hy_in_tb (i := 700) (by decide +kernel) rfl
theorem ml_X7_74 : Cond.methodLink RX7 74 yX7_addWanted ∈ hy_WT := hy_in_tb (i := 276) (by decide +kernel) rfl
theorem ml_X7_78 : Cond.methodLink RX7 78 yX7_becomeCleared ∈ hy_WT := hy_in_tb (i := 280) (by decide +kernel) rfl
theorem ml_X7_81 : Cond.methodLink RX7 81 yX2_empty ∈ hy_WT := hy_in_tb (i := 284) (by decide +kernel) rfl
theorem ml_X7_84 : Cond.methodLink RX7 84 yX7_wantedAt ∈ hy_WT := hy_in_tb (i := 334) (by decide +kernel) rfl
theorem ml_X7_88 : Cond.methodLink RX7 88 yX7_isCut ∈ hy_WT := hy_in_tb (i := 330) (by decide +kernel) rfl
theorem ml_X7_92 : Cond.methodLink RX7 92 yX7_chainsOf ∈ hy_WT := hy_in_tb (i := 356) (by decide +kernel) rfl
theorem ml_X7_96 : Cond.methodLink RX7 96 Lib.Math.max.name ∈ hy_WT := hy_in_tb (i := 360) (by decide +kernel) rfl
theorem ml_X7_104 : Cond.methodLink RX7 104 yX1_widthOf ∈ hy_WT := hy_in_tb (i := 426) (by decide +kernel) rfl
theorem ml_X7_110 : Cond.methodLink RX7 110 yJ6_bitCount_0f7a4 ∈ hy_WT := hy_in_tb (i := 446) (by decide +kernel) rfl
theorem ml_X7_115 : Cond.methodLink RX7 115 yX1_mayBe ∈ hy_WT := hy_in_tb (i := 439) (by decide +kernel) rfl
theorem ml_X7_119 : Cond.methodLink RX7 119 yX7_firstNotRight ∈ hy_WT := hy_in_tb (i := 440) (by decide +kernel) rfl
theorem ml_X7_123 : Cond.methodLink RX7 123 yX7_loadOf ∈ hy_WT := hy_in_tb (i := 441) (by decide +kernel) rfl
theorem ml_X7_127 : Cond.methodLink RX7 127 yX2_outOf ∈ hy_WT := hy_in_tb (i := 521) (by decide +kernel) rfl
theorem ml_X7_130 : Cond.methodLink RX7 130 yX7_laneBehind ∈ hy_WT := hy_in_tb (i := 517) (by decide +kernel) rfl
theorem ml_X7_134 : Cond.methodLink RX7 134 yX2_append ∈ hy_WT := hy_in_tb (i := 524) (by decide +kernel) rfl
theorem ml_X7_143 : Cond.methodLink RX7 143 yX7_humpInto ∈ hy_WT := hy_in_tb (i := 651) (by decide +kernel) rfl
theorem ml_X7_147 : Cond.methodLink RX7 147 yX7_pullIn ∈ hy_WT := hy_in_tb (i := 652) (by decide +kernel) rfl
theorem ml_X7_151 : Cond.methodLink RX7 151 yX7_lengthsOn ∈ hy_WT := hy_in_tb (i := 532) (by decide +kernel) rfl
theorem ml_X9_51 : Cond.methodLink RX9 51 yX9_isIn ∈ hy_WT := hy_in_tb (i := 785) (by decide +kernel) rfl
theorem ml_X9_57 : Cond.methodLink RX9 57 yX9_ones ∈ hy_WT := hy_in_tb (i := 801) (by decide +kernel) rfl
theorem ml_X9_71 : Cond.methodLink RX9 71 yX9_has ∈ hy_WT := hy_in_tb (i := 798) (by decide +kernel) rfl
theorem ml_X9_75 : Cond.methodLink RX9 75 yX9_yardFault ∈ hy_WT := hy_in_tb (i := 793) (by decide +kernel) rfl
theorem ml_X9_79 : Cond.methodLink RX9 79 yX9_clears ∈ hy_WT := hy_in_tb (i := 804) (by decide +kernel) rfl
theorem ml_X9_86 : Cond.methodLink RX9 86 yX9_isWagon ∈ hy_WT := hy_in_tb (i := 818) (by decide +kernel) rfl
theorem ml_X9_92 : Cond.methodLink RX9 92 yX9_isTrack ∈ hy_WT := hy_in_tb (i := 827) (by decide +kernel) rfl
theorem ml_X9_97 : Cond.methodLink RX9 97 yX9_wantedAt ∈ hy_WT := hy_in_tb (i := 844) (by decide +kernel) rfl
theorem ml_X9_101 : Cond.methodLink RX9 101 yX9_chainsOf ∈ hy_WT := hy_in_tb (i := 868) (by decide +kernel) rfl
theorem ml_X9_104 : Cond.methodLink RX9 104 yX9_mayBe ∈ hy_WT := hy_in_tb (i := 876) (by decide +kernel) rfl
theorem ml_X9_107 : Cond.methodLink RX9 107 yX9_placeOf ∈ hy_WT := hy_in_tb (i := 840) (by decide +kernel) rfl
theorem ml_X9_110 : Cond.methodLink RX9 110 yX9_asTheyAre ∈ hy_WT := hy_in_tb (i := 860) (by decide +kernel) rfl
theorem ml_X9_113 : Cond.methodLink RX9 113 yX9_need ∈ hy_WT := hy_in_tb (i := 864) (by decide +kernel) rfl
theorem ml_X9_116 : Cond.methodLink RX9 116 yX9_fewestFor ∈ hy_WT := hy_in_tb (i := 872) (by decide +kernel) rfl
theorem ml_X9_119 : Cond.methodLink RX9 119 yX9_chainOf ∈ hy_WT := hy_in_tb (i := 848) (by decide +kernel) rfl
theorem ml_X9_122 : Cond.methodLink RX9 122 yX9_whereIs ∈ hy_WT := hy_in_tb (i := 852) (by decide +kernel) rfl
theorem ml_X9_125 : Cond.methodLink RX9 125 yX9_fewestNow ∈ hy_WT := hy_in_tb (i := 856) (by decide +kernel) rfl
theorem ml_X9_128 : Cond.methodLink RX9 128 yX9_codeOf ∈ hy_WT := hy_in_tb (i := 879) (by decide +kernel) rfl
theorem ml_X9_131 : Cond.methodLink RX9 131 yX9_isTrain ∈ hy_WT := hy_in_tb (i := 887) (by decide +kernel) rfl
theorem ml_X9_136 : Cond.methodLink RX9 136 yX9_lengthsOn ∈ hy_WT := hy_in_tb (i := 895) (by decide +kernel) rfl
theorem ml_X9_139 : Cond.methodLink RX9 139 yX9_loadOf ∈ hy_WT := hy_in_tb (i := 899) (by decide +kernel) rfl
theorem ml_X9_144 : Cond.methodLink RX9 144 yX9_mayAll ∈ hy_WT := hy_in_tb (i := 912) (by decide +kernel) rfl
theorem ml_X9_149 : Cond.methodLink RX9 149 yX9_stepsOf ∈ hy_WT := hy_in_tb (i := 925) (by decide +kernel) rfl
theorem ml_X9_152 : Cond.methodLink RX9 152 yX9_stepsNow ∈ hy_WT := hy_in_tb (i := 921) (by decide +kernel) rfl
theorem ml_X9_155 : Cond.methodLink RX9 155 yX9_notRight ∈ hy_WT := hy_in_tb (i := 932) (by decide +kernel) rfl
theorem ml_X9_158 : Cond.methodLink RX9 158 yX9_mayAllCodes ∈ hy_WT := hy_in_tb (i := 936) (by decide +kernel) rfl
theorem ml_X9_162 : Cond.methodLink RX9 162 yX9_tooLoaded ∈ hy_WT := hy_in_tb (i := 940) (by decide +kernel) rfl
theorem ml_X9_165 : Cond.methodLink RX9 165 yX9_rollsNow ∈ hy_WT := hy_in_tb (i := 944) (by decide +kernel) rfl
theorem ml_X9_174 : Cond.methodLink RX9 174 yX9_loads ∈ hy_WT := hy_in_tb (i := 968) (by decide +kernel) rfl
theorem ml_X9_178 : Cond.methodLink RX9 178 yX9_isRoomy ∈ hy_WT := hy_in_tb (i := 972) (by decide +kernel) rfl
theorem ml_X9_181 : Cond.methodLink RX9 181 yX9_isHopeless ∈ hy_WT := hy_in_tb (i := 976) (by decide +kernel) rfl
theorem ml_X9_184 : Cond.methodLink RX9 184 yX9_orders ∈ hy_WT := hy_in_tb (i := 956) (by decide +kernel) rfl
theorem ml_X9_187 : Cond.methodLink RX9 187 yX9_isBest ∈ hy_WT := hy_in_tb (i := 960) (by decide +kernel) rfl
theorem ml_X9_190 : Cond.methodLink RX9 190 yX9_goesOn ∈ hy_WT := hy_in_tb (i := 964) (by decide +kernel) rfl
theorem ml_X9_193 : Cond.methodLink RX9 193 yX9_lowAt ∈ hy_WT := hy_in_tb (i := 980) (by decide +kernel) rfl
theorem ml_X9_196 : Cond.methodLink RX9 196 yX9_isBetter ∈ hy_WT := hy_in_tb (i := 984) (by decide +kernel) rfl
theorem ml_X9_199 : Cond.methodLink RX9 199 yX9_findBounded ∈ hy_WT := hy_in_tb (i := 952) (by decide +kernel) rfl
theorem ml_X9_202 : Cond.methodLink RX9 202 yX9_common ∈ hy_WT := hy_in_tb (i := 999) (by decide +kernel) rfl
theorem ml_X9_206 : Cond.methodLink RX9 206 yX9_partOf ∈ hy_WT := hy_in_tb (i := 996) (by decide +kernel) rfl
theorem ml_X9_219 : Cond.methodLink RX9 219 yX9_says ∈ hy_WT := hy_in_tb (i := 1019) (by decide +kernel) rfl
theorem ml_X9_223 : Cond.methodLink RX9 223 yX9_rolls ∈ hy_WT := hy_in_tb (i := 1015) (by decide +kernel) rfl
theorem ml_X9_226 : Cond.methodLink RX9 226 yX9_copies ∈ hy_WT := hy_in_tb (i := 1007) (by decide +kernel) rfl
theorem ml_X9_230 : Cond.methodLink RX9 230 yX9_humps ∈ hy_WT := hy_in_tb (i := 1011) (by decide +kernel) rfl
theorem ml_X9_233 : Cond.methodLink RX9 233 yX9_isOver ∈ hy_WT := hy_in_tb (i := 1023) (by decide +kernel) rfl
theorem ml_X9_236 : Cond.methodLink RX9 236 yX9_outs ∈ hy_WT := hy_in_tb (i := 1027) (by decide +kernel) rfl
theorem ml_X9_239 : Cond.methodLink RX9 239 yX9_pulls ∈ hy_WT := hy_in_tb (i := 1035) (by decide +kernel) rfl
theorem ml_X9_242 : Cond.methodLink RX9 242 yX9_wrongOf ∈ hy_WT := hy_in_tb (i := 1051) (by decide +kernel) rfl
theorem ml_X9_249 : Cond.methodLink RX9 249 yX9_pullsFault ∈ hy_WT := hy_in_tb (i := 1060) (by decide +kernel) rfl
theorem ml_X9_252 : Cond.methodLink RX9 252 yX9_replayed ∈ hy_WT := hy_in_tb (i := 1065) (by decide +kernel) rfl
theorem ml_X9_258 : Cond.methodLink RX9 258 yX9_wholeRun ∈ hy_WT := hy_in_tb (i := 1073) (by decide +kernel) rfl
theorem ml_X9_261 : Cond.methodLink RX9 261 yX9_moves ∈ hy_WT := hy_in_tb (i := 1085) (by decide +kernel) rfl
theorem ml_X9_265 : Cond.methodLink RX9 265 yX9_draws ∈ hy_WT := hy_in_tb (i := 1093) (by decide +kernel) rfl
theorem ml_X9_272 : Cond.methodLink RX9 272 yX9_isList ∈ hy_WT := hy_in_tb (i := 1108) (by decide +kernel) rfl
theorem ml_X9_275 : Cond.methodLink RX9 275 yX9_isSeen ∈ hy_WT := hy_in_tb (i := 1111) (by decide +kernel) rfl
theorem ml_X9_278 : Cond.methodLink RX9 278 yX9_judged ∈ hy_WT := hy_in_tb (i := 1119) (by decide +kernel) rfl
theorem ml_X9_284 : Cond.methodLink RX9 284 yX9_lying ∈ hy_WT := hy_in_tb (i := 1151) (by decide +kernel) rfl
set_option maxRecDepth 100000 in
theorem yv_X7_wantedAt : hy_yv yX7_wantedAt cX7_wantedAt 3 2 6 (some .int) := ⟨hy_in_tb (i := 335) (by decide +kernel) rfl, hy_in_tb (i := 336) (by decide +kernel) rfl, hy_in_tb (i := 2) (by decide +kernel) rfl, hy_in_tb (i := 337) rfl rfl, by decide +kernel, _, rfl, rfl⟩
set_option maxRecDepth 100000 in
theorem yv_X7_isCut : hy_yv yX7_isCut cX7_isCut 4 3 6 (some .boolean) := ⟨hy_in_tb (i := 332) (by decide +kernel) rfl, hy_in_sel (i := 2) (by decide +kernel) rfl, hy_in_tb (i := 2) (by decide +kernel) rfl, hy_in_tb (i := 333) rfl rfl, by decide +kernel, _, rfl, rfl⟩
set_option maxRecDepth 100000 in
theorem yv_X7_chainOf : hy_yv yX7_chainOf cX7_chainOf 4 1 6 (some .int) := ⟨hy_in_tb (i := 325) (by decide +kernel) rfl, hy_in_tb (i := 326) (by decide +kernel) rfl, hy_in_tb (i := 2) (by decide +kernel) rfl, hy_in_tb (i := 327) rfl rfl, by decide +kernel, _, rfl, rfl⟩
set_option maxRecDepth 100000 in
theorem ys_J6_bitCount_0f7a4 : hy_ys yJ6_bitCount_0f7a4 cJ6_bitCount_0f7a4 1 1 (some .int) := ⟨hy_in_tb (i := 263) (by decide +kernel) rfl, hy_in_tb (i := 10) (by decide +kernel) rfl, hy_in_tb (i := 264) rfl rfl, by decide +kernel⟩
set_option maxRecDepth 100000 in
theorem ys_X1_mayBe : hy_ys yX1_mayBe cX1_mayBe 3 2 (some .boolean) := ⟨hy_in_tb (i := 370) (by decide +kernel) rfl, hy_in_tb (i := 12) (by decide +kernel) rfl, hy_in_tb (i := 371) rfl rfl, by decide +kernel⟩
set_option maxRecDepth 100000 in
theorem yv_X0_allowBelow : hy_yv yX0_allowBelow cX0_allowBelow 4 2 0 none := ⟨hy_in_tb (i := 458) (by decide +kernel) rfl, hy_in_sel (i := 6) (by decide +kernel) rfl, hy_in_tb (i := 7) (by decide +kernel) rfl, hy_in_tb (i := 459) rfl rfl, by decide +kernel, _, rfl, rfl⟩
set_option maxRecDepth 100000 in
theorem yv_X0_highest : hy_yv yX0_highest cX0_highest 5 2 0 (some .int) := ⟨hy_in_tb (i := 467) (by decide +kernel) rfl, hy_in_sel (i := 8) (by decide +kernel) rfl, hy_in_tb (i := 7) (by decide +kernel) rfl, hy_in_tb (i := 468) rfl rfl, by decide +kernel, _, rfl, rfl⟩
set_option maxRecDepth 100000 in
theorem yv_X0_foresee : hy_yv yX0_foresee cX0_foresee 5 1 0 none := ⟨hy_in_tb (i := 463) (by decide +kernel) rfl, hy_in_sel (i := 7) (by decide +kernel) rfl, hy_in_tb (i := 7) (by decide +kernel) rfl, hy_in_tb (i := 464) rfl rfl, by decide +kernel, _, rfl, rfl⟩
set_option maxRecDepth 100000 in
theorem yv_X0_highFor : hy_yv yX0_highFor cX0_highFor 6 2 0 (some .int) := ⟨hy_in_tb (i := 480) (by decide +kernel) rfl, hy_in_sel (i := 10) (by decide +kernel) rfl, hy_in_tb (i := 7) (by decide +kernel) rfl, hy_in_tb (i := 481) rfl rfl, by decide +kernel, _, rfl, rfl⟩
set_option maxRecDepth 100000 in
theorem yv_X0_lowFor : hy_yv yX0_lowFor cX0_lowFor 6 2 0 (some .int) := ⟨hy_in_tb (i := 484) (by decide +kernel) rfl, hy_in_sel (i := 11) (by decide +kernel) rfl, hy_in_tb (i := 7) (by decide +kernel) rfl, hy_in_tb (i := 485) rfl rfl, by decide +kernel, _, rfl, rfl⟩
set_option maxRecDepth 100000 in
theorem yv_X0_addLoad : hy_yv yX0_addLoad cX0_addLoad 4 2 0 none := ⟨hy_in_tb (i := 488) (by decide +kernel) rfl, hy_in_sel (i := 12) (by decide +kernel) rfl, hy_in_tb (i := 7) (by decide +kernel) rfl, hy_in_tb (i := 489) rfl rfl, by decide +kernel, _, rfl, rfl⟩
set_option maxRecDepth 100000 in
theorem yv_X0_loadsFit : hy_yv yX0_loadsFit cX0_loadsFit 3 1 0 (some .boolean) := ⟨hy_in_tb (i := 492) (by decide +kernel) rfl, hy_in_sel (i := 13) (by decide +kernel) rfl, hy_in_tb (i := 7) (by decide +kernel) rfl, hy_in_tb (i := 493) rfl rfl, by decide +kernel, _, rfl, rfl⟩
set_option maxRecDepth 100000 in
theorem yv_X0_choose : hy_yv yX0_choose cX0_choose 8 3 0 none := ⟨hy_in_tb (i := 476) (by decide +kernel) rfl, hy_in_sel (i := 9) (by decide +kernel) rfl, hy_in_tb (i := 7) (by decide +kernel) rfl, hy_in_tb (i := 477) rfl rfl, by decide +kernel, _, rfl, rfl⟩
set_option maxRecDepth 100000 in
theorem yv_X0_findBest : hy_yv yX0_findBest cX0_findBest 3 1 0 (some .boolean) := ⟨hy_in_tb (i := 452) (by decide +kernel) rfl, hy_in_tb (i := 453) (by decide +kernel) rfl, hy_in_tb (i := 7) (by decide +kernel) rfl, hy_in_tb (i := 454) rfl rfl, by decide +kernel, _, rfl, rfl⟩
set_option maxRecDepth 100000 in
theorem ys_X1_howMany : hy_ys yX1_howMany cX1_howMany 3 1 (some .int) := ⟨hy_in_tb (i := 415) (by decide +kernel) rfl, hy_in_tb (i := 12) (by decide +kernel) rfl, hy_in_tb (i := 416) rfl rfl, by decide +kernel⟩
set_option maxRecDepth 100000 in
theorem ys_X1_codeOfRank : hy_ys yX1_codeOfRank cX1_codeOfRank 4 2 (some .int) := ⟨hy_in_tb (i := 367) (by decide +kernel) rfl, hy_in_tb (i := 12) (by decide +kernel) rfl, hy_in_tb (i := 368) rfl rfl, by decide +kernel⟩
set_option maxRecDepth 100000 in
theorem ys_X1_widthOf : hy_ys yX1_widthOf cX1_widthOf 2 1 (some .int) := ⟨hy_in_tb (i := 374) (by decide +kernel) rfl, hy_in_tb (i := 12) (by decide +kernel) rfl, hy_in_tb (i := 375) rfl rfl, by decide +kernel⟩
set_option maxRecDepth 100000 in
theorem ys_X1_fewestFor : hy_ys yX1_fewestFor cX1_fewestFor 2 2 (some .int) := ⟨hy_in_tb (i := 364) (by decide +kernel) rfl, hy_in_tb (i := 12) (by decide +kernel) rfl, hy_in_tb (i := 365) rfl rfl, by decide +kernel⟩
set_option maxRecDepth 100000 in
theorem ys_X2_outOf : hy_ys yX2_outOf cX2_outOf 1 1 (some .int) := ⟨hy_in_tb (i := 522) (by decide +kernel) rfl, hy_in_tb (i := 3) (by decide +kernel) rfl, hy_in_tb (i := 523) rfl rfl, by decide +kernel⟩
set_option maxRecDepth 100000 in
theorem yv_X2_empty : hy_yv yX2_empty cX2_empty 2 0 1 none := ⟨hy_in_tb (i := 285) (by decide +kernel) rfl, hy_in_tb (i := 286) (by decide +kernel) rfl, hy_in_tb (i := 3) (by decide +kernel) rfl, hy_in_tb (i := 287) rfl rfl, by decide +kernel, _, rfl, rfl⟩
set_option maxRecDepth 100000 in
theorem yv_X2_become : hy_yv yX2_become cX2_become 3 1 1 none := ⟨hy_in_tb (i := 534) (by decide +kernel) rfl, hy_in_tb (i := 535) (by decide +kernel) rfl, hy_in_tb (i := 3) (by decide +kernel) rfl, hy_in_tb (i := 536) rfl rfl, by decide +kernel, _, rfl, rfl⟩
set_option maxRecDepth 100000 in
theorem yv_X2_append : hy_yv yX2_append cX2_append 3 2 1 none := ⟨hy_in_tb (i := 525) (by decide +kernel) rfl, hy_in_tb (i := 526) (by decide +kernel) rfl, hy_in_tb (i := 3) (by decide +kernel) rfl, hy_in_tb (i := 527) rfl rfl, by decide +kernel, _, rfl, rfl⟩
set_option maxRecDepth 100000 in
theorem yv_X2_wagonAt : hy_yv yX2_wagonAt cX2_wagonAt 3 2 1 (some .int) := ⟨hy_in_tb (i := 402) (by decide +kernel) rfl, hy_in_tb (i := 403) (by decide +kernel) rfl, hy_in_tb (i := 3) (by decide +kernel) rfl, hy_in_tb (i := 404) rfl rfl, by decide +kernel, _, rfl, rfl⟩
set_option maxRecDepth 100000 in
theorem yv_X2_laneOf : hy_yv yX2_laneOf cX2_laneOf 4 1 1 (some .int) := ⟨hy_in_tb (i := 343) (by decide +kernel) rfl, hy_in_tb (i := 344) (by decide +kernel) rfl, hy_in_tb (i := 3) (by decide +kernel) rfl, hy_in_tb (i := 345) rfl rfl, by decide +kernel, _, rfl, rfl⟩
set_option maxRecDepth 100000 in
theorem yv_X2_countOut : hy_yv yX2_countOut cX2_countOut 1 0 1 (some .int) := ⟨hy_in_tb (i := 539) (by decide +kernel) rfl, hy_in_tb (i := 540) (by decide +kernel) rfl, hy_in_tb (i := 3) (by decide +kernel) rfl, hy_in_tb (i := 541) rfl rfl, by decide +kernel, _, rfl, rfl⟩
set_option maxRecDepth 100000 in
theorem yv_X2_countOnTracks : hy_yv yX2_countOnTracks cX2_countOnTracks 3 0 1 (some .int) := ⟨hy_in_tb (i := 710) (by decide +kernel) rfl, hy_in_tb (i := 711) (by decide +kernel) rfl, hy_in_tb (i := 3) (by decide +kernel) rfl, hy_in_tb (i := 712) rfl rfl, by decide +kernel, _, rfl, rfl⟩
set_option maxRecDepth 100000 in
theorem yv_X2_tracksInUse : hy_yv yX2_tracksInUse cX2_tracksInUse 3 0 1 (some .int) := ⟨hy_in_tb (i := 578) (by decide +kernel) rfl, hy_in_tb (i := 579) (by decide +kernel) rfl, hy_in_tb (i := 3) (by decide +kernel) rfl, hy_in_tb (i := 580) rfl rfl, by decide +kernel, _, rfl, rfl⟩
set_option maxRecDepth 100000 in
theorem ys_X3_isList : hy_ys yX3_isList cX3_isList 1 1 (some .boolean) := ⟨hy_in_tb (i := 641) (by decide +kernel) rfl, hy_in_tb (i := 6) (by decide +kernel) rfl, hy_in_tb (i := 642) rfl rfl, by decide +kernel⟩
set_option maxRecDepth 100000 in
theorem yv_X3_holds : hy_yv yX3_holds cX3_holds 2 1 2 (some .boolean) := ⟨hy_in_tb (i := 644) (by decide +kernel) rfl, hy_in_tb (i := 645) (by decide +kernel) rfl, hy_in_tb (i := 6) (by decide +kernel) rfl, hy_in_tb (i := 646) rfl rfl, by decide +kernel, _, rfl, rfl⟩
set_option maxRecDepth 100000 in
theorem yv_X3_hasPlace : hy_yv yX3_hasPlace cX3_hasPlace 3 2 2 (some .boolean) := ⟨hy_in_tb (i := 675) (by decide +kernel) rfl, hy_in_tb (i := 676) (by decide +kernel) rfl, hy_in_tb (i := 6) (by decide +kernel) rfl, hy_in_tb (i := 677) rfl rfl, by decide +kernel, _, rfl, rfl⟩
set_option maxRecDepth 100000 in
theorem yv_X3_makeZeros : hy_yv yX3_makeZeros cX3_makeZeros 4 2 2 none := ⟨hy_in_tb (i := 667) (by decide +kernel) rfl, hy_in_tb (i := 668) (by decide +kernel) rfl, hy_in_tb (i := 6) (by decide +kernel) rfl, hy_in_tb (i := 669) rfl rfl, by decide +kernel, _, rfl, rfl⟩
set_option maxRecDepth 100000 in
theorem yv_X3_layRow : hy_yv yX3_layRow cX3_layRow 6 4 2 (some .int) := ⟨hy_in_tb (i := 687) (by decide +kernel) rfl, hy_in_tb (i := 688) (by decide +kernel) rfl, hy_in_tb (i := 6) (by decide +kernel) rfl, hy_in_tb (i := 689) rfl rfl, by decide +kernel, _, rfl, rfl⟩
set_option maxRecDepth 100000 in
theorem yv_X4_append : hy_yv yX4_append cX4_append 2 1 3 none := ⟨hy_in_tb (i := 590) (by decide +kernel) rfl, hy_in_tb (i := 591) (by decide +kernel) rfl, hy_in_tb (i := 5) (by decide +kernel) rfl, hy_in_tb (i := 592) rfl rfl, by decide +kernel, _, rfl, rfl⟩
set_option maxRecDepth 100000 in
theorem yv_X4_appendRoll : hy_yv yX4_appendRoll cX4_appendRoll 3 2 3 none := ⟨hy_in_tb (i := 595) (by decide +kernel) rfl, hy_in_tb (i := 596) (by decide +kernel) rfl, hy_in_tb (i := 5) (by decide +kernel) rfl, hy_in_tb (i := 597) rfl rfl, by decide +kernel, _, rfl, rfl⟩
set_option maxRecDepth 100000 in
theorem yv_X5_drawRow : hy_yv yX5_drawRow cX5_drawRow 7 2 4 none := ⟨hy_in_tb (i := 627) (by decide +kernel) rfl, hy_in_tb (i := 628) (by decide +kernel) rfl, hy_in_tb (i := 8) (by decide +kernel) rfl, hy_in_tb (i := 629) rfl rfl, by decide +kernel, _, rfl, rfl⟩
set_option maxRecDepth 100000 in
theorem yv_X7_chainsOf : hy_yv yX7_chainsOf cX7_chainsOf 5 2 6 (some .int) := ⟨hy_in_tb (i := 357) (by decide +kernel) rfl, hy_in_tb (i := 358) (by decide +kernel) rfl, hy_in_tb (i := 2) (by decide +kernel) rfl, hy_in_tb (i := 359) rfl rfl, by decide +kernel, _, rfl, rfl⟩
set_option maxRecDepth 100000 in
theorem yv_X7_needOf : hy_yv yX7_needOf cX7_needOf 2 1 6 (some .int) := ⟨hy_in_tb (i := 353) (by decide +kernel) rfl, hy_in_tb (i := 354) (by decide +kernel) rfl, hy_in_tb (i := 2) (by decide +kernel) rfl, hy_in_tb (i := 355) rfl rfl, by decide +kernel, _, rfl, rfl⟩
set_option maxRecDepth 100000 in
theorem yv_X5_moveTo : hy_yv yX5_moveTo cX5_moveTo 6 3 4 none := ⟨hy_in_tb (i := 620) (by decide +kernel) rfl, hy_in_sel (i := 17) (by decide +kernel) rfl, hy_in_tb (i := 8) (by decide +kernel) rfl, hy_in_tb (i := 621) rfl rfl, by decide +kernel, _, rfl, rfl⟩
set_option maxRecDepth 100000 in
theorem yv_X5_findElsewhere : hy_yv yX5_findElsewhere cX5_findElsewhere 5 1 4 (some .boolean) := ⟨hy_in_tb (i := 613) (by decide +kernel) rfl, hy_in_tb (i := 614) (by decide +kernel) rfl, hy_in_tb (i := 8) (by decide +kernel) rfl, hy_in_tb (i := 615) rfl rfl, by decide +kernel, _, rfl, rfl⟩
set_option maxRecDepth 100000 in
theorem ys_X6_takes : hy_ys yX6_takes cX6_takes 1 1 (some .boolean) := ⟨hy_in_tb (i := 248) (by decide +kernel) rfl, hy_in_tb (i := 4) (by decide +kernel) rfl, hy_in_tb (i := 249) rfl rfl, by decide +kernel⟩
set_option maxRecDepth 100000 in
theorem yv_X6_append : hy_yv yX6_append cX6_append 2 1 5 none := ⟨hy_in_tb (i := 251) (by decide +kernel) rfl, hy_in_tb (i := 252) (by decide +kernel) rfl, hy_in_tb (i := 4) (by decide +kernel) rfl, hy_in_tb (i := 253) rfl rfl, by decide +kernel, _, rfl, rfl⟩
set_option maxRecDepth 100000 in
theorem yv_X6_figureAt : hy_yv yX6_figureAt cX6_figureAt 2 1 5 (some .int) := ⟨hy_in_tb (i := 297) (by decide +kernel) rfl, hy_in_tb (i := 298) (by decide +kernel) rfl, hy_in_tb (i := 4) (by decide +kernel) rfl, hy_in_tb (i := 299) rfl rfl, by decide +kernel, _, rfl, rfl⟩
set_option maxRecDepth 100000 in
theorem yv_X6_firstLetterFrom : hy_yv yX6_firstLetterFrom cX6_firstLetterFrom 3 1 5 (some .int) := ⟨hy_in_tb (i := 270) (by decide +kernel) rfl, hy_in_sel (i := 0) (by decide +kernel) rfl, hy_in_tb (i := 4) (by decide +kernel) rfl, hy_in_tb (i := 271) rfl rfl, by decide +kernel, _, rfl, rfl⟩
set_option maxRecDepth 100000 in
theorem yv_X6_faultOfYard : hy_yv yX6_faultOfYard cX6_faultOfYard 5 0 5 (some .int) := ⟨hy_in_tb (i := 259) (by decide +kernel) rfl, hy_in_tb (i := 260) (by decide +kernel) rfl, hy_in_tb (i := 4) (by decide +kernel) rfl, hy_in_tb (i := 261) rfl rfl, by decide +kernel, _, rfl, rfl⟩
set_option maxRecDepth 100000 in
theorem yv_X6_faultOfFigures : hy_yv yX6_faultOfFigures cX6_faultOfFigures 5 3 5 (some .int) := ⟨hy_in_tb (i := 293) (by decide +kernel) rfl, hy_in_tb (i := 294) (by decide +kernel) rfl, hy_in_tb (i := 4) (by decide +kernel) rfl, hy_in_tb (i := 295) rfl rfl, by decide +kernel, _, rfl, rfl⟩
set_option maxRecDepth 100000 in
theorem yv_X7_become : hy_yv yX7_become cX7_become 3 1 6 none := ⟨hy_in_tb (i := 696) (by decide +kernel) rfl, hy_in_tb (i := 697) (by decide +kernel) rfl, hy_in_tb (i := 2) (by decide +kernel) rfl, hy_in_tb (i := 698) rfl rfl, by decide +kernel, _, rfl, rfl⟩
set_option maxRecDepth 100000 in
theorem yv_X7_addWanted : hy_yv yX7_addWanted cX7_addWanted 3 2 6 none := ⟨hy_in_tb (i := 278) (by decide +kernel) rfl, hy_in_sel (i := 1) (by decide +kernel) rfl, hy_in_tb (i := 2) (by decide +kernel) rfl, hy_in_tb (i := 279) rfl rfl, by decide +kernel, _, rfl, rfl⟩
set_option maxRecDepth 100000 in
theorem yv_X7_becomeCleared : hy_yv yX7_becomeCleared cX7_becomeCleared 1 0 6 none := ⟨hy_in_tb (i := 281) (by decide +kernel) rfl, hy_in_tb (i := 282) (by decide +kernel) rfl, hy_in_tb (i := 2) (by decide +kernel) rfl, hy_in_tb (i := 283) rfl rfl, by decide +kernel, _, rfl, rfl⟩
set_option maxRecDepth 100000 in
theorem yv_X7_becomeNew : hy_yv yX7_becomeNew cX7_becomeNew 4 1 6 none := ⟨hy_in_tb (i := 273) (by decide +kernel) rfl, hy_in_tb (i := 274) (by decide +kernel) rfl, hy_in_tb (i := 2) (by decide +kernel) rfl, hy_in_tb (i := 275) rfl rfl, by decide +kernel, _, rfl, rfl⟩
set_option maxRecDepth 100000 in
theorem yv_X7_hasWagon : hy_yv yX7_hasWagon cX7_hasWagon 2 1 6 (some .boolean) := ⟨hy_in_tb (i := 306) (by decide +kernel) rfl, hy_in_tb (i := 307) (by decide +kernel) rfl, hy_in_tb (i := 2) (by decide +kernel) rfl, hy_in_tb (i := 308) rfl rfl, by decide +kernel, _, rfl, rfl⟩
set_option maxRecDepth 100000 in
theorem yv_X7_firstNotRight : hy_yv yX7_firstNotRight cX7_firstNotRight 7 1 6 (some .int) := ⟨hy_in_tb (i := 432) (by decide +kernel) rfl, hy_in_tb (i := 433) (by decide +kernel) rfl, hy_in_tb (i := 2) (by decide +kernel) rfl, hy_in_tb (i := 434) rfl rfl, by decide +kernel, _, rfl, rfl⟩
set_option maxRecDepth 100000 in
theorem yv_X7_loadOf : hy_yv yX7_loadOf cX7_loadOf 5 2 6 (some .int) := ⟨hy_in_tb (i := 398) (by decide +kernel) rfl, hy_in_tb (i := 399) (by decide +kernel) rfl, hy_in_tb (i := 2) (by decide +kernel) rfl, hy_in_tb (i := 400) rfl rfl, by decide +kernel, _, rfl, rfl⟩
set_option maxRecDepth 100000 in
theorem yv_X7_stepsOf : hy_yv yX7_stepsOf cX7_stepsOf 4 1 6 (some .int) := ⟨hy_in_tb (i := 423) (by decide +kernel) rfl, hy_in_tb (i := 424) (by decide +kernel) rfl, hy_in_tb (i := 2) (by decide +kernel) rfl, hy_in_tb (i := 425) rfl rfl, by decide +kernel, _, rfl, rfl⟩
set_option maxRecDepth 100000 in
theorem yv_X7_rollsOf : hy_yv yX7_rollsOf cX7_rollsOf 4 1 6 (some .int) := ⟨hy_in_tb (i := 443) (by decide +kernel) rfl, hy_in_tb (i := 444) (by decide +kernel) rfl, hy_in_tb (i := 2) (by decide +kernel) rfl, hy_in_tb (i := 445) rfl rfl, by decide +kernel, _, rfl, rfl⟩
set_option maxRecDepth 100000 in
theorem yv_X7_judgeCodes : hy_yv yX7_judgeCodes cX7_judgeCodes 5 2 6 (some .int) := ⟨hy_in_tb (i := 436) (by decide +kernel) rfl, hy_in_tb (i := 437) (by decide +kernel) rfl, hy_in_tb (i := 2) (by decide +kernel) rfl, hy_in_tb (i := 438) rfl rfl, by decide +kernel, _, rfl, rfl⟩
set_option maxRecDepth 100000 in
theorem yv_X7_laneBehind : hy_yv yX7_laneBehind cX7_laneBehind 5 3 6 (some .int) := ⟨hy_in_tb (i := 518) (by decide +kernel) rfl, hy_in_tb (i := 519) (by decide +kernel) rfl, hy_in_tb (i := 2) (by decide +kernel) rfl, hy_in_tb (i := 520) rfl rfl, by decide +kernel, _, rfl, rfl⟩
set_option maxRecDepth 100000 in
theorem yv_X7_humpInto : hy_yv yX7_humpInto cX7_humpInto 4 2 6 none := ⟨hy_in_tb (i := 514) (by decide +kernel) rfl, hy_in_tb (i := 515) (by decide +kernel) rfl, hy_in_tb (i := 2) (by decide +kernel) rfl, hy_in_tb (i := 516) rfl rfl, by decide +kernel, _, rfl, rfl⟩
set_option maxRecDepth 100000 in
theorem yv_X7_pullIn : hy_yv yX7_pullIn cX7_pullIn 7 3 6 (some .int) := ⟨hy_in_tb (i := 548) (by decide +kernel) rfl, hy_in_tb (i := 549) (by decide +kernel) rfl, hy_in_tb (i := 2) (by decide +kernel) rfl, hy_in_tb (i := 550) rfl rfl, by decide +kernel, _, rfl, rfl⟩
set_option maxRecDepth 100000 in
theorem yv_X7_runWhole : hy_yv yX7_runWhole cX7_runWhole 4 2 6 none := ⟨hy_in_tb (i := 648) (by decide +kernel) rfl, hy_in_tb (i := 649) (by decide +kernel) rfl, hy_in_tb (i := 2) (by decide +kernel) rfl, hy_in_tb (i := 650) rfl rfl, by decide +kernel, _, rfl, rfl⟩
set_option maxRecDepth 100000 in
theorem yv_X7_lengthsOn : hy_yv yX7_lengthsOn cX7_lengthsOn 5 2 6 (some .int) := ⟨hy_in_tb (i := 394) (by decide +kernel) rfl, hy_in_tb (i := 395) (by decide +kernel) rfl, hy_in_tb (i := 2) (by decide +kernel) rfl, hy_in_tb (i := 396) rfl rfl, by decide +kernel, _, rfl, rfl⟩
set_option maxRecDepth 100000 in
theorem yv_X7_isOverfull : hy_yv yX7_isOverfull cX7_isOverfull 3 1 6 (some .boolean) := ⟨hy_in_tb (i := 529) (by decide +kernel) rfl, hy_in_tb (i := 530) (by decide +kernel) rfl, hy_in_tb (i := 2) (by decide +kernel) rfl, hy_in_tb (i := 531) rfl rfl, by decide +kernel, _, rfl, rfl⟩
set_option maxRecDepth 100000 in
theorem yv_X7_firstWrong : hy_yv yX7_firstWrong cX7_firstWrong 5 2 6 (some .int) := ⟨hy_in_tb (i := 566) (by decide +kernel) rfl, hy_in_tb (i := 567) (by decide +kernel) rfl, hy_in_tb (i := 2) (by decide +kernel) rfl, hy_in_tb (i := 568) rfl rfl, by decide +kernel, _, rfl, rfl⟩
set_option maxRecDepth 100000 in
theorem yv_X8_feed : hy_yv yX8_feed cX8_feed 6 5 7 (some .int) := ⟨hy_in_tb (i := 244) (by decide +kernel) rfl, hy_in_tb (i := 245) (by decide +kernel) rfl, hy_in_tb (i := 1) (by decide +kernel) rfl, hy_in_tb (i := 246) rfl rfl, by decide +kernel, _, rfl, rfl⟩
set_option maxRecDepth 100000 in
theorem yv_X8_yard : hy_yv yX8_yard cX8_yard 2 0 7 (some .int) := ⟨hy_in_tb (i := 255) (by decide +kernel) rfl, hy_in_tb (i := 256) (by decide +kernel) rfl, hy_in_tb (i := 1) (by decide +kernel) rfl, hy_in_tb (i := 257) rfl rfl, by decide +kernel, _, rfl, rfl⟩
set_option maxRecDepth 100000 in
theorem yv_X8_codes : hy_yv yX8_codes cX8_codes 3 0 7 (some .int) := ⟨hy_in_tb (i := 289) (by decide +kernel) rfl, hy_in_tb (i := 290) (by decide +kernel) rfl, hy_in_tb (i := 1) (by decide +kernel) rfl, hy_in_tb (i := 291) rfl rfl, by decide +kernel, _, rfl, rfl⟩
set_option maxRecDepth 100000 in
theorem yv_X8_set : hy_yv yX8_set cX8_set 7 3 7 (some .int) := ⟨hy_in_tb (i := 302) (by decide +kernel) rfl, hy_in_tb (i := 303) (by decide +kernel) rfl, hy_in_tb (i := 1) (by decide +kernel) rfl, hy_in_tb (i := 304) rfl rfl, by decide +kernel, _, rfl, rfl⟩
set_option maxRecDepth 100000 in
theorem ys_X8_isTrack : hy_ys yX8_isTrack cX8_isTrack 1 1 (some .boolean) := ⟨hy_in_tb (i := 314) (by decide +kernel) rfl, hy_in_tb (i := 1) (by decide +kernel) rfl, hy_in_tb (i := 315) rfl rfl, by decide +kernel⟩
set_option maxRecDepth 100000 in
theorem yv_X8_room : hy_yv yX8_room cX8_room 4 2 7 (some .int) := ⟨hy_in_tb (i := 310) (by decide +kernel) rfl, hy_in_tb (i := 311) (by decide +kernel) rfl, hy_in_tb (i := 1) (by decide +kernel) rfl, hy_in_tb (i := 312) rfl rfl, by decide +kernel, _, rfl, rfl⟩
set_option maxRecDepth 100000 in
theorem yv_X8_brand : hy_yv yX8_brand cX8_brand 3 1 7 (some .int) := ⟨hy_in_tb (i := 317) (by decide +kernel) rfl, hy_in_tb (i := 318) (by decide +kernel) rfl, hy_in_tb (i := 1) (by decide +kernel) rfl, hy_in_tb (i := 319) rfl rfl, by decide +kernel, _, rfl, rfl⟩
set_option maxRecDepth 100000 in
theorem yv_X8_whereIs : hy_yv yX8_whereIs cX8_whereIs 3 1 7 (some .int) := ⟨hy_in_tb (i := 340) (by decide +kernel) rfl, hy_in_sel (i := 3) (by decide +kernel) rfl, hy_in_tb (i := 1) (by decide +kernel) rfl, hy_in_tb (i := 341) rfl rfl, by decide +kernel, _, rfl, rfl⟩
set_option maxRecDepth 100000 in
theorem yv_X8_fewestNow : hy_yv yX8_fewestNow cX8_fewestNow 1 0 7 (some .int) := ⟨hy_in_tb (i := 349) (by decide +kernel) rfl, hy_in_sel (i := 4) (by decide +kernel) rfl, hy_in_tb (i := 1) (by decide +kernel) rfl, hy_in_tb (i := 350) rfl rfl, by decide +kernel, _, rfl, rfl⟩
set_option maxRecDepth 100000 in
theorem yv_X8_presortedCode : hy_yv yX8_presortedCode cX8_presortedCode 2 1 7 (some .int) := ⟨hy_in_tb (i := 378) (by decide +kernel) rfl, hy_in_sel (i := 5) (by decide +kernel) rfl, hy_in_tb (i := 1) (by decide +kernel) rfl, hy_in_tb (i := 379) rfl rfl, by decide +kernel, _, rfl, rfl⟩
set_option maxRecDepth 100000 in
theorem yv_X8_wagon : hy_yv yX8_wagon cX8_wagon 3 2 7 (some .int) := ⟨hy_in_tb (i := 321) (by decide +kernel) rfl, hy_in_tb (i := 322) (by decide +kernel) rfl, hy_in_tb (i := 1) (by decide +kernel) rfl, hy_in_tb (i := 323) rfl rfl, by decide +kernel, _, rfl, rfl⟩
set_option maxRecDepth 100000 in
theorem ys_X8_isTrain : hy_ys yX8_isTrain cX8_isTrain 1 1 (some .boolean) := ⟨hy_in_tb (i := 386) (by decide +kernel) rfl, hy_in_tb (i := 1) (by decide +kernel) rfl, hy_in_tb (i := 387) rfl rfl, by decide +kernel⟩
set_option maxRecDepth 100000 in
theorem yv_X8_wanted : hy_yv yX8_wanted cX8_wanted 3 2 7 (some .int) := ⟨hy_in_tb (i := 382) (by decide +kernel) rfl, hy_in_tb (i := 383) (by decide +kernel) rfl, hy_in_tb (i := 1) (by decide +kernel) rfl, hy_in_tb (i := 384) rfl rfl, by decide +kernel, _, rfl, rfl⟩
set_option maxRecDepth 100000 in
theorem yv_X8_track : hy_yv yX8_track cX8_track 3 2 7 (some .int) := ⟨hy_in_tb (i := 390) (by decide +kernel) rfl, hy_in_tb (i := 391) (by decide +kernel) rfl, hy_in_tb (i := 1) (by decide +kernel) rfl, hy_in_tb (i := 392) rfl rfl, by decide +kernel, _, rfl, rfl⟩
set_option maxRecDepth 100000 in
theorem yv_X8_chains : hy_yv yX8_chains cX8_chains 2 1 7 (some .int) := ⟨hy_in_tb (i := 406) (by decide +kernel) rfl, hy_in_tb (i := 407) (by decide +kernel) rfl, hy_in_tb (i := 1) (by decide +kernel) rfl, hy_in_tb (i := 408) rfl rfl, by decide +kernel, _, rfl, rfl⟩
set_option maxRecDepth 100000 in
theorem yv_X8_fewest : hy_yv yX8_fewest cX8_fewest 2 1 7 (some .int) := ⟨hy_in_tb (i := 411) (by decide +kernel) rfl, hy_in_tb (i := 412) (by decide +kernel) rfl, hy_in_tb (i := 1) (by decide +kernel) rfl, hy_in_tb (i := 413) rfl rfl, by decide +kernel, _, rfl, rfl⟩
set_option maxRecDepth 100000 in
theorem yv_X8_presort : hy_yv yX8_presort cX8_presort 2 0 7 (some .int) := ⟨hy_in_tb (i := 419) (by decide +kernel) rfl, hy_in_tb (i := 420) (by decide +kernel) rfl, hy_in_tb (i := 1) (by decide +kernel) rfl, hy_in_tb (i := 421) rfl rfl, by decide +kernel, _, rfl, rfl⟩
set_option maxRecDepth 100000 in
theorem yv_X8_right : hy_yv yX8_right cX8_right 2 1 7 (some .int) := ⟨hy_in_tb (i := 428) (by decide +kernel) rfl, hy_in_tb (i := 429) (by decide +kernel) rfl, hy_in_tb (i := 1) (by decide +kernel) rfl, hy_in_tb (i := 430) rfl rfl, by decide +kernel, _, rfl, rfl⟩
set_option maxRecDepth 100000 in
theorem yv_X8_bounded : hy_yv yX8_bounded cX8_bounded 3 1 7 (some .int) := ⟨hy_in_tb (i := 448) (by decide +kernel) rfl, hy_in_tb (i := 449) (by decide +kernel) rfl, hy_in_tb (i := 1) (by decide +kernel) rfl, hy_in_tb (i := 450) rfl rfl, by decide +kernel, _, rfl, rfl⟩
set_option maxRecDepth 100000 in
theorem yv_X8_bind : hy_yv yX8_bind cX8_bind 1 0 7 (some .int) := ⟨hy_in_tb (i := 495) (by decide +kernel) rfl, hy_in_tb (i := 496) (by decide +kernel) rfl, hy_in_tb (i := 1) (by decide +kernel) rfl, hy_in_tb (i := 497) rfl rfl, by decide +kernel, _, rfl, rfl⟩
set_option maxRecDepth 100000 in
theorem ys_X8_partOfLowest : hy_ys yX8_partOfLowest cX8_partOfLowest 7 3 (some .long) := ⟨hy_in_tb (i := 507) (by decide +kernel) rfl, hy_in_tb (i := 1) (by decide +kernel) rfl, hy_in_tb (i := 508) rfl rfl, by decide +kernel⟩
set_option maxRecDepth 100000 in
theorem yv_X8_mean : hy_yv yX8_mean cX8_mean 2 1 7 (some .long) := ⟨hy_in_tb (i := 502) (by decide +kernel) rfl, hy_in_tb (i := 503) (by decide +kernel) rfl, hy_in_tb (i := 1) (by decide +kernel) rfl, hy_in_tb (i := 504) rfl rfl, by decide +kernel, _, rfl, rfl⟩
set_option maxRecDepth 100000 in
theorem yv_X8_hump : hy_yv yX8_hump cX8_hump 1 0 7 (some .int) := ⟨hy_in_tb (i := 510) (by decide +kernel) rfl, hy_in_tb (i := 511) (by decide +kernel) rfl, hy_in_tb (i := 1) (by decide +kernel) rfl, hy_in_tb (i := 512) rfl rfl, by decide +kernel, _, rfl, rfl⟩
set_option maxRecDepth 100000 in
theorem yv_X8_pull : hy_yv yX8_pull cX8_pull 3 1 7 (some .int) := ⟨hy_in_tb (i := 544) (by decide +kernel) rfl, hy_in_tb (i := 545) (by decide +kernel) rfl, hy_in_tb (i := 1) (by decide +kernel) rfl, hy_in_tb (i := 546) rfl rfl, by decide +kernel, _, rfl, rfl⟩
set_option maxRecDepth 100000 in
theorem yv_X8_clear : hy_yv yX8_clear cX8_clear 2 0 7 (some .int) := ⟨hy_in_tb (i := 552) (by decide +kernel) rfl, hy_in_tb (i := 553) (by decide +kernel) rfl, hy_in_tb (i := 1) (by decide +kernel) rfl, hy_in_tb (i := 554) rfl rfl, by decide +kernel, _, rfl, rfl⟩
set_option maxRecDepth 100000 in
theorem yv_X8_out : hy_yv yX8_out cX8_out 4 2 7 (some .int) := ⟨hy_in_tb (i := 557) (by decide +kernel) rfl, hy_in_tb (i := 558) (by decide +kernel) rfl, hy_in_tb (i := 1) (by decide +kernel) rfl, hy_in_tb (i := 559) rfl rfl, by decide +kernel, _, rfl, rfl⟩
set_option maxRecDepth 100000 in
theorem yv_X8_wrong : hy_yv yX8_wrong cX8_wrong 2 1 7 (some .int) := ⟨hy_in_tb (i := 562) (by decide +kernel) rfl, hy_in_tb (i := 563) (by decide +kernel) rfl, hy_in_tb (i := 1) (by decide +kernel) rfl, hy_in_tb (i := 564) rfl rfl, by decide +kernel, _, rfl, rfl⟩
set_option maxRecDepth 100000 in
theorem yv_X8_wrongInThought : hy_yv yX8_wrongInThought cX8_wrongInThought 3 1 7 (some .int) := ⟨hy_in_tb (i := 583) (by decide +kernel) rfl, hy_in_sel (i := 15) (by decide +kernel) rfl, hy_in_tb (i := 1) (by decide +kernel) rfl, hy_in_tb (i := 584) rfl rfl, by decide +kernel, _, rfl, rfl⟩
set_option maxRecDepth 100000 in
theorem yv_X8_replayed : hy_yv yX8_replayed cX8_replayed 5 1 7 (some .int) := ⟨hy_in_tb (i := 575) (by decide +kernel) rfl, hy_in_sel (i := 14) (by decide +kernel) rfl, hy_in_tb (i := 1) (by decide +kernel) rfl, hy_in_tb (i := 576) rfl rfl, by decide +kernel, _, rfl, rfl⟩
set_option maxRecDepth 100000 in
theorem yv_X8_replay : hy_yv yX8_replay cX8_replay 4 1 7 (some .int) := ⟨hy_in_tb (i := 570) (by decide +kernel) rfl, hy_in_tb (i := 571) (by decide +kernel) rfl, hy_in_tb (i := 1) (by decide +kernel) rfl, hy_in_tb (i := 572) rfl rfl, by decide +kernel, _, rfl, rfl⟩
set_option maxRecDepth 100000 in
theorem yv_X8_spellPull : hy_yv yX8_spellPull cX8_spellPull 5 1 7 none := ⟨hy_in_tb (i := 602) (by decide +kernel) rfl, hy_in_sel (i := 16) (by decide +kernel) rfl, hy_in_tb (i := 1) (by decide +kernel) rfl, hy_in_tb (i := 603) rfl rfl, by decide +kernel, _, rfl, rfl⟩
set_option maxRecDepth 100000 in
theorem yv_X8_spell : hy_yv yX8_spell cX8_spell 2 0 7 (some .int) := ⟨hy_in_tb (i := 586) (by decide +kernel) rfl, hy_in_tb (i := 587) (by decide +kernel) rfl, hy_in_tb (i := 1) (by decide +kernel) rfl, hy_in_tb (i := 588) rfl rfl, by decide +kernel, _, rfl, rfl⟩
set_option maxRecDepth 100000 in
theorem yv_X8_paper : hy_yv yX8_paper cX8_paper 2 1 7 (some .int) := ⟨hy_in_tb (i := 605) (by decide +kernel) rfl, hy_in_tb (i := 606) (by decide +kernel) rfl, hy_in_tb (i := 1) (by decide +kernel) rfl, hy_in_tb (i := 607) rfl rfl, by decide +kernel, _, rfl, rfl⟩
set_option maxRecDepth 100000 in
theorem yv_X8_elsewhere : hy_yv yX8_elsewhere cX8_elsewhere 2 1 7 (some .int) := ⟨hy_in_tb (i := 609) (by decide +kernel) rfl, hy_in_tb (i := 610) (by decide +kernel) rfl, hy_in_tb (i := 1) (by decide +kernel) rfl, hy_in_tb (i := 611) rfl rfl, by decide +kernel, _, rfl, rfl⟩
set_option maxRecDepth 100000 in
theorem yv_X8_drawn : hy_yv yX8_drawn cX8_drawn 5 2 7 (some .int) := ⟨hy_in_tb (i := 623) (by decide +kernel) rfl, hy_in_tb (i := 624) (by decide +kernel) rfl, hy_in_tb (i := 1) (by decide +kernel) rfl, hy_in_tb (i := 625) rfl rfl, by decide +kernel, _, rfl, rfl⟩
set_option maxRecDepth 100000 in
theorem yv_X8_odds : hy_yv yX8_odds cX8_odds 7 4 7 (some .long) := ⟨hy_in_tb (i := 633) (by decide +kernel) rfl, hy_in_tb (i := 634) (by decide +kernel) rfl, hy_in_tb (i := 1) (by decide +kernel) rfl, hy_in_tb (i := 635) rfl rfl, by decide +kernel, _, rfl, rfl⟩
set_option maxRecDepth 100000 in
theorem yv_X8_tellsOut : hy_yv yX8_tellsOut cX8_tellsOut 6 2 7 (some .boolean) := ⟨hy_in_tb (i := 655) (by decide +kernel) rfl, hy_in_sel (i := 18) (by decide +kernel) rfl, hy_in_tb (i := 1) (by decide +kernel) rfl, hy_in_tb (i := 656) rfl rfl, by decide +kernel, _, rfl, rfl⟩
set_option maxRecDepth 100000 in
theorem yv_X8_seen : hy_yv yX8_seen cX8_seen 6 3 7 (some .int) := ⟨hy_in_tb (i := 637) (by decide +kernel) rfl, hy_in_tb (i := 638) (by decide +kernel) rfl, hy_in_tb (i := 1) (by decide +kernel) rfl, hy_in_tb (i := 639) rfl rfl, by decide +kernel, _, rfl, rfl⟩
set_option maxRecDepth 100000 in
theorem yv_X8_judge : hy_yv yX8_judge cX8_judge 3 1 7 (some .int) := ⟨hy_in_tb (i := 658) (by decide +kernel) rfl, hy_in_tb (i := 659) (by decide +kernel) rfl, hy_in_tb (i := 1) (by decide +kernel) rfl, hy_in_tb (i := 660) rfl rfl, by decide +kernel, _, rfl, rfl⟩
set_option maxRecDepth 100000 in
theorem yv_X8_list : hy_yv yX8_list cX8_list 3 2 7 (some .int) := ⟨hy_in_tb (i := 663) (by decide +kernel) rfl, hy_in_tb (i := 664) (by decide +kernel) rfl, hy_in_tb (i := 1) (by decide +kernel) rfl, hy_in_tb (i := 665) rfl rfl, by decide +kernel, _, rfl, rfl⟩
set_option maxRecDepth 100000 in
theorem yv_X8_put : hy_yv yX8_put cX8_put 4 3 7 (some .int) := ⟨hy_in_tb (i := 671) (by decide +kernel) rfl, hy_in_tb (i := 672) (by decide +kernel) rfl, hy_in_tb (i := 1) (by decide +kernel) rfl, hy_in_tb (i := 673) rfl rfl, by decide +kernel, _, rfl, rfl⟩
set_option maxRecDepth 100000 in
theorem yv_X8_get : hy_yv yX8_get cX8_get 3 2 7 (some .long) := ⟨hy_in_tb (i := 679) (by decide +kernel) rfl, hy_in_tb (i := 680) (by decide +kernel) rfl, hy_in_tb (i := 1) (by decide +kernel) rfl, hy_in_tb (i := 681) rfl rfl, by decide +kernel, _, rfl, rfl⟩
set_option maxRecDepth 100000 in
theorem yv_X8_lay : hy_yv yX8_lay cX8_lay 6 4 7 (some .int) := ⟨hy_in_tb (i := 683) (by decide +kernel) rfl, hy_in_tb (i := 684) (by decide +kernel) rfl, hy_in_tb (i := 1) (by decide +kernel) rfl, hy_in_tb (i := 685) rfl rfl, by decide +kernel, _, rfl, rfl⟩
set_option maxRecDepth 100000 in
theorem yv_X8_image : hy_yv yX8_image cX8_image 1 0 7 (some .int) := ⟨hy_in_tb (i := 692) (by decide +kernel) rfl, hy_in_tb (i := 693) (by decide +kernel) rfl, hy_in_tb (i := 1) (by decide +kernel) rfl, hy_in_tb (i := 694) rfl rfl, by decide +kernel, _, rfl, rfl⟩
set_option maxRecDepth 100000 in
theorem yv_X8_undo : hy_yv yX8_undo cX8_undo 1 0 7 (some .int) := ⟨hy_in_tb (i := 702) (by decide +kernel) rfl, hy_in_tb (i := 703) (by decide +kernel) rfl, hy_in_tb (i := 1) (by decide +kernel) rfl, hy_in_tb (i := 704) rfl rfl, by decide +kernel, _, rfl, rfl⟩
set_option maxRecDepth 100000 in
theorem yv_X8_count : hy_yv yX8_count cX8_count 2 1 7 (some .int) := ⟨hy_in_tb (i := 706) (by decide +kernel) rfl, hy_in_tb (i := 707) (by decide +kernel) rfl, hy_in_tb (i := 1) (by decide +kernel) rfl, hy_in_tb (i := 708) rfl rfl, by decide +kernel, _, rfl, rfl⟩
set_option maxRecDepth 100000 in
theorem ys_X9_isIn : hy_ys yX9_isIn cX9_isIn 6 3 (some .boolean) := ⟨hy_in_tb (i := 786) (by decide +kernel) rfl, hy_in_tb (i := 9) (by decide +kernel) rfl, hy_in_tb (i := 787) rfl rfl, by decide +kernel⟩
set_option maxRecDepth 100000 in
theorem yv_X9_isWagon : hy_yv yX9_isWagon cX9_isWagon 2 1 8 (some .boolean) := ⟨hy_in_tb (i := 820) (by decide +kernel) rfl, hy_in_sel (i := 21) (by decide +kernel) rfl, hy_in_tb (i := 9) (by decide +kernel) rfl, hy_in_tb (i := 821) rfl rfl, by decide +kernel, _, rfl, rfl⟩
set_option maxRecDepth 100000 in
theorem ys_X9_isTrain : hy_ys yX9_isTrain cX9_isTrain 1 1 (some .boolean) := ⟨hy_in_tb (i := 888) (by decide +kernel) rfl, hy_in_tb (i := 9) (by decide +kernel) rfl, hy_in_tb (i := 889) rfl rfl, by decide +kernel⟩
set_option maxRecDepth 100000 in
theorem ys_X9_isTrack : hy_ys yX9_isTrack cX9_isTrack 1 1 (some .boolean) := ⟨hy_in_tb (i := 828) (by decide +kernel) rfl, hy_in_tb (i := 9) (by decide +kernel) rfl, hy_in_tb (i := 829) rfl rfl, by decide +kernel⟩
set_option maxRecDepth 100000 in
theorem ys_X9_has : hy_ys yX9_has cX9_has 2 2 (some .boolean) := ⟨hy_in_tb (i := 799) (by decide +kernel) rfl, hy_in_tb (i := 9) (by decide +kernel) rfl, hy_in_tb (i := 800) rfl rfl, by decide +kernel⟩
set_option maxRecDepth 100000 in
theorem ys_X9_ones : hy_ys yX9_ones cX9_ones 3 1 (some .int) := ⟨hy_in_tb (i := 802) (by decide +kernel) rfl, hy_in_tb (i := 9) (by decide +kernel) rfl, hy_in_tb (i := 803) rfl rfl, by decide +kernel⟩
set_option maxRecDepth 100000 in
theorem ys_X9_mayBe : hy_ys yX9_mayBe cX9_mayBe 3 2 (some .boolean) := ⟨hy_in_tb (i := 877) (by decide +kernel) rfl, hy_in_tb (i := 9) (by decide +kernel) rfl, hy_in_tb (i := 878) rfl rfl, by decide +kernel⟩
set_option maxRecDepth 100000 in
theorem yv_X9_wantedAt : hy_yv yX9_wantedAt cX9_wantedAt 3 2 8 (some .int) := ⟨hy_in_tb (i := 846) (by decide +kernel) rfl, hy_in_sel (i := 23) (by decide +kernel) rfl, hy_in_tb (i := 9) (by decide +kernel) rfl, hy_in_tb (i := 847) rfl rfl, by decide +kernel, _, rfl, rfl⟩
set_option maxRecDepth 100000 in
theorem yv_X9_clears : hy_yv yX9_clears cX9_clears 2 0 8 none := ⟨hy_in_tb (i := 806) (by decide +kernel) rfl, hy_in_sel (i := 20) (by decide +kernel) rfl, hy_in_tb (i := 9) (by decide +kernel) rfl, hy_in_tb (i := 807) rfl rfl, by decide +kernel, _, rfl, rfl⟩
set_option maxRecDepth 100000 in
theorem yv_X9_feed : hy_yv yX9_feed cX9_feed 7 5 8 (some .int) := ⟨hy_in_tb (i := 781) (by decide +kernel) rfl, hy_in_tb (i := 782) (by decide +kernel) rfl, hy_in_tb (i := 9) (by decide +kernel) rfl, hy_in_tb (i := 783) rfl rfl, by decide +kernel, _, rfl, rfl⟩
set_option maxRecDepth 100000 in
theorem yv_X9_yardFault : hy_yv yX9_yardFault cX9_yardFault 5 0 8 (some .int) := ⟨hy_in_tb (i := 795) (by decide +kernel) rfl, hy_in_sel (i := 19) (by decide +kernel) rfl, hy_in_tb (i := 9) (by decide +kernel) rfl, hy_in_tb (i := 796) rfl rfl, by decide +kernel, _, rfl, rfl⟩
set_option maxRecDepth 100000 in
theorem yv_X9_yard : hy_yv yX9_yard cX9_yard 6 0 8 (some .int) := ⟨hy_in_tb (i := 790) (by decide +kernel) rfl, hy_in_tb (i := 791) (by decide +kernel) rfl, hy_in_tb (i := 9) (by decide +kernel) rfl, hy_in_tb (i := 792) rfl rfl, by decide +kernel, _, rfl, rfl⟩
set_option maxRecDepth 100000 in
theorem yv_X9_codes : hy_yv yX9_codes cX9_codes 4 0 8 (some .int) := ⟨hy_in_tb (i := 809) (by decide +kernel) rfl, hy_in_tb (i := 810) (by decide +kernel) rfl, hy_in_tb (i := 9) (by decide +kernel) rfl, hy_in_tb (i := 811) rfl rfl, by decide +kernel, _, rfl, rfl⟩
set_option maxRecDepth 100000 in
theorem yv_X9_set : hy_yv yX9_set cX9_set 6 3 8 (some .int) := ⟨hy_in_tb (i := 815) (by decide +kernel) rfl, hy_in_tb (i := 816) (by decide +kernel) rfl, hy_in_tb (i := 9) (by decide +kernel) rfl, hy_in_tb (i := 817) rfl rfl, by decide +kernel, _, rfl, rfl⟩
set_option maxRecDepth 100000 in
theorem yv_X9_room : hy_yv yX9_room cX9_room 4 2 8 (some .int) := ⟨hy_in_tb (i := 824) (by decide +kernel) rfl, hy_in_tb (i := 825) (by decide +kernel) rfl, hy_in_tb (i := 9) (by decide +kernel) rfl, hy_in_tb (i := 826) rfl rfl, by decide +kernel, _, rfl, rfl⟩
set_option maxRecDepth 100000 in
theorem yv_X9_brand : hy_yv yX9_brand cX9_brand 3 1 8 (some .int) := ⟨hy_in_tb (i := 833) (by decide +kernel) rfl, hy_in_tb (i := 834) (by decide +kernel) rfl, hy_in_tb (i := 9) (by decide +kernel) rfl, hy_in_tb (i := 835) rfl rfl, by decide +kernel, _, rfl, rfl⟩
set_option maxRecDepth 100000 in
theorem yv_X9_asTheyAre : hy_yv yX9_asTheyAre cX9_asTheyAre 2 0 8 none := ⟨hy_in_tb (i := 862) (by decide +kernel) rfl, hy_in_sel (i := 27) (by decide +kernel) rfl, hy_in_tb (i := 9) (by decide +kernel) rfl, hy_in_tb (i := 863) rfl rfl, by decide +kernel, _, rfl, rfl⟩
set_option maxRecDepth 100000 in
theorem yv_X9_chainsOf : hy_yv yX9_chainsOf cX9_chainsOf 4 1 8 (some .int) := ⟨hy_in_tb (i := 870) (by decide +kernel) rfl, hy_in_sel (i := 29) (by decide +kernel) rfl, hy_in_tb (i := 9) (by decide +kernel) rfl, hy_in_tb (i := 871) rfl rfl, by decide +kernel, _, rfl, rfl⟩
set_option maxRecDepth 100000 in
theorem yv_X9_need : hy_yv yX9_need cX9_need 3 0 8 (some .int) := ⟨hy_in_tb (i := 866) (by decide +kernel) rfl, hy_in_sel (i := 28) (by decide +kernel) rfl, hy_in_tb (i := 9) (by decide +kernel) rfl, hy_in_tb (i := 867) rfl rfl, by decide +kernel, _, rfl, rfl⟩
set_option maxRecDepth 100000 in
theorem yv_X9_fewestFor : hy_yv yX9_fewestFor cX9_fewestFor 5 1 8 (some .int) := ⟨hy_in_tb (i := 874) (by decide +kernel) rfl, hy_in_sel (i := 30) (by decide +kernel) rfl, hy_in_tb (i := 9) (by decide +kernel) rfl, hy_in_tb (i := 875) rfl rfl, by decide +kernel, _, rfl, rfl⟩
set_option maxRecDepth 100000 in
theorem yv_X9_placeOf : hy_yv yX9_placeOf cX9_placeOf 3 1 8 (some .int) := ⟨hy_in_tb (i := 842) (by decide +kernel) rfl, hy_in_sel (i := 22) (by decide +kernel) rfl, hy_in_tb (i := 9) (by decide +kernel) rfl, hy_in_tb (i := 843) rfl rfl, by decide +kernel, _, rfl, rfl⟩
set_option maxRecDepth 100000 in
theorem yv_X9_chainOf : hy_yv yX9_chainOf cX9_chainOf 5 1 8 (some .int) := ⟨hy_in_tb (i := 850) (by decide +kernel) rfl, hy_in_sel (i := 24) (by decide +kernel) rfl, hy_in_tb (i := 9) (by decide +kernel) rfl, hy_in_tb (i := 851) rfl rfl, by decide +kernel, _, rfl, rfl⟩
set_option maxRecDepth 100000 in
theorem yv_X9_codeOf : hy_yv yX9_codeOf cX9_codeOf 4 1 8 (some .int) := ⟨hy_in_tb (i := 881) (by decide +kernel) rfl, hy_in_sel (i := 31) (by decide +kernel) rfl, hy_in_tb (i := 9) (by decide +kernel) rfl, hy_in_tb (i := 882) rfl rfl, by decide +kernel, _, rfl, rfl⟩
set_option maxRecDepth 100000 in
theorem yv_X9_fewestNow : hy_yv yX9_fewestNow cX9_fewestNow 1 0 8 (some .int) := ⟨hy_in_tb (i := 858) (by decide +kernel) rfl, hy_in_sel (i := 26) (by decide +kernel) rfl, hy_in_tb (i := 9) (by decide +kernel) rfl, hy_in_tb (i := 859) rfl rfl, by decide +kernel, _, rfl, rfl⟩
set_option maxRecDepth 100000 in
theorem yv_X9_whereIs : hy_yv yX9_whereIs cX9_whereIs 4 1 8 (some .int) := ⟨hy_in_tb (i := 854) (by decide +kernel) rfl, hy_in_sel (i := 25) (by decide +kernel) rfl, hy_in_tb (i := 9) (by decide +kernel) rfl, hy_in_tb (i := 855) rfl rfl, by decide +kernel, _, rfl, rfl⟩
set_option maxRecDepth 100000 in
theorem yv_X9_wagon : hy_yv yX9_wagon cX9_wagon 3 2 8 (some .int) := ⟨hy_in_tb (i := 837) (by decide +kernel) rfl, hy_in_tb (i := 838) (by decide +kernel) rfl, hy_in_tb (i := 9) (by decide +kernel) rfl, hy_in_tb (i := 839) rfl rfl, by decide +kernel, _, rfl, rfl⟩
set_option maxRecDepth 100000 in
theorem yv_X9_wanted : hy_yv yX9_wanted cX9_wanted 3 2 8 (some .int) := ⟨hy_in_tb (i := 884) (by decide +kernel) rfl, hy_in_tb (i := 885) (by decide +kernel) rfl, hy_in_tb (i := 9) (by decide +kernel) rfl, hy_in_tb (i := 886) rfl rfl, by decide +kernel, _, rfl, rfl⟩
set_option maxRecDepth 100000 in
theorem yv_X9_lengthsOn : hy_yv yX9_lengthsOn cX9_lengthsOn 4 1 8 (some .int) := ⟨hy_in_tb (i := 897) (by decide +kernel) rfl, hy_in_sel (i := 32) (by decide +kernel) rfl, hy_in_tb (i := 9) (by decide +kernel) rfl, hy_in_tb (i := 898) rfl rfl, by decide +kernel, _, rfl, rfl⟩
set_option maxRecDepth 100000 in
theorem yv_X9_loadOf : hy_yv yX9_loadOf cX9_loadOf 4 1 8 (some .int) := ⟨hy_in_tb (i := 901) (by decide +kernel) rfl, hy_in_sel (i := 33) (by decide +kernel) rfl, hy_in_tb (i := 9) (by decide +kernel) rfl, hy_in_tb (i := 902) rfl rfl, by decide +kernel, _, rfl, rfl⟩
set_option maxRecDepth 100000 in
theorem yv_X9_track : hy_yv yX9_track cX9_track 3 2 8 (some .int) := ⟨hy_in_tb (i := 892) (by decide +kernel) rfl, hy_in_tb (i := 893) (by decide +kernel) rfl, hy_in_tb (i := 9) (by decide +kernel) rfl, hy_in_tb (i := 894) rfl rfl, by decide +kernel, _, rfl, rfl⟩
set_option maxRecDepth 100000 in
theorem yv_X9_chains : hy_yv yX9_chains cX9_chains 2 1 8 (some .int) := ⟨hy_in_tb (i := 905) (by decide +kernel) rfl, hy_in_tb (i := 906) (by decide +kernel) rfl, hy_in_tb (i := 9) (by decide +kernel) rfl, hy_in_tb (i := 907) rfl rfl, by decide +kernel, _, rfl, rfl⟩
set_option maxRecDepth 100000 in
theorem yv_X9_mayAll : hy_yv yX9_mayAll cX9_mayAll 3 0 8 (some .int) := ⟨hy_in_tb (i := 914) (by decide +kernel) rfl, hy_in_sel (i := 34) (by decide +kernel) rfl, hy_in_tb (i := 9) (by decide +kernel) rfl, hy_in_tb (i := 915) rfl rfl, by decide +kernel, _, rfl, rfl⟩
set_option maxRecDepth 100000 in
theorem yv_X9_fewest : hy_yv yX9_fewest cX9_fewest 2 1 8 (some .int) := ⟨hy_in_tb (i := 909) (by decide +kernel) rfl, hy_in_tb (i := 910) (by decide +kernel) rfl, hy_in_tb (i := 9) (by decide +kernel) rfl, hy_in_tb (i := 911) rfl rfl, by decide +kernel, _, rfl, rfl⟩
set_option maxRecDepth 100000 in
theorem ys_X9_stepsOf : hy_ys yX9_stepsOf cX9_stepsOf 1 1 (some .int) := ⟨hy_in_tb (i := 926) (by decide +kernel) rfl, hy_in_tb (i := 9) (by decide +kernel) rfl, hy_in_tb (i := 927) rfl rfl, by decide +kernel⟩
set_option maxRecDepth 100000 in
theorem yv_X9_stepsNow : hy_yv yX9_stepsNow cX9_stepsNow 3 0 8 (some .int) := ⟨hy_in_tb (i := 923) (by decide +kernel) rfl, hy_in_sel (i := 35) (by decide +kernel) rfl, hy_in_tb (i := 9) (by decide +kernel) rfl, hy_in_tb (i := 924) rfl rfl, by decide +kernel, _, rfl, rfl⟩
set_option maxRecDepth 100000 in
theorem yv_X9_rollsNow : hy_yv yX9_rollsNow cX9_rollsNow 3 0 8 (some .int) := ⟨hy_in_tb (i := 946) (by decide +kernel) rfl, hy_in_sel (i := 39) (by decide +kernel) rfl, hy_in_tb (i := 9) (by decide +kernel) rfl, hy_in_tb (i := 947) rfl rfl, by decide +kernel, _, rfl, rfl⟩
set_option maxRecDepth 100000 in
theorem yv_X9_presort : hy_yv yX9_presort cX9_presort 2 0 8 (some .int) := ⟨hy_in_tb (i := 918) (by decide +kernel) rfl, hy_in_tb (i := 919) (by decide +kernel) rfl, hy_in_tb (i := 9) (by decide +kernel) rfl, hy_in_tb (i := 920) rfl rfl, by decide +kernel, _, rfl, rfl⟩
set_option maxRecDepth 100000 in
theorem yv_X9_notRight : hy_yv yX9_notRight cX9_notRight 5 0 8 (some .int) := ⟨hy_in_tb (i := 934) (by decide +kernel) rfl, hy_in_sel (i := 36) (by decide +kernel) rfl, hy_in_tb (i := 9) (by decide +kernel) rfl, hy_in_tb (i := 935) rfl rfl, by decide +kernel, _, rfl, rfl⟩
set_option maxRecDepth 100000 in
theorem yv_X9_tooLoaded : hy_yv yX9_tooLoaded cX9_tooLoaded 2 0 8 (some .int) := ⟨hy_in_tb (i := 942) (by decide +kernel) rfl, hy_in_sel (i := 38) (by decide +kernel) rfl, hy_in_tb (i := 9) (by decide +kernel) rfl, hy_in_tb (i := 943) rfl rfl, by decide +kernel, _, rfl, rfl⟩
set_option maxRecDepth 100000 in
theorem yv_X9_mayAllCodes : hy_yv yX9_mayAllCodes cX9_mayAllCodes 2 0 8 (some .boolean) := ⟨hy_in_tb (i := 938) (by decide +kernel) rfl, hy_in_sel (i := 37) (by decide +kernel) rfl, hy_in_tb (i := 9) (by decide +kernel) rfl, hy_in_tb (i := 939) rfl rfl, by decide +kernel, _, rfl, rfl⟩
set_option maxRecDepth 100000 in
theorem yv_X9_right : hy_yv yX9_right cX9_right 2 1 8 (some .int) := ⟨hy_in_tb (i := 929) (by decide +kernel) rfl, hy_in_tb (i := 930) (by decide +kernel) rfl, hy_in_tb (i := 9) (by decide +kernel) rfl, hy_in_tb (i := 931) rfl rfl, by decide +kernel, _, rfl, rfl⟩
set_option maxRecDepth 100000 in
theorem yv_X9_orders : hy_yv yX9_orders cX9_orders 2 0 8 none := ⟨hy_in_tb (i := 958) (by decide +kernel) rfl, hy_in_sel (i := 41) (by decide +kernel) rfl, hy_in_tb (i := 9) (by decide +kernel) rfl, hy_in_tb (i := 959) rfl rfl, by decide +kernel, _, rfl, rfl⟩
set_option maxRecDepth 100000 in
theorem yv_X9_lowAt : hy_yv yX9_lowAt cX9_lowAt 2 1 8 (some .int) := ⟨hy_in_tb (i := 982) (by decide +kernel) rfl, hy_in_sel (i := 47) (by decide +kernel) rfl, hy_in_tb (i := 9) (by decide +kernel) rfl, hy_in_tb (i := 983) rfl rfl, by decide +kernel, _, rfl, rfl⟩
set_option maxRecDepth 100000 in
theorem yv_X9_loads : hy_yv yX9_loads cX9_loads 4 2 8 none := ⟨hy_in_tb (i := 970) (by decide +kernel) rfl, hy_in_sel (i := 44) (by decide +kernel) rfl, hy_in_tb (i := 9) (by decide +kernel) rfl, hy_in_tb (i := 971) rfl rfl, by decide +kernel, _, rfl, rfl⟩
set_option maxRecDepth 100000 in
theorem yv_X9_isRoomy : hy_yv yX9_isRoomy cX9_isRoomy 2 0 8 (some .boolean) := ⟨hy_in_tb (i := 974) (by decide +kernel) rfl, hy_in_sel (i := 45) (by decide +kernel) rfl, hy_in_tb (i := 9) (by decide +kernel) rfl, hy_in_tb (i := 975) rfl rfl, by decide +kernel, _, rfl, rfl⟩
set_option maxRecDepth 100000 in
theorem yv_X9_isBetter : hy_yv yX9_isBetter cX9_isBetter 5 0 8 (some .boolean) := ⟨hy_in_tb (i := 986) (by decide +kernel) rfl, hy_in_sel (i := 48) (by decide +kernel) rfl, hy_in_tb (i := 9) (by decide +kernel) rfl, hy_in_tb (i := 987) rfl rfl, by decide +kernel, _, rfl, rfl⟩
set_option maxRecDepth 100000 in
theorem yv_X9_isBest : hy_yv yX9_isBest cX9_isBest 3 0 8 none := ⟨hy_in_tb (i := 962) (by decide +kernel) rfl, hy_in_sel (i := 42) (by decide +kernel) rfl, hy_in_tb (i := 9) (by decide +kernel) rfl, hy_in_tb (i := 963) rfl rfl, by decide +kernel, _, rfl, rfl⟩
set_option maxRecDepth 100000 in
theorem yv_X9_isHopeless : hy_yv yX9_isHopeless cX9_isHopeless 5 1 8 (some .boolean) := ⟨hy_in_tb (i := 978) (by decide +kernel) rfl, hy_in_sel (i := 46) (by decide +kernel) rfl, hy_in_tb (i := 9) (by decide +kernel) rfl, hy_in_tb (i := 979) rfl rfl, by decide +kernel, _, rfl, rfl⟩
set_option maxRecDepth 100000 in
theorem yv_X9_goesOn : hy_yv yX9_goesOn cX9_goesOn 3 1 8 (some .boolean) := ⟨hy_in_tb (i := 966) (by decide +kernel) rfl, hy_in_sel (i := 43) (by decide +kernel) rfl, hy_in_tb (i := 9) (by decide +kernel) rfl, hy_in_tb (i := 967) rfl rfl, by decide +kernel, _, rfl, rfl⟩
set_option maxRecDepth 100000 in
theorem yv_X9_findBounded : hy_yv yX9_findBounded cX9_findBounded 2 0 8 none := ⟨hy_in_tb (i := 954) (by decide +kernel) rfl, hy_in_sel (i := 40) (by decide +kernel) rfl, hy_in_tb (i := 9) (by decide +kernel) rfl, hy_in_tb (i := 955) rfl rfl, by decide +kernel, _, rfl, rfl⟩
set_option maxRecDepth 100000 in
theorem yv_X9_bounded : hy_yv yX9_bounded cX9_bounded 2 1 8 (some .int) := ⟨hy_in_tb (i := 949) (by decide +kernel) rfl, hy_in_tb (i := 950) (by decide +kernel) rfl, hy_in_tb (i := 9) (by decide +kernel) rfl, hy_in_tb (i := 951) rfl rfl, by decide +kernel, _, rfl, rfl⟩
set_option maxRecDepth 100000 in
theorem yv_X9_bind : hy_yv yX9_bind cX9_bind 2 0 8 (some .int) := ⟨hy_in_tb (i := 989) (by decide +kernel) rfl, hy_in_tb (i := 990) (by decide +kernel) rfl, hy_in_tb (i := 9) (by decide +kernel) rfl, hy_in_tb (i := 991) rfl rfl, by decide +kernel, _, rfl, rfl⟩
set_option maxRecDepth 100000 in
theorem ys_X9_common : hy_ys yX9_common cX9_common 10 2 (some .long) := ⟨hy_in_tb (i := 1000) (by decide +kernel) rfl, hy_in_tb (i := 9) (by decide +kernel) rfl, hy_in_tb (i := 1001) rfl rfl, by decide +kernel⟩
set_option maxRecDepth 100000 in
theorem ys_X9_partOf : hy_ys yX9_partOf cX9_partOf 5 3 (some .long) := ⟨hy_in_tb (i := 997) (by decide +kernel) rfl, hy_in_tb (i := 9) (by decide +kernel) rfl, hy_in_tb (i := 998) rfl rfl, by decide +kernel⟩
set_option maxRecDepth 100000 in
theorem yv_X9_mean : hy_yv yX9_mean cX9_mean 2 1 8 (some .long) := ⟨hy_in_tb (i := 993) (by decide +kernel) rfl, hy_in_tb (i := 994) (by decide +kernel) rfl, hy_in_tb (i := 9) (by decide +kernel) rfl, hy_in_tb (i := 995) rfl rfl, by decide +kernel, _, rfl, rfl⟩
set_option maxRecDepth 100000 in
theorem yv_X9_copies : hy_yv yX9_copies cX9_copies 4 2 8 none := ⟨hy_in_tb (i := 1009) (by decide +kernel) rfl, hy_in_sel (i := 49) (by decide +kernel) rfl, hy_in_tb (i := 9) (by decide +kernel) rfl, hy_in_tb (i := 1010) rfl rfl, by decide +kernel, _, rfl, rfl⟩
set_option maxRecDepth 100000 in
theorem yv_X9_says : hy_yv yX9_says cX9_says 2 1 8 none := ⟨hy_in_tb (i := 1021) (by decide +kernel) rfl, hy_in_sel (i := 52) (by decide +kernel) rfl, hy_in_tb (i := 9) (by decide +kernel) rfl, hy_in_tb (i := 1022) rfl rfl, by decide +kernel, _, rfl, rfl⟩
set_option maxRecDepth 100000 in
theorem yv_X9_rolls : hy_yv yX9_rolls cX9_rolls 5 2 8 none := ⟨hy_in_tb (i := 1017) (by decide +kernel) rfl, hy_in_sel (i := 51) (by decide +kernel) rfl, hy_in_tb (i := 9) (by decide +kernel) rfl, hy_in_tb (i := 1018) rfl rfl, by decide +kernel, _, rfl, rfl⟩
set_option maxRecDepth 100000 in
theorem yv_X9_humps : hy_yv yX9_humps cX9_humps 2 0 8 none := ⟨hy_in_tb (i := 1013) (by decide +kernel) rfl, hy_in_sel (i := 50) (by decide +kernel) rfl, hy_in_tb (i := 9) (by decide +kernel) rfl, hy_in_tb (i := 1014) rfl rfl, by decide +kernel, _, rfl, rfl⟩
set_option maxRecDepth 100000 in
theorem yv_X9_pulls : hy_yv yX9_pulls cX9_pulls 4 1 8 none := ⟨hy_in_tb (i := 1037) (by decide +kernel) rfl, hy_in_sel (i := 55) (by decide +kernel) rfl, hy_in_tb (i := 9) (by decide +kernel) rfl, hy_in_tb (i := 1038) rfl rfl, by decide +kernel, _, rfl, rfl⟩
set_option maxRecDepth 100000 in
theorem yv_X9_isOver : hy_yv yX9_isOver cX9_isOver 2 0 8 (some .boolean) := ⟨hy_in_tb (i := 1025) (by decide +kernel) rfl, hy_in_sel (i := 53) (by decide +kernel) rfl, hy_in_tb (i := 9) (by decide +kernel) rfl, hy_in_tb (i := 1026) rfl rfl, by decide +kernel, _, rfl, rfl⟩
set_option maxRecDepth 100000 in
theorem yv_X9_outs : hy_yv yX9_outs cX9_outs 1 0 8 (some .int) := ⟨hy_in_tb (i := 1029) (by decide +kernel) rfl, hy_in_sel (i := 54) (by decide +kernel) rfl, hy_in_tb (i := 9) (by decide +kernel) rfl, hy_in_tb (i := 1030) rfl rfl, by decide +kernel, _, rfl, rfl⟩
set_option maxRecDepth 100000 in
theorem yv_X9_hump : hy_yv yX9_hump cX9_hump 1 0 8 (some .int) := ⟨hy_in_tb (i := 1004) (by decide +kernel) rfl, hy_in_tb (i := 1005) (by decide +kernel) rfl, hy_in_tb (i := 9) (by decide +kernel) rfl, hy_in_tb (i := 1006) rfl rfl, by decide +kernel, _, rfl, rfl⟩
set_option maxRecDepth 100000 in
theorem yv_X9_pull : hy_yv yX9_pull cX9_pull 2 1 8 (some .int) := ⟨hy_in_tb (i := 1032) (by decide +kernel) rfl, hy_in_tb (i := 1033) (by decide +kernel) rfl, hy_in_tb (i := 9) (by decide +kernel) rfl, hy_in_tb (i := 1034) rfl rfl, by decide +kernel, _, rfl, rfl⟩
set_option maxRecDepth 100000 in
theorem yv_X9_clear : hy_yv yX9_clear cX9_clear 2 0 8 (some .int) := ⟨hy_in_tb (i := 1040) (by decide +kernel) rfl, hy_in_tb (i := 1041) (by decide +kernel) rfl, hy_in_tb (i := 9) (by decide +kernel) rfl, hy_in_tb (i := 1042) rfl rfl, by decide +kernel, _, rfl, rfl⟩
set_option maxRecDepth 100000 in
theorem yv_X9_out : hy_yv yX9_out cX9_out 3 2 8 (some .int) := ⟨hy_in_tb (i := 1044) (by decide +kernel) rfl, hy_in_tb (i := 1045) (by decide +kernel) rfl, hy_in_tb (i := 9) (by decide +kernel) rfl, hy_in_tb (i := 1046) rfl rfl, by decide +kernel, _, rfl, rfl⟩
set_option maxRecDepth 100000 in
theorem yv_X9_wrongOf : hy_yv yX9_wrongOf cX9_wrongOf 3 1 8 (some .int) := ⟨hy_in_tb (i := 1053) (by decide +kernel) rfl, hy_in_sel (i := 56) (by decide +kernel) rfl, hy_in_tb (i := 9) (by decide +kernel) rfl, hy_in_tb (i := 1054) rfl rfl, by decide +kernel, _, rfl, rfl⟩
set_option maxRecDepth 100000 in
theorem yv_X9_wrong : hy_yv yX9_wrong cX9_wrong 2 1 8 (some .int) := ⟨hy_in_tb (i := 1048) (by decide +kernel) rfl, hy_in_tb (i := 1049) (by decide +kernel) rfl, hy_in_tb (i := 9) (by decide +kernel) rfl, hy_in_tb (i := 1050) rfl rfl, by decide +kernel, _, rfl, rfl⟩
set_option maxRecDepth 100000 in
theorem yv_X9_pullsFault : hy_yv yX9_pullsFault cX9_pullsFault 2 0 8 (some .int) := ⟨hy_in_tb (i := 1062) (by decide +kernel) rfl, hy_in_sel (i := 57) (by decide +kernel) rfl, hy_in_tb (i := 9) (by decide +kernel) rfl, hy_in_tb (i := 1063) rfl rfl, by decide +kernel, _, rfl, rfl⟩
set_option maxRecDepth 100000 in
theorem yv_X9_replayed : hy_yv yX9_replayed cX9_replayed 5 2 8 (some .int) := ⟨hy_in_tb (i := 1067) (by decide +kernel) rfl, hy_in_sel (i := 58) (by decide +kernel) rfl, hy_in_tb (i := 9) (by decide +kernel) rfl, hy_in_tb (i := 1068) rfl rfl, by decide +kernel, _, rfl, rfl⟩
set_option maxRecDepth 100000 in
theorem yv_X9_replay : hy_yv yX9_replay cX9_replay 6 1 8 (some .int) := ⟨hy_in_tb (i := 1056) (by decide +kernel) rfl, hy_in_tb (i := 1057) (by decide +kernel) rfl, hy_in_tb (i := 9) (by decide +kernel) rfl, hy_in_tb (i := 1058) rfl rfl, by decide +kernel, _, rfl, rfl⟩
set_option maxRecDepth 100000 in
theorem yv_X9_wholeRun : hy_yv yX9_wholeRun cX9_wholeRun 2 0 8 none := ⟨hy_in_tb (i := 1075) (by decide +kernel) rfl, hy_in_sel (i := 59) (by decide +kernel) rfl, hy_in_tb (i := 9) (by decide +kernel) rfl, hy_in_tb (i := 1076) rfl rfl, by decide +kernel, _, rfl, rfl⟩
set_option maxRecDepth 100000 in
theorem yv_X9_spell : hy_yv yX9_spell cX9_spell 1 0 8 (some .int) := ⟨hy_in_tb (i := 1070) (by decide +kernel) rfl, hy_in_tb (i := 1071) (by decide +kernel) rfl, hy_in_tb (i := 9) (by decide +kernel) rfl, hy_in_tb (i := 1072) rfl rfl, by decide +kernel, _, rfl, rfl⟩
set_option maxRecDepth 100000 in
theorem yv_X9_paper : hy_yv yX9_paper cX9_paper 2 1 8 (some .int) := ⟨hy_in_tb (i := 1078) (by decide +kernel) rfl, hy_in_tb (i := 1079) (by decide +kernel) rfl, hy_in_tb (i := 9) (by decide +kernel) rfl, hy_in_tb (i := 1080) rfl rfl, by decide +kernel, _, rfl, rfl⟩
set_option maxRecDepth 100000 in
theorem yv_X9_moves : hy_yv yX9_moves cX9_moves 5 2 8 none := ⟨hy_in_tb (i := 1087) (by decide +kernel) rfl, hy_in_sel (i := 60) (by decide +kernel) rfl, hy_in_tb (i := 9) (by decide +kernel) rfl, hy_in_tb (i := 1088) rfl rfl, by decide +kernel, _, rfl, rfl⟩
set_option maxRecDepth 100000 in
theorem yv_X9_elsewhere : hy_yv yX9_elsewhere cX9_elsewhere 8 1 8 (some .int) := ⟨hy_in_tb (i := 1082) (by decide +kernel) rfl, hy_in_tb (i := 1083) (by decide +kernel) rfl, hy_in_tb (i := 9) (by decide +kernel) rfl, hy_in_tb (i := 1084) rfl rfl, by decide +kernel, _, rfl, rfl⟩
set_option maxRecDepth 100000 in
theorem yv_X9_draws : hy_yv yX9_draws cX9_draws 6 1 8 none := ⟨hy_in_tb (i := 1095) (by decide +kernel) rfl, hy_in_sel (i := 61) (by decide +kernel) rfl, hy_in_tb (i := 9) (by decide +kernel) rfl, hy_in_tb (i := 1096) rfl rfl, by decide +kernel, _, rfl, rfl⟩
set_option maxRecDepth 100000 in
theorem yv_X9_drawn : hy_yv yX9_drawn cX9_drawn 3 2 8 (some .int) := ⟨hy_in_tb (i := 1090) (by decide +kernel) rfl, hy_in_tb (i := 1091) (by decide +kernel) rfl, hy_in_tb (i := 9) (by decide +kernel) rfl, hy_in_tb (i := 1092) rfl rfl, by decide +kernel, _, rfl, rfl⟩
set_option maxRecDepth 100000 in
theorem yv_X9_odds : hy_yv yX9_odds cX9_odds 7 4 8 (some .long) := ⟨hy_in_tb (i := 1099) (by decide +kernel) rfl, hy_in_tb (i := 1100) (by decide +kernel) rfl, hy_in_tb (i := 9) (by decide +kernel) rfl, hy_in_tb (i := 1101) rfl rfl, by decide +kernel, _, rfl, rfl⟩
set_option maxRecDepth 100000 in
theorem ys_X9_isList : hy_ys yX9_isList cX9_isList 1 1 (some .boolean) := ⟨hy_in_tb (i := 1109) (by decide +kernel) rfl, hy_in_tb (i := 9) (by decide +kernel) rfl, hy_in_tb (i := 1110) rfl rfl, by decide +kernel⟩
set_option maxRecDepth 100000 in
theorem yv_X9_isSeen : hy_yv yX9_isSeen cX9_isSeen 5 2 8 (some .boolean) := ⟨hy_in_tb (i := 1113) (by decide +kernel) rfl, hy_in_sel (i := 62) (by decide +kernel) rfl, hy_in_tb (i := 9) (by decide +kernel) rfl, hy_in_tb (i := 1114) rfl rfl, by decide +kernel, _, rfl, rfl⟩
set_option maxRecDepth 100000 in
theorem yv_X9_seen : hy_yv yX9_seen cX9_seen 7 3 8 (some .int) := ⟨hy_in_tb (i := 1105) (by decide +kernel) rfl, hy_in_tb (i := 1106) (by decide +kernel) rfl, hy_in_tb (i := 9) (by decide +kernel) rfl, hy_in_tb (i := 1107) rfl rfl, by decide +kernel, _, rfl, rfl⟩
set_option maxRecDepth 100000 in
theorem yv_X9_judged : hy_yv yX9_judged cX9_judged 2 0 8 (some .int) := ⟨hy_in_tb (i := 1121) (by decide +kernel) rfl, hy_in_sel (i := 63) (by decide +kernel) rfl, hy_in_tb (i := 9) (by decide +kernel) rfl, hy_in_tb (i := 1122) rfl rfl, by decide +kernel, _, rfl, rfl⟩
set_option maxRecDepth 100000 in
theorem yv_X9_judge : hy_yv yX9_judge cX9_judge 4 1 8 (some .int) := ⟨hy_in_tb (i := 1116) (by decide +kernel) rfl, hy_in_tb (i := 1117) (by decide +kernel) rfl, hy_in_tb (i := 9) (by decide +kernel) rfl, hy_in_tb (i := 1118) rfl rfl, by decide +kernel, _, rfl, rfl⟩
set_option maxRecDepth 100000 in
theorem yv_X9_list : hy_yv yX9_list cX9_list 4 2 8 (some .int) := ⟨hy_in_tb (i := 1124) (by decide +kernel) rfl, hy_in_tb (i := 1125) (by decide +kernel) rfl, hy_in_tb (i := 9) (by decide +kernel) rfl, hy_in_tb (i := 1126) rfl rfl, by decide +kernel, _, rfl, rfl⟩
set_option maxRecDepth 100000 in
theorem yv_X9_put : hy_yv yX9_put cX9_put 4 3 8 (some .int) := ⟨hy_in_tb (i := 1128) (by decide +kernel) rfl, hy_in_tb (i := 1129) (by decide +kernel) rfl, hy_in_tb (i := 9) (by decide +kernel) rfl, hy_in_tb (i := 1130) rfl rfl, by decide +kernel, _, rfl, rfl⟩
set_option maxRecDepth 100000 in
theorem yv_X9_get : hy_yv yX9_get cX9_get 3 2 8 (some .long) := ⟨hy_in_tb (i := 1132) (by decide +kernel) rfl, hy_in_tb (i := 1133) (by decide +kernel) rfl, hy_in_tb (i := 9) (by decide +kernel) rfl, hy_in_tb (i := 1134) rfl rfl, by decide +kernel, _, rfl, rfl⟩
set_option maxRecDepth 100000 in
theorem yv_X9_lay : hy_yv yX9_lay cX9_lay 8 4 8 (some .int) := ⟨hy_in_tb (i := 1136) (by decide +kernel) rfl, hy_in_tb (i := 1137) (by decide +kernel) rfl, hy_in_tb (i := 9) (by decide +kernel) rfl, hy_in_tb (i := 1138) rfl rfl, by decide +kernel, _, rfl, rfl⟩
set_option maxRecDepth 100000 in
theorem yv_X9_image : hy_yv yX9_image cX9_image 1 0 8 (some .int) := ⟨hy_in_tb (i := 1140) (by decide +kernel) rfl, hy_in_tb (i := 1141) (by decide +kernel) rfl, hy_in_tb (i := 9) (by decide +kernel) rfl, hy_in_tb (i := 1142) rfl rfl, by decide +kernel, _, rfl, rfl⟩
set_option maxRecDepth 100000 in
theorem yv_X9_undo : hy_yv yX9_undo cX9_undo 1 0 8 (some .int) := ⟨hy_in_tb (i := 1144) (by decide +kernel) rfl, hy_in_tb (i := 1145) (by decide +kernel) rfl, hy_in_tb (i := 9) (by decide +kernel) rfl, hy_in_tb (i := 1146) rfl rfl, by decide +kernel, _, rfl, rfl⟩
set_option maxRecDepth 100000 in
theorem yv_X9_lying : hy_yv yX9_lying cX9_lying 3 0 8 (some .int) := ⟨hy_in_tb (i := 1153) (by decide +kernel) rfl, hy_in_sel (i := 64) (by decide +kernel) rfl, hy_in_tb (i := 9) (by decide +kernel) rfl, hy_in_tb (i := 1154) rfl rfl, by decide +kernel, _, rfl, rfl⟩
set_option maxRecDepth 100000 in
theorem yv_X9_count : hy_yv yX9_count cX9_count 2 1 8 (some .int) := ⟨hy_in_tb (i := 1148) (by decide +kernel) rfl, hy_in_tb (i := 1149) (by decide +kernel) rfl, hy_in_tb (i := 9) (by decide +kernel) rfl, hy_in_tb (i := 1150) rfl rfl, by decide +kernel, _, rfl, rfl⟩
