def hz_chk (ci : Nat) (ty : Nat → FieldType) (N c : Nat) : Bool := match hy_sh c with
  | (2, ci', rs) => !(Nat.beq ci ci') || (List.range N).all (fun j => match rs[j]? with
    | some none => decide (defaultValue (ty j) = .int 0)
    | some (some _) => decide (defaultValue (ty j) = .null)
    | none => true)
  | _ => true
theorem hz_chk_ok {ci : Nat} {ty : Nat → FieldType} {N : Nat} (h : (List.range 81).all (hz_chk ci ty N) = true) : ∀ c rs, hy_sh c = (2, ci, rs) → rs.length = N → ∀ j, j < N → (rs[j]? = some none → defaultValue (ty j) = .int 0) ∧ ((∃ r, rs[j]? = some (some r)) → defaultValue (ty j) = .null) := by
  intro c rs hsh hl j hj
  have hc := hy_sh_lt hsh (by omega)
  have h1 := List.all_eq_true.mp h c (List.mem_range.mpr hc)
  unfold hz_chk at h1
  rw [hsh] at h1
  have e : Nat.beq ci ci = true := Nat.beq_refl ci
  simp only [e, Bool.not_true, Bool.false_or] at h1
  have h2 := List.all_eq_true.mp h1 j (List.mem_range.mpr hj)
  refine ⟨fun h3 => ?_, fun ⟨r, h3⟩ => ?_⟩
  · rw [h3] at h2
    exact of_decide_eq_true h2
  · rw [h3] at h2
    exact of_decide_eq_true h2
theorem ia_c : Cond.arrayClass .int ∈ hy_WT := hy_in_tb (i := 48) (by decide +kernel) rfl
theorem io_i : Cond.instanceMethod objectInit ∈ hy_WT := hy_in_tb (i := 20) (by decide +kernel) rfl
set_option maxRecDepth 100000 in
theorem io_c : Cond.code objectInit ⟨#[0xb1]⟩ 1 none ∈ hy_WT := hy_in_tb (i := 21) (by decide +kernel) rfl
set_option maxRecDepth 100000 in
theorem iy_X2_init : hz_yi yX2_init cX2_init 1 := ⟨hy_in_tb (i := 33) (by decide +kernel) rfl, hy_in_tb (i := 3) (by decide +kernel) rfl, hy_in_tb (i := 34) rfl rfl, rfl, by decide +kernel⟩
set_option maxRecDepth 100000 in
theorem iy_X7_init : hz_yi yX7_init cX7_init 2 := ⟨hy_in_tb (i := 25) (by decide +kernel) rfl, hy_in_tb (i := 2) (by decide +kernel) rfl, hy_in_tb (i := 26) rfl rfl, rfl, by decide +kernel⟩
set_option maxRecDepth 100000 in
theorem iy_X6_init : hz_yi yX6_init cX6_init 1 := ⟨hy_in_tb (i := 108) (by decide +kernel) rfl, hy_in_tb (i := 4) (by decide +kernel) rfl, hy_in_tb (i := 109) rfl rfl, rfl, by decide +kernel⟩
set_option maxRecDepth 100000 in
theorem iy_X4_init : hz_yi yX4_init cX4_init 1 := ⟨hy_in_tb (i := 124) (by decide +kernel) rfl, hy_in_tb (i := 5) (by decide +kernel) rfl, hy_in_tb (i := 125) rfl rfl, rfl, by decide +kernel⟩
set_option maxRecDepth 100000 in
theorem iy_X3_init : hz_yi yX3_init cX3_init 2 := ⟨hy_in_tb (i := 139) (by decide +kernel) rfl, hy_in_tb (i := 6) (by decide +kernel) rfl, hy_in_tb (i := 140) rfl rfl, rfl, by decide +kernel⟩
set_option maxRecDepth 100000 in
theorem iy_X0_init : hz_yi yX0_init cX0_init 1 := ⟨hy_in_tb (i := 155) (by decide +kernel) rfl, hy_in_tb (i := 7) (by decide +kernel) rfl, hy_in_tb (i := 156) rfl rfl, rfl, by decide +kernel⟩
set_option maxRecDepth 100000 in
theorem iy_X5_init : hz_yi yX5_init cX5_init 1 := ⟨hy_in_tb (i := 187) (by decide +kernel) rfl, hy_in_tb (i := 8) (by decide +kernel) rfl, hy_in_tb (i := 188) rfl rfl, rfl, by decide +kernel⟩
set_option maxRecDepth 100000 in
theorem iy_X8_init : hz_yi yX8_init cX8_init 1 := ⟨hy_in_tb (i := 17) (by decide +kernel) rfl, hy_in_tb (i := 1) (by decide +kernel) rfl, hy_in_tb (i := 18) rfl rfl, rfl, by decide +kernel⟩
set_option maxRecDepth 100000 in
theorem iy_X9_init : hz_yi yX9_init cX9_init 2 := ⟨hy_in_tb (i := 716) (by decide +kernel) rfl, hy_in_tb (i := 9) (by decide +kernel) rfl, hy_in_tb (i := 717) rfl rfl, rfl, by decide +kernel⟩
theorem ik_X8_11 : Cond.methodLink RX8 11 yX7_init ∈ hy_WT := hy_in_tb (i := 24) (by decide +kernel) rfl
theorem ik_X8_41 : Cond.methodLink RX8 41 yX3_init ∈ hy_WT := hy_in_tb (i := 138) (by decide +kernel) rfl
theorem il_X3_16 : hy_fl RX3 16 2 1 := ⟨RX3, TX3, 2, tyX3, cls_2, by decide, hy_in_tb (i := 145) (by decide +kernel) rfl⟩
theorem il_X7_46 : hy_fl RX7 46 6 10 := ⟨RX7, TX7, 12, tyX7, cls_6, by decide, hy_in_tb (i := 75) (by decide +kernel) rfl⟩
theorem il_X9_48 : hy_fl RX9 48 8 19 := ⟨RX9, TX9, 20, tyX9, cls_8, by decide, hy_in_tb (i := 738) (by decide +kernel) rfl⟩
theorem il_X9_9 : hy_fl RX9 9 8 0 := ⟨RX9, TX9, 20, tyX9, cls_8, by decide, hy_in_tb (i := 719) (by decide +kernel) rfl⟩
theorem im_X2_11 : Cond.classLink RX2 11 "[[I" ∈ hy_WT := hy_in_tb (i := 36) (by decide +kernel) rfl
theorem im_X3_9 : Cond.classLink RX3 9 "[[I" ∈ hy_WT := hy_in_tb (i := 142) (by decide +kernel) rfl
theorem im_X7_38 : Cond.classLink RX7 38 "[[I" ∈ hy_WT := hy_in_tb (i := 28) (by decide +kernel) rfl
theorem in_X7_49 : hz_ni RX7 49 1 2 := ⟨RX2, TX2, tyX2, cls_1, hy_in_tb (i := 30) (by decide +kernel) rfl, hy_in_tb (i := 31) (by decide +kernel) rfl, hy_in_tb (i := 3) (by decide +kernel) rfl, hz_chk_ok (by decide +kernel)⟩
theorem in_X8_25 : hz_ni RX8 25 5 2 := ⟨RX6, TX6, tyX6, cls_5, hy_in_tb (i := 105) (by decide +kernel) rfl, hy_in_tb (i := 106) (by decide +kernel) rfl, hy_in_tb (i := 4) (by decide +kernel) rfl, hz_chk_ok (by decide +kernel)⟩
theorem in_X8_32 : hz_ni RX8 32 3 2 := ⟨RX4, TX4, tyX4, cls_3, hy_in_tb (i := 121) (by decide +kernel) rfl, hy_in_tb (i := 122) (by decide +kernel) rfl, hy_in_tb (i := 5) (by decide +kernel) rfl, hz_chk_ok (by decide +kernel)⟩
theorem in_X8_39 : hz_ni RX8 39 2 2 := ⟨RX3, TX3, tyX3, cls_2, hy_in_tb (i := 136) (by decide +kernel) rfl, hy_in_tb (i := 137) (by decide +kernel) rfl, hy_in_tb (i := 6) (by decide +kernel) rfl, hz_chk_ok (by decide +kernel)⟩
theorem in_X8_46 : hz_ni RX8 46 0 8 := ⟨RX0, TX0, tyX0, cls_0, hy_in_tb (i := 152) (by decide +kernel) rfl, hy_in_tb (i := 153) (by decide +kernel) rfl, hy_in_tb (i := 7) (by decide +kernel) rfl, hz_chk_ok (by decide +kernel)⟩
theorem in_X8_53 : hz_ni RX8 53 4 5 := ⟨RX5, TX5, tyX5, cls_4, hy_in_tb (i := 184) (by decide +kernel) rfl, hy_in_tb (i := 185) (by decide +kernel) rfl, hy_in_tb (i := 8) (by decide +kernel) rfl, hz_chk_ok (by decide +kernel)⟩
theorem in_X8_60 : hz_ni RX8 60 1 2 := ⟨RX2, TX2, tyX2, cls_1, hy_in_tb (i := 210) (by decide +kernel) rfl, hy_in_tb (i := 31) (by decide +kernel) rfl, hy_in_tb (i := 3) (by decide +kernel) rfl, hz_chk_ok (by decide +kernel)⟩
theorem in_X8_9 : hz_ni RX8 9 6 12 := ⟨RX7, TX7, tyX7, cls_6, hy_in_tb (i := 22) (by decide +kernel) rfl, hy_in_tb (i := 23) (by decide +kernel) rfl, hy_in_tb (i := 2) (by decide +kernel) rfl, hz_chk_ok (by decide +kernel)⟩
theorem io_X0_3 : Cond.methodLink RX0 3 objectInit ∈ hy_WT := hy_in_tb (i := 157) (by decide +kernel) rfl
theorem io_X2_3 : Cond.methodLink RX2 3 objectInit ∈ hy_WT := hy_in_tb (i := 35) (by decide +kernel) rfl
theorem io_X3_3 : Cond.methodLink RX3 3 objectInit ∈ hy_WT := hy_in_tb (i := 141) (by decide +kernel) rfl
theorem io_X4_3 : Cond.methodLink RX4 3 objectInit ∈ hy_WT := hy_in_tb (i := 126) (by decide +kernel) rfl
theorem io_X5_3 : Cond.methodLink RX5 3 objectInit ∈ hy_WT := hy_in_tb (i := 189) (by decide +kernel) rfl
theorem io_X6_3 : Cond.methodLink RX6 3 objectInit ∈ hy_WT := hy_in_tb (i := 110) (by decide +kernel) rfl
theorem io_X7_3 : Cond.methodLink RX7 3 objectInit ∈ hy_WT := hy_in_tb (i := 27) (by decide +kernel) rfl
theorem io_X8_3 : Cond.methodLink RX8 3 objectInit ∈ hy_WT := hy_in_tb (i := 19) (by decide +kernel) rfl
theorem io_X9_3 : Cond.methodLink RX9 3 objectInit ∈ hy_WT := hy_in_tb (i := 718) (by decide +kernel) rfl
theorem ip_X0_15 : hy_fp RX0 15 0 1 .int := ⟨RX0, TX0, 8, tyX0, cls_0, by decide, hy_in_tb (i := 159) (by decide +kernel) rfl, rfl, rfl⟩
theorem ip_X0_31 : hy_fp RX0 31 0 6 .int := ⟨RX0, TX0, 8, tyX0, cls_0, by decide, hy_in_tb (i := 164) (by decide +kernel) rfl, rfl, rfl⟩
theorem ip_X4_15 : hy_fp RX4 15 3 1 .int := ⟨RX4, TX4, 2, tyX4, cls_3, by decide, hy_in_tb (i := 129) (by decide +kernel) rfl, rfl, rfl⟩
theorem ip_X5_18 : hy_fp RX5 18 4 2 .int := ⟨RX5, TX5, 5, tyX5, cls_4, by decide, hy_in_tb (i := 193) (by decide +kernel) rfl, rfl, rfl⟩
theorem ip_X5_22 : hy_fp RX5 22 4 3 .int := ⟨RX5, TX5, 5, tyX5, cls_4, by decide, hy_in_tb (i := 195) (by decide +kernel) rfl, rfl, rfl⟩
theorem ip_X5_25 : hy_fp RX5 25 4 4 .int := ⟨RX5, TX5, 5, tyX5, cls_4, by decide, hy_in_tb (i := 197) (by decide +kernel) rfl, rfl, rfl⟩
theorem ip_X6_15 : hy_fp RX6 15 5 1 .int := ⟨RX6, TX6, 2, tyX6, cls_5, by decide, hy_in_tb (i := 113) (by decide +kernel) rfl, rfl, rfl⟩
theorem ip_X7_15 : hy_fp RX7 15 6 1 .int := ⟨RX7, TX7, 12, tyX7, cls_6, by decide, hy_in_tb (i := 53) (by decide +kernel) rfl, rfl, rfl⟩
theorem ip_X7_18 : hy_fp RX7 18 6 2 .boolean := ⟨RX7, TX7, 12, tyX7, cls_6, by decide, hy_in_tb (i := 56) (by decide +kernel) rfl, rfl, rfl⟩
theorem ip_X7_22 : hy_fp RX7 22 6 3 .int := ⟨RX7, TX7, 12, tyX7, cls_6, by decide, hy_in_tb (i := 58) (by decide +kernel) rfl, rfl, rfl⟩
theorem ip_X7_9 : hy_fp RX7 9 6 0 .int := ⟨RX7, TX7, 12, tyX7, cls_6, by decide, hy_in_tb (i := 49) (by decide +kernel) rfl, rfl, rfl⟩
theorem ip_X8_21 : hy_fp RX8 21 7 2 .boolean := ⟨RX8, TX8, 10, tyX8, cls_7, by decide, hy_in_tb (i := 214) (by decide +kernel) rfl, rfl, rfl⟩
theorem ir_X0_19 : hz_fr RX0 19 0 2 := ⟨RX0, TX0, 8, tyX0, cls_0, by decide, hy_in_tb (i := 160) (by decide +kernel) rfl, rfl, rfl, Or.inr ⟨_, rfl⟩⟩
theorem ir_X0_22 : hz_fr RX0 22 0 3 := ⟨RX0, TX0, 8, tyX0, cls_0, by decide, hy_in_tb (i := 161) (by decide +kernel) rfl, rfl, rfl, Or.inr ⟨_, rfl⟩⟩
theorem ir_X0_25 : hz_fr RX0 25 0 4 := ⟨RX0, TX0, 8, tyX0, cls_0, by decide, hy_in_tb (i := 162) (by decide +kernel) rfl, rfl, rfl, Or.inr ⟨_, rfl⟩⟩
theorem ir_X0_28 : hz_fr RX0 28 0 5 := ⟨RX0, TX0, 8, tyX0, cls_0, by decide, hy_in_tb (i := 163) (by decide +kernel) rfl, rfl, rfl, Or.inr ⟨_, rfl⟩⟩
theorem ir_X0_34 : hz_fr RX0 34 0 7 := ⟨RX0, TX0, 8, tyX0, cls_0, by decide, hy_in_tb (i := 165) (by decide +kernel) rfl, rfl, rfl, Or.inr ⟨_, rfl⟩⟩
theorem ir_X0_9 : hz_fr RX0 9 0 0 := ⟨RX0, TX0, 8, tyX0, cls_0, by decide, hy_in_tb (i := 158) (by decide +kernel) rfl, rfl, rfl, Or.inr ⟨_, rfl⟩⟩
theorem ir_X2_13 : hz_fr RX2 13 1 0 := ⟨RX2, TX2, 2, tyX2, cls_1, by decide, hy_in_tb (i := 37) (by decide +kernel) rfl, rfl, rfl, Or.inr ⟨_, rfl⟩⟩
theorem ir_X2_16 : hz_fr RX2 16 1 1 := ⟨RX2, TX2, 2, tyX2, cls_1, by decide, hy_in_tb (i := 40) (by decide +kernel) rfl, rfl, rfl, Or.inr ⟨_, rfl⟩⟩
theorem ir_X3_11 : hz_fr RX3 11 2 0 := ⟨RX3, TX3, 2, tyX3, cls_2, by decide, hy_in_tb (i := 143) (by decide +kernel) rfl, rfl, rfl, Or.inr ⟨_, rfl⟩⟩
theorem ir_X3_16 : hz_fr RX3 16 2 1 := ⟨RX3, TX3, 2, tyX3, cls_2, by decide, hy_in_tb (i := 145) (by decide +kernel) rfl, rfl, rfl, Or.inr ⟨_, rfl⟩⟩
theorem ir_X4_9 : hz_fr RX4 9 3 0 := ⟨RX4, TX4, 2, tyX4, cls_3, by decide, hy_in_tb (i := 127) (by decide +kernel) rfl, rfl, rfl, Or.inr ⟨_, rfl⟩⟩
theorem ir_X5_15 : hz_fr RX5 15 4 1 := ⟨RX5, TX5, 5, tyX5, cls_4, by decide, hy_in_tb (i := 191) (by decide +kernel) rfl, rfl, rfl, Or.inr ⟨_, rfl⟩⟩
theorem ir_X5_9 : hz_fr RX5 9 4 0 := ⟨RX5, TX5, 5, tyX5, cls_4, by decide, hy_in_tb (i := 190) (by decide +kernel) rfl, rfl, rfl, Or.inr ⟨_, rfl⟩⟩
theorem ir_X6_9 : hz_fr RX6 9 5 0 := ⟨RX6, TX6, 2, tyX6, cls_5, by decide, hy_in_tb (i := 111) (by decide +kernel) rfl, rfl, rfl, Or.inr ⟨_, rfl⟩⟩
theorem ir_X7_25 : hz_fr RX7 25 6 4 := ⟨RX7, TX7, 12, tyX7, cls_6, by decide, hy_in_tb (i := 60) (by decide +kernel) rfl, rfl, rfl, Or.inr ⟨_, rfl⟩⟩
theorem ir_X7_29 : hz_fr RX7 29 6 5 := ⟨RX7, TX7, 12, tyX7, cls_6, by decide, hy_in_tb (i := 63) (by decide +kernel) rfl, rfl, rfl, Or.inr ⟨_, rfl⟩⟩
theorem ir_X7_32 : hz_fr RX7 32 6 6 := ⟨RX7, TX7, 12, tyX7, cls_6, by decide, hy_in_tb (i := 65) (by decide +kernel) rfl, rfl, rfl, Or.inr ⟨_, rfl⟩⟩
theorem ir_X7_35 : hz_fr RX7 35 6 7 := ⟨RX7, TX7, 12, tyX7, cls_6, by decide, hy_in_tb (i := 68) (by decide +kernel) rfl, rfl, rfl, Or.inr ⟨_, rfl⟩⟩
theorem ir_X7_40 : hz_fr RX7 40 6 8 := ⟨RX7, TX7, 12, tyX7, cls_6, by decide, hy_in_tb (i := 71) (by decide +kernel) rfl, rfl, rfl, Or.inr ⟨_, rfl⟩⟩
theorem ir_X7_43 : hz_fr RX7 43 6 9 := ⟨RX7, TX7, 12, tyX7, cls_6, by decide, hy_in_tb (i := 72) (by decide +kernel) rfl, rfl, rfl, Or.inr ⟨_, rfl⟩⟩
theorem ir_X7_46 : hz_fr RX7 46 6 10 := ⟨RX7, TX7, 12, tyX7, cls_6, by decide, hy_in_tb (i := 75) (by decide +kernel) rfl, rfl, rfl, Or.inr ⟨_, rfl⟩⟩
theorem ir_X7_52 : hz_fr RX7 52 6 11 := ⟨RX7, TX7, 12, tyX7, cls_6, by decide, hy_in_tb (i := 78) (by decide +kernel) rfl, rfl, rfl, Or.inl ⟨_, rfl⟩⟩
theorem ir_X8_12 : hz_fr RX8 12 7 0 := ⟨RX8, TX8, 10, tyX8, cls_7, by decide, hy_in_tb (i := 212) (by decide +kernel) rfl, rfl, rfl, Or.inl ⟨_, rfl⟩⟩
theorem ir_X8_18 : hz_fr RX8 18 7 1 := ⟨RX8, TX8, 10, tyX8, cls_7, by decide, hy_in_tb (i := 213) (by decide +kernel) rfl, rfl, rfl, Or.inl ⟨_, rfl⟩⟩
theorem ir_X8_28 : hz_fr RX8 28 7 3 := ⟨RX8, TX8, 10, tyX8, cls_7, by decide, hy_in_tb (i := 215) (by decide +kernel) rfl, rfl, rfl, Or.inl ⟨_, rfl⟩⟩
theorem ir_X8_35 : hz_fr RX8 35 7 4 := ⟨RX8, TX8, 10, tyX8, cls_7, by decide, hy_in_tb (i := 216) (by decide +kernel) rfl, rfl, rfl, Or.inl ⟨_, rfl⟩⟩
theorem ir_X8_42 : hz_fr RX8 42 7 5 := ⟨RX8, TX8, 10, tyX8, cls_7, by decide, hy_in_tb (i := 217) (by decide +kernel) rfl, rfl, rfl, Or.inl ⟨_, rfl⟩⟩
theorem ir_X8_49 : hz_fr RX8 49 7 6 := ⟨RX8, TX8, 10, tyX8, cls_7, by decide, hy_in_tb (i := 218) (by decide +kernel) rfl, rfl, rfl, Or.inl ⟨_, rfl⟩⟩
theorem ir_X8_56 : hz_fr RX8 56 7 7 := ⟨RX8, TX8, 10, tyX8, cls_7, by decide, hy_in_tb (i := 219) (by decide +kernel) rfl, rfl, rfl, Or.inl ⟨_, rfl⟩⟩
theorem ir_X8_63 : hz_fr RX8 63 7 8 := ⟨RX8, TX8, 10, tyX8, cls_7, by decide, hy_in_tb (i := 220) (by decide +kernel) rfl, rfl, rfl, Or.inl ⟨_, rfl⟩⟩
theorem ir_X8_67 : hz_fr RX8 67 7 9 := ⟨RX8, TX8, 10, tyX8, cls_7, by decide, hy_in_tb (i := 221) (by decide +kernel) rfl, rfl, rfl, Or.inr ⟨_, rfl⟩⟩
theorem ir_X9_15 : hz_fr RX9 15 8 1 := ⟨RX9, TX9, 20, tyX9, cls_8, by decide, hy_in_tb (i := 720) (by decide +kernel) rfl, rfl, rfl, Or.inr ⟨_, rfl⟩⟩
theorem ir_X9_18 : hz_fr RX9 18 8 2 := ⟨RX9, TX9, 20, tyX9, cls_8, by decide, hy_in_tb (i := 721) (by decide +kernel) rfl, rfl, rfl, Or.inr ⟨_, rfl⟩⟩
theorem ir_X9_21 : hz_fr RX9 21 8 4 := ⟨RX9, TX9, 20, tyX9, cls_8, by decide, hy_in_tb (i := 723) (by decide +kernel) rfl, rfl, rfl, Or.inr ⟨_, rfl⟩⟩
theorem ir_X9_24 : hz_fr RX9 24 8 6 := ⟨RX9, TX9, 20, tyX9, cls_8, by decide, hy_in_tb (i := 725) (by decide +kernel) rfl, rfl, rfl, Or.inr ⟨_, rfl⟩⟩
theorem ir_X9_27 : hz_fr RX9 27 8 7 := ⟨RX9, TX9, 20, tyX9, cls_8, by decide, hy_in_tb (i := 726) (by decide +kernel) rfl, rfl, rfl, Or.inr ⟨_, rfl⟩⟩
theorem ir_X9_30 : hz_fr RX9 30 8 8 := ⟨RX9, TX9, 20, tyX9, cls_8, by decide, hy_in_tb (i := 727) (by decide +kernel) rfl, rfl, rfl, Or.inr ⟨_, rfl⟩⟩
theorem ir_X9_33 : hz_fr RX9 33 8 9 := ⟨RX9, TX9, 20, tyX9, cls_8, by decide, hy_in_tb (i := 728) (by decide +kernel) rfl, rfl, rfl, Or.inr ⟨_, rfl⟩⟩
theorem ir_X9_36 : hz_fr RX9 36 8 10 := ⟨RX9, TX9, 20, tyX9, cls_8, by decide, hy_in_tb (i := 729) (by decide +kernel) rfl, rfl, rfl, Or.inr ⟨_, rfl⟩⟩
theorem ir_X9_39 : hz_fr RX9 39 8 15 := ⟨RX9, TX9, 20, tyX9, cls_8, by decide, hy_in_tb (i := 734) (by decide +kernel) rfl, rfl, rfl, Or.inr ⟨_, rfl⟩⟩
theorem ir_X9_42 : hz_fr RX9 42 8 17 := ⟨RX9, TX9, 20, tyX9, cls_8, by decide, hy_in_tb (i := 736) (by decide +kernel) rfl, rfl, rfl, Or.inr ⟨_, rfl⟩⟩
theorem ir_X9_45 : hz_fr RX9 45 8 18 := ⟨RX9, TX9, 20, tyX9, cls_8, by decide, hy_in_tb (i := 737) (by decide +kernel) rfl, rfl, rfl, Or.inr ⟨_, rfl⟩⟩
theorem ir_X9_48 : hz_fr RX9 48 8 19 := ⟨RX9, TX9, 20, tyX9, cls_8, by decide, hy_in_tb (i := 738) (by decide +kernel) rfl, rfl, rfl, Or.inr ⟨_, rfl⟩⟩
theorem ir_X9_9 : hz_fr RX9 9 8 0 := ⟨RX9, TX9, 20, tyX9, cls_8, by decide, hy_in_tb (i := 719) (by decide +kernel) rfl, rfl, rfl, Or.inr ⟨_, rfl⟩⟩
def z_X2_init_0 : hz_C := (z_aload 0 (z_obj (z_aload 0 (z_push (.int 5) (z_push (.int 8) (z_mna 7 50 (z_putR 1 0 (z_aload 0 (z_push (.int 5) (z_newa 7 50 (z_putR 1 1 (z_vret 7 50))))))))))))
set_option maxRecDepth 100000 in
set_option maxHeartbeats 4000000 in
theorem t_X2_init_0 {G : hy_G} {x : hy_X} {b : hz_S} (X : hz_Cx G x RX2 cX2_init 1 1 20 7 50) (i : hz_init x) (r : hz_Rv G x b 7 50) : hz_Sn G x 1 0 b z_X2_init_0 := by
  exact (hz_aload_n (pc := 0) (w := 0) X (by decide +kernel) rfl (hz_obj (pc := 1) X io_X2_3 io_i io_c (Nat.le_of_ble_eq_true rfl) (Nat.le_of_ble_eq_true rfl) (by decide +kernel) (hz_aload_n (pc := 4) (w := 0) X (by decide +kernel) rfl (hz_iconst (pc := 5) (n := 5) X (by decide +kernel) (by decide +kernel) (hz_bipush (pc := 6) (n := 8) X (by decide +kernel) (by decide +kernel) (hz_mna (pc := 8) X im_X2_11 ia_c (by decide +kernel) (hz_putR (pc := 12) X ir_X2_13 i (by decide +kernel) (hz_aload_n (pc := 15) (w := 0) X (by decide +kernel) rfl (hz_iconst (pc := 16) (n := 5) X (by decide +kernel) (by decide +kernel) (hz_newa (pc := 17) X ia_c (by decide +kernel) (hz_putR (pc := 19) X ir_X2_16 i (by decide +kernel) (hz_vret (pc := 22) X r (by decide +kernel)))))))))))))
def zg_X2_init : List Value → hz_S → Option hz_S := hz_g 1 z_X2_init_0
theorem zm_X2_init {G : hy_G} : ∀ l, hz_M l G yX2_init cX2_init 1 1 20 7 50 zg_X2_init := hz_met (y := yX2_init) (by decide +kernel) rfl (fun x b X i r => t_X2_init_0 X i r)
def z_X7_init_94 : Nat → hz_C
  | 0 => fun _ _ _ _ _ => none
  | n + 1 => (z_iload 1 (z_push (.int 3) (z_clt (z_aload 0 (z_getR 6 10 (z_iload 1 (z_push (.int 24) (z_iast (z_iinc 1 1 (z_X7_init_94 n))))))) (z_vret 17 107))))
set_option maxRecDepth 100000 in
set_option maxHeartbeats 4000000 in
theorem t_X7_init_94 {G : hy_G} {x : hy_X} {b : hz_S} (X : hz_Cx G x RX7 cX7_init 2 2 40 17 107) (i : hz_init x) (r : hz_Rv G x b 17 107) : ∀ n, hz_Sn G x 2 94 b (z_X7_init_94 n) := by
  intro n
  induction n with
  | zero => intro L S cu su q ls H locs hL hH hS h; cases h
  | succ n ih =>
    exact (hz_iload_n (pc := 94) (w := 1) X (by decide +kernel) rfl (hz_iconst (pc := 95) (n := 3) X (by decide +kernel) (by decide +kernel) (hz_cge (pc := 96) (off := 17) (tgt := 113) X (by decide +kernel) (by decide) (hz_aload_n (pc := 99) (w := 0) X (by decide +kernel) rfl (hz_getR (pc := 100) X il_X7_46 (by decide +kernel) (hz_iload_n (pc := 103) (w := 1) X (by decide +kernel) rfl (hz_bipush (pc := 104) (n := 24) X (by decide +kernel) (by decide +kernel) (hz_iast (pc := 106) X (by decide +kernel) (hz_iinc (pc := 107) (n := 1) X (by decide +kernel) (by decide +kernel) (Nat.le_of_ble_eq_true rfl) (hz_goto (pc := 110) (off := (-16)) (tgt := 94) X (by decide +kernel) (by decide) ih))))))) (hz_vret (pc := 113) X r (by decide +kernel)))))
def z_X7_init_0 : hz_C := (z_aload 0 (z_obj (z_aload 0 (z_push (.int 0) (z_putI 6 0 (z_aload 0 (z_push (.int 0) (z_putI 6 1 (z_aload 0 (z_push (.int 0) (z_putZ 6 2 (z_aload 0 (z_push (.int 0) (z_putI 6 3 (z_aload 0 (z_push (.int 8) (z_newa 17 107 (z_putR 6 4 (z_aload 0 (z_push (.int 8) (z_newa 17 107 (z_putR 6 5 (z_aload 0 (z_push (.int 8) (z_newa 17 107 (z_putR 6 6 (z_aload 0 (z_push (.int 8) (z_newa 17 107 (z_putR 6 7 (z_aload 0 (z_push (.int 2) (z_push (.int 8) (z_mna 17 107 (z_putR 6 8 (z_aload 0 (z_push (.int 2) (z_newa 17 107 (z_putR 6 9 (z_aload 0 (z_push (.int 3) (z_newa 17 107 (z_putR 6 10 (z_aload 0 (z_new 1 2 17 107 (z_dup (z_ini 17 107 7 50 zg_X2_init (z_putR 6 11 (z_push (.int 0) (z_istore 1 (z_X7_init_94 20)))))))))))))))))))))))))))))))))))))))))))))))))))
set_option maxRecDepth 100000 in
set_option maxHeartbeats 4000000 in
theorem t_X7_init_0 {G : hy_G} {x : hy_X} {b : hz_S} (X : hz_Cx G x RX7 cX7_init 2 2 40 17 107) (i : hz_init x) (r : hz_Rv G x b 17 107) : hz_Sn G x 2 0 b z_X7_init_0 := by
  exact (hz_aload_n (pc := 0) (w := 0) X (by decide +kernel) rfl (hz_obj (pc := 1) X io_X7_3 io_i io_c (Nat.le_of_ble_eq_true rfl) (Nat.le_of_ble_eq_true rfl) (by decide +kernel) (hz_aload_n (pc := 4) (w := 0) X (by decide +kernel) rfl (hz_iconst (pc := 5) (n := 0) X (by decide +kernel) (by decide +kernel) (hz_putI (pc := 6) X ip_X7_9 (by decide +kernel) (hz_aload_n (pc := 9) (w := 0) X (by decide +kernel) rfl (hz_iconst (pc := 10) (n := 0) X (by decide +kernel) (by decide +kernel) (hz_putI (pc := 11) X ip_X7_15 (by decide +kernel) (hz_aload_n (pc := 14) (w := 0) X (by decide +kernel) rfl (hz_iconst (pc := 15) (n := 0) X (by decide +kernel) (by decide +kernel) (hz_putZ (pc := 16) X ip_X7_18 (by decide +kernel) (hz_aload_n (pc := 19) (w := 0) X (by decide +kernel) rfl (hz_iconst (pc := 20) (n := 0) X (by decide +kernel) (by decide +kernel) (hz_putI (pc := 21) X ip_X7_22 (by decide +kernel) (hz_aload_n (pc := 24) (w := 0) X (by decide +kernel) rfl (hz_bipush (pc := 25) (n := 8) X (by decide +kernel) (by decide +kernel) (hz_newa (pc := 27) X ia_c (by decide +kernel) (hz_putR (pc := 29) X ir_X7_25 i (by decide +kernel) (hz_aload_n (pc := 32) (w := 0) X (by decide +kernel) rfl (hz_bipush (pc := 33) (n := 8) X (by decide +kernel) (by decide +kernel) (hz_newa (pc := 35) X ia_c (by decide +kernel) (hz_putR (pc := 37) X ir_X7_29 i (by decide +kernel) (hz_aload_n (pc := 40) (w := 0) X (by decide +kernel) rfl (hz_bipush (pc := 41) (n := 8) X (by decide +kernel) (by decide +kernel) (hz_newa (pc := 43) X ia_c (by decide +kernel) (hz_putR (pc := 45) X ir_X7_32 i (by decide +kernel) (hz_aload_n (pc := 48) (w := 0) X (by decide +kernel) rfl (hz_bipush (pc := 49) (n := 8) X (by decide +kernel) (by decide +kernel) (hz_newa (pc := 51) X ia_c (by decide +kernel) (hz_putR (pc := 53) X ir_X7_35 i (by decide +kernel) (hz_aload_n (pc := 56) (w := 0) X (by decide +kernel) rfl (hz_iconst (pc := 57) (n := 2) X (by decide +kernel) (by decide +kernel) (hz_bipush (pc := 58) (n := 8) X (by decide +kernel) (by decide +kernel) (hz_mna (pc := 60) X im_X7_38 ia_c (by decide +kernel) (hz_putR (pc := 64) X ir_X7_40 i (by decide +kernel) (hz_aload_n (pc := 67) (w := 0) X (by decide +kernel) rfl (hz_iconst (pc := 68) (n := 2) X (by decide +kernel) (by decide +kernel) (hz_newa (pc := 69) X ia_c (by decide +kernel) (hz_putR (pc := 71) X ir_X7_43 i (by decide +kernel) (hz_aload_n (pc := 74) (w := 0) X (by decide +kernel) rfl (hz_iconst (pc := 75) (n := 3) X (by decide +kernel) (by decide +kernel) (hz_newa (pc := 76) X ia_c (by decide +kernel) (hz_putR (pc := 78) X ir_X7_46 i (by decide +kernel) (hz_aload_n (pc := 81) (w := 0) X (by decide +kernel) rfl (hz_new (pc := 82) X in_X7_49 (by decide +kernel) (hz_dup (pc := 85) X (by decide +kernel) (hz_iniN (pc := 86) X (zm_X2_init (G := _)) iy_X2_init (fun s h => h.2.2.2.1) (by decide +kernel) (Nat.le_of_ble_eq_true rfl) (Nat.le_of_ble_eq_true rfl) (hz_putR (pc := 89) X ir_X7_52 i (by decide +kernel) (hz_iconst (pc := 92) (n := 0) X (by decide +kernel) (by decide +kernel) (hz_istore_n (pc := 93) (w := 1) X (by decide +kernel) rfl (Nat.le_of_ble_eq_true rfl) (t_X7_init_94 X i r 20)))))))))))))))))))))))))))))))))))))))))))))))))))
def zg_X7_init : List Value → hz_S → Option hz_S := hz_g 2 z_X7_init_0
theorem zm_X7_init {G : hy_G} : ∀ l, hz_M l G yX7_init cX7_init 2 2 40 17 107 zg_X7_init := hz_met (y := yX7_init) (by decide +kernel) rfl (fun x b X i r => t_X7_init_0 X i r)
def z_X6_init_0 : hz_C := (z_aload 0 (z_obj (z_aload 0 (z_push (.int 40) (z_newa 1 40 (z_putR 5 0 (z_aload 0 (z_push (.int 0) (z_putI 5 1 (z_vret 1 40))))))))))
set_option maxRecDepth 100000 in
set_option maxHeartbeats 4000000 in
theorem t_X6_init_0 {G : hy_G} {x : hy_X} {b : hz_S} (X : hz_Cx G x RX6 cX6_init 1 1 20 1 40) (i : hz_init x) (r : hz_Rv G x b 1 40) : hz_Sn G x 1 0 b z_X6_init_0 := by
  exact (hz_aload_n (pc := 0) (w := 0) X (by decide +kernel) rfl (hz_obj (pc := 1) X io_X6_3 io_i io_c (Nat.le_of_ble_eq_true rfl) (Nat.le_of_ble_eq_true rfl) (by decide +kernel) (hz_aload_n (pc := 4) (w := 0) X (by decide +kernel) rfl (hz_bipush (pc := 5) (n := 40) X (by decide +kernel) (by decide +kernel) (hz_newa (pc := 7) X ia_c (by decide +kernel) (hz_putR (pc := 9) X ir_X6_9 i (by decide +kernel) (hz_aload_n (pc := 12) (w := 0) X (by decide +kernel) rfl (hz_iconst (pc := 13) (n := 0) X (by decide +kernel) (by decide +kernel) (hz_putI (pc := 14) X ip_X6_15 (by decide +kernel) (hz_vret (pc := 17) X r (by decide +kernel)))))))))))
def zg_X6_init : List Value → hz_S → Option hz_S := hz_g 1 z_X6_init_0
theorem zm_X6_init {G : hy_G} : ∀ l, hz_M l G yX6_init cX6_init 1 1 20 1 40 zg_X6_init := hz_met (y := yX6_init) (by decide +kernel) rfl (fun x b X i r => t_X6_init_0 X i r)
def z_X4_init_0 : hz_C := (z_aload 0 (z_obj (z_aload 0 (z_push (.int 71) (z_newa 1 71 (z_putR 3 0 (z_aload 0 (z_push (.int 0) (z_putI 3 1 (z_vret 1 71))))))))))
set_option maxRecDepth 100000 in
set_option maxHeartbeats 4000000 in
theorem t_X4_init_0 {G : hy_G} {x : hy_X} {b : hz_S} (X : hz_Cx G x RX4 cX4_init 1 1 20 1 71) (i : hz_init x) (r : hz_Rv G x b 1 71) : hz_Sn G x 1 0 b z_X4_init_0 := by
  exact (hz_aload_n (pc := 0) (w := 0) X (by decide +kernel) rfl (hz_obj (pc := 1) X io_X4_3 io_i io_c (Nat.le_of_ble_eq_true rfl) (Nat.le_of_ble_eq_true rfl) (by decide +kernel) (hz_aload_n (pc := 4) (w := 0) X (by decide +kernel) rfl (hz_bipush (pc := 5) (n := 71) X (by decide +kernel) (by decide +kernel) (hz_newa (pc := 7) X ia_c (by decide +kernel) (hz_putR (pc := 9) X ir_X4_9 i (by decide +kernel) (hz_aload_n (pc := 12) (w := 0) X (by decide +kernel) rfl (hz_iconst (pc := 13) (n := 0) X (by decide +kernel) (by decide +kernel) (hz_putI (pc := 14) X ip_X4_15 (by decide +kernel) (hz_vret (pc := 17) X r (by decide +kernel)))))))))))
def zg_X4_init : List Value → hz_S → Option hz_S := hz_g 1 z_X4_init_0
theorem zm_X4_init {G : hy_G} : ∀ l, hz_M l G yX4_init cX4_init 1 1 20 1 71 zg_X4_init := hz_met (y := yX4_init) (by decide +kernel) rfl (fun x b X i r => t_X4_init_0 X i r)
def z_X3_init_24 : Nat → hz_C
  | 0 => fun _ _ _ _ _ => none
  | n + 1 => (z_iload 1 (z_push (.int 4) (z_clt (z_aload 0 (z_getR 2 1 (z_iload 1 (z_push (.int (-1)) (z_iast (z_iinc 1 1 (z_X3_init_24 n))))))) (z_vret 6 56))))
set_option maxRecDepth 100000 in
set_option maxHeartbeats 4000000 in
theorem t_X3_init_24 {G : hy_G} {x : hy_X} {b : hz_S} (X : hz_Cx G x RX3 cX3_init 2 1 20 6 56) (i : hz_init x) (r : hz_Rv G x b 6 56) : ∀ n, hz_Sn G x 2 24 b (z_X3_init_24 n) := by
  intro n
  induction n with
  | zero => intro L S cu su q ls H locs hL hH hS h; cases h
  | succ n ih =>
    exact (hz_iload_n (pc := 24) (w := 1) X (by decide +kernel) rfl (hz_iconst (pc := 25) (n := 4) X (by decide +kernel) (by decide +kernel) (hz_cge (pc := 26) (off := 16) (tgt := 42) X (by decide +kernel) (by decide) (hz_aload_n (pc := 29) (w := 0) X (by decide +kernel) rfl (hz_getR (pc := 30) X il_X3_16 (by decide +kernel) (hz_iload_n (pc := 33) (w := 1) X (by decide +kernel) rfl (hz_iconst (pc := 34) (n := (-1)) X (by decide +kernel) (by decide +kernel) (hz_iast (pc := 35) X (by decide +kernel) (hz_iinc (pc := 36) (n := 1) X (by decide +kernel) (by decide +kernel) (Nat.le_of_ble_eq_true rfl) (hz_goto (pc := 39) (off := (-15)) (tgt := 24) X (by decide +kernel) (by decide) ih))))))) (hz_vret (pc := 42) X r (by decide +kernel)))))
def z_X3_init_0 : hz_C := (z_aload 0 (z_obj (z_aload 0 (z_push (.int 4) (z_push (.int 12) (z_mna 6 56 (z_putR 2 0 (z_aload 0 (z_push (.int 4) (z_newa 6 56 (z_putR 2 1 (z_push (.int 0) (z_istore 1 (z_X3_init_24 20))))))))))))))
set_option maxRecDepth 100000 in
set_option maxHeartbeats 4000000 in
theorem t_X3_init_0 {G : hy_G} {x : hy_X} {b : hz_S} (X : hz_Cx G x RX3 cX3_init 2 1 20 6 56) (i : hz_init x) (r : hz_Rv G x b 6 56) : hz_Sn G x 2 0 b z_X3_init_0 := by
  exact (hz_aload_n (pc := 0) (w := 0) X (by decide +kernel) rfl (hz_obj (pc := 1) X io_X3_3 io_i io_c (Nat.le_of_ble_eq_true rfl) (Nat.le_of_ble_eq_true rfl) (by decide +kernel) (hz_aload_n (pc := 4) (w := 0) X (by decide +kernel) rfl (hz_iconst (pc := 5) (n := 4) X (by decide +kernel) (by decide +kernel) (hz_bipush (pc := 6) (n := 12) X (by decide +kernel) (by decide +kernel) (hz_mna (pc := 8) X im_X3_9 ia_c (by decide +kernel) (hz_putR (pc := 12) X ir_X3_11 i (by decide +kernel) (hz_aload_n (pc := 15) (w := 0) X (by decide +kernel) rfl (hz_iconst (pc := 16) (n := 4) X (by decide +kernel) (by decide +kernel) (hz_newa (pc := 17) X ia_c (by decide +kernel) (hz_putR (pc := 19) X ir_X3_16 i (by decide +kernel) (hz_iconst (pc := 22) (n := 0) X (by decide +kernel) (by decide +kernel) (hz_istore_n (pc := 23) (w := 1) X (by decide +kernel) rfl (Nat.le_of_ble_eq_true rfl) (t_X3_init_24 X i r 20))))))))))))))
def zg_X3_init : List Value → hz_S → Option hz_S := hz_g 2 z_X3_init_0
theorem zm_X3_init {G : hy_G} : ∀ l, hz_M l G yX3_init cX3_init 2 1 20 6 56 zg_X3_init := hz_met (y := yX3_init) (by decide +kernel) rfl (fun x b X i r => t_X3_init_0 X i r)
def z_X0_init_0 : hz_C := (z_aload 0 (z_obj (z_aload 0 (z_push (.int 8) (z_newa 6 44 (z_putR 0 0 (z_aload 0 (z_push (.int 0) (z_putI 0 1 (z_aload 0 (z_push (.int 8) (z_newa 6 44 (z_putR 0 2 (z_aload 0 (z_push (.int 8) (z_newa 6 44 (z_putR 0 3 (z_aload 0 (z_push (.int 3) (z_newa 6 44 (z_putR 0 4 (z_aload 0 (z_push (.int 9) (z_newa 6 44 (z_putR 0 5 (z_aload 0 (z_push (.int 1000) (z_putI 0 6 (z_aload 0 (z_push (.int 8) (z_newa 6 44 (z_putR 0 7 (z_vret 6 44)))))))))))))))))))))))))))))))))
set_option maxRecDepth 100000 in
set_option maxHeartbeats 4000000 in
theorem t_X0_init_0 {G : hy_G} {x : hy_X} {b : hz_S} (X : hz_Cx G x RX0 cX0_init 1 1 20 6 44) (i : hz_init x) (r : hz_Rv G x b 6 44) : hz_Sn G x 1 0 b z_X0_init_0 := by
  exact (hz_aload_n (pc := 0) (w := 0) X (by decide +kernel) rfl (hz_obj (pc := 1) X io_X0_3 io_i io_c (Nat.le_of_ble_eq_true rfl) (Nat.le_of_ble_eq_true rfl) (by decide +kernel) (hz_aload_n (pc := 4) (w := 0) X (by decide +kernel) rfl (hz_bipush (pc := 5) (n := 8) X (by decide +kernel) (by decide +kernel) (hz_newa (pc := 7) X ia_c (by decide +kernel) (hz_putR (pc := 9) X ir_X0_9 i (by decide +kernel) (hz_aload_n (pc := 12) (w := 0) X (by decide +kernel) rfl (hz_iconst (pc := 13) (n := 0) X (by decide +kernel) (by decide +kernel) (hz_putI (pc := 14) X ip_X0_15 (by decide +kernel) (hz_aload_n (pc := 17) (w := 0) X (by decide +kernel) rfl (hz_bipush (pc := 18) (n := 8) X (by decide +kernel) (by decide +kernel) (hz_newa (pc := 20) X ia_c (by decide +kernel) (hz_putR (pc := 22) X ir_X0_19 i (by decide +kernel) (hz_aload_n (pc := 25) (w := 0) X (by decide +kernel) rfl (hz_bipush (pc := 26) (n := 8) X (by decide +kernel) (by decide +kernel) (hz_newa (pc := 28) X ia_c (by decide +kernel) (hz_putR (pc := 30) X ir_X0_22 i (by decide +kernel) (hz_aload_n (pc := 33) (w := 0) X (by decide +kernel) rfl (hz_iconst (pc := 34) (n := 3) X (by decide +kernel) (by decide +kernel) (hz_newa (pc := 35) X ia_c (by decide +kernel) (hz_putR (pc := 37) X ir_X0_25 i (by decide +kernel) (hz_aload_n (pc := 40) (w := 0) X (by decide +kernel) rfl (hz_bipush (pc := 41) (n := 9) X (by decide +kernel) (by decide +kernel) (hz_newa (pc := 43) X ia_c (by decide +kernel) (hz_putR (pc := 45) X ir_X0_28 i (by decide +kernel) (hz_aload_n (pc := 48) (w := 0) X (by decide +kernel) rfl (hz_sipush (pc := 49) (n := 1000) X (by decide +kernel) (by decide +kernel) (hz_putI (pc := 52) X ip_X0_31 (by decide +kernel) (hz_aload_n (pc := 55) (w := 0) X (by decide +kernel) rfl (hz_bipush (pc := 56) (n := 8) X (by decide +kernel) (by decide +kernel) (hz_newa (pc := 58) X ia_c (by decide +kernel) (hz_putR (pc := 60) X ir_X0_34 i (by decide +kernel) (hz_vret (pc := 63) X r (by decide +kernel))))))))))))))))))))))))))))))))))
def zg_X0_init : List Value → hz_S → Option hz_S := hz_g 1 z_X0_init_0
theorem zm_X0_init {G : hy_G} : ∀ l, hz_M l G yX0_init cX0_init 1 1 20 6 44 zg_X0_init := hz_met (y := yX0_init) (by decide +kernel) rfl (fun x b X i r => t_X0_init_0 X i r)
def z_X5_init_0 : hz_C := (z_aload 0 (z_obj (z_aload 0 (z_push (.int 8) (z_newa 2 16 (z_putR 4 0 (z_aload 0 (z_push (.int 8) (z_newa 2 16 (z_putR 4 1 (z_aload 0 (z_push (.int (-1)) (z_putI 4 2 (z_aload 0 (z_push (.int (-1)) (z_putI 4 3 (z_aload 0 (z_push (.int 0) (z_putI 4 4 (z_vret 2 16))))))))))))))))))))
set_option maxRecDepth 100000 in
set_option maxHeartbeats 4000000 in
theorem t_X5_init_0 {G : hy_G} {x : hy_X} {b : hz_S} (X : hz_Cx G x RX5 cX5_init 1 1 20 2 16) (i : hz_init x) (r : hz_Rv G x b 2 16) : hz_Sn G x 1 0 b z_X5_init_0 := by
  exact (hz_aload_n (pc := 0) (w := 0) X (by decide +kernel) rfl (hz_obj (pc := 1) X io_X5_3 io_i io_c (Nat.le_of_ble_eq_true rfl) (Nat.le_of_ble_eq_true rfl) (by decide +kernel) (hz_aload_n (pc := 4) (w := 0) X (by decide +kernel) rfl (hz_bipush (pc := 5) (n := 8) X (by decide +kernel) (by decide +kernel) (hz_newa (pc := 7) X ia_c (by decide +kernel) (hz_putR (pc := 9) X ir_X5_9 i (by decide +kernel) (hz_aload_n (pc := 12) (w := 0) X (by decide +kernel) rfl (hz_bipush (pc := 13) (n := 8) X (by decide +kernel) (by decide +kernel) (hz_newa (pc := 15) X ia_c (by decide +kernel) (hz_putR (pc := 17) X ir_X5_15 i (by decide +kernel) (hz_aload_n (pc := 20) (w := 0) X (by decide +kernel) rfl (hz_iconst (pc := 21) (n := (-1)) X (by decide +kernel) (by decide +kernel) (hz_putI (pc := 22) X ip_X5_18 (by decide +kernel) (hz_aload_n (pc := 25) (w := 0) X (by decide +kernel) rfl (hz_iconst (pc := 26) (n := (-1)) X (by decide +kernel) (by decide +kernel) (hz_putI (pc := 27) X ip_X5_22 (by decide +kernel) (hz_aload_n (pc := 30) (w := 0) X (by decide +kernel) rfl (hz_iconst (pc := 31) (n := 0) X (by decide +kernel) (by decide +kernel) (hz_putI (pc := 32) X ip_X5_25 (by decide +kernel) (hz_vret (pc := 35) X r (by decide +kernel)))))))))))))))))))))
def zg_X5_init : List Value → hz_S → Option hz_S := hz_g 1 z_X5_init_0
theorem zm_X5_init {G : hy_G} : ∀ l, hz_M l G yX5_init cX5_init 1 1 20 2 16 zg_X5_init := hz_met (y := yX5_init) (by decide +kernel) rfl (fun x b X i r => t_X5_init_0 X i r)
def z_X8_init_0 : hz_C := (z_aload 0 (z_obj (z_aload 0 (z_new 6 12 66 544 (z_dup (z_ini 66 544 17 107 zg_X7_init (z_putR 7 0 (z_aload 0 (z_new 6 12 66 544 (z_dup (z_ini 66 544 17 107 zg_X7_init (z_putR 7 1 (z_aload 0 (z_push (.int 0) (z_putZ 7 2 (z_aload 0 (z_new 5 2 66 544 (z_dup (z_ini 66 544 1 40 zg_X6_init (z_putR 7 3 (z_aload 0 (z_new 3 2 66 544 (z_dup (z_ini 66 544 1 71 zg_X4_init (z_putR 7 4 (z_aload 0 (z_new 2 2 66 544 (z_dup (z_ini 66 544 6 56 zg_X3_init (z_putR 7 5 (z_aload 0 (z_new 0 8 66 544 (z_dup (z_ini 66 544 6 44 zg_X0_init (z_putR 7 6 (z_aload 0 (z_new 4 5 66 544 (z_dup (z_ini 66 544 2 16 zg_X5_init (z_putR 7 7 (z_aload 0 (z_new 1 2 66 544 (z_dup (z_ini 66 544 7 50 zg_X2_init (z_putR 7 8 (z_aload 0 (z_push (.int 8) (z_newa 66 544 (z_putR 7 9 (z_vret 66 544))))))))))))))))))))))))))))))))))))))))))))))))))
set_option maxRecDepth 100000 in
set_option maxHeartbeats 4000000 in
theorem t_X8_init_0 {G : hy_G} {x : hy_X} {b : hz_S} (X : hz_Cx G x RX8 cX8_init 1 3 61 66 544) (i : hz_init x) (r : hz_Rv G x b 66 544) : hz_Sn G x 1 0 b z_X8_init_0 := by
  exact (hz_aload_n (pc := 0) (w := 0) X (by decide +kernel) rfl (hz_obj (pc := 1) X io_X8_3 io_i io_c (Nat.le_of_ble_eq_true rfl) (Nat.le_of_ble_eq_true rfl) (by decide +kernel) (hz_aload_n (pc := 4) (w := 0) X (by decide +kernel) rfl (hz_new (pc := 5) X in_X8_9 (by decide +kernel) (hz_dup (pc := 8) X (by decide +kernel) (hz_ini (pc := 9) X (zm_X7_init (G := _)) iy_X7_init ik_X8_11 (by decide +kernel) (Nat.le_of_ble_eq_true rfl) (Nat.le_of_ble_eq_true rfl) (hz_putR (pc := 12) X ir_X8_12 i (by decide +kernel) (hz_aload_n (pc := 15) (w := 0) X (by decide +kernel) rfl (hz_new (pc := 16) X in_X8_9 (by decide +kernel) (hz_dup (pc := 19) X (by decide +kernel) (hz_ini (pc := 20) X (zm_X7_init (G := _)) iy_X7_init ik_X8_11 (by decide +kernel) (Nat.le_of_ble_eq_true rfl) (Nat.le_of_ble_eq_true rfl) (hz_putR (pc := 23) X ir_X8_18 i (by decide +kernel) (hz_aload_n (pc := 26) (w := 0) X (by decide +kernel) rfl (hz_iconst (pc := 27) (n := 0) X (by decide +kernel) (by decide +kernel) (hz_putZ (pc := 28) X ip_X8_21 (by decide +kernel) (hz_aload_n (pc := 31) (w := 0) X (by decide +kernel) rfl (hz_new (pc := 32) X in_X8_25 (by decide +kernel) (hz_dup (pc := 35) X (by decide +kernel) (hz_iniN (pc := 36) X (zm_X6_init (G := _)) iy_X6_init (fun s h => h.2.2.2.2.1) (by decide +kernel) (Nat.le_of_ble_eq_true rfl) (Nat.le_of_ble_eq_true rfl) (hz_putR (pc := 39) X ir_X8_28 i (by decide +kernel) (hz_aload_n (pc := 42) (w := 0) X (by decide +kernel) rfl (hz_new (pc := 43) X in_X8_32 (by decide +kernel) (hz_dup (pc := 46) X (by decide +kernel) (hz_iniN (pc := 47) X (zm_X4_init (G := _)) iy_X4_init (fun s h => h.2.2.2.2.2.1) (by decide +kernel) (Nat.le_of_ble_eq_true rfl) (Nat.le_of_ble_eq_true rfl) (hz_putR (pc := 50) X ir_X8_35 i (by decide +kernel) (hz_aload_n (pc := 53) (w := 0) X (by decide +kernel) rfl (hz_new (pc := 54) X in_X8_39 (by decide +kernel) (hz_dup (pc := 57) X (by decide +kernel) (hz_ini (pc := 58) X (zm_X3_init (G := _)) iy_X3_init ik_X8_41 (by decide +kernel) (Nat.le_of_ble_eq_true rfl) (Nat.le_of_ble_eq_true rfl) (hz_putR (pc := 61) X ir_X8_42 i (by decide +kernel) (hz_aload_n (pc := 64) (w := 0) X (by decide +kernel) rfl (hz_new (pc := 65) X in_X8_46 (by decide +kernel) (hz_dup (pc := 68) X (by decide +kernel) (hz_iniN (pc := 69) X (zm_X0_init (G := _)) iy_X0_init (fun s h => h.2.2.2.2.2.2.1) (by decide +kernel) (Nat.le_of_ble_eq_true rfl) (Nat.le_of_ble_eq_true rfl) (hz_putR (pc := 72) X ir_X8_49 i (by decide +kernel) (hz_aload_n (pc := 75) (w := 0) X (by decide +kernel) rfl (hz_new (pc := 76) X in_X8_53 (by decide +kernel) (hz_dup (pc := 79) X (by decide +kernel) (hz_iniN (pc := 80) X (zm_X5_init (G := _)) iy_X5_init (fun s h => h.2.2.2.2.2.2.2.1) (by decide +kernel) (Nat.le_of_ble_eq_true rfl) (Nat.le_of_ble_eq_true rfl) (hz_putR (pc := 83) X ir_X8_56 i (by decide +kernel) (hz_aload_n (pc := 86) (w := 0) X (by decide +kernel) rfl (hz_new (pc := 87) X in_X8_60 (by decide +kernel) (hz_dup (pc := 90) X (by decide +kernel) (hz_iniN (pc := 91) X (zm_X2_init (G := _)) iy_X2_init (fun s h => h.2.2.2.2.2.2.2.2) (by decide +kernel) (Nat.le_of_ble_eq_true rfl) (Nat.le_of_ble_eq_true rfl) (hz_putR (pc := 94) X ir_X8_63 i (by decide +kernel) (hz_aload_n (pc := 97) (w := 0) X (by decide +kernel) rfl (hz_bipush (pc := 98) (n := 8) X (by decide +kernel) (by decide +kernel) (hz_newa (pc := 100) X ia_c (by decide +kernel) (hz_putR (pc := 102) X ir_X8_67 i (by decide +kernel) (hz_vret (pc := 105) X r (by decide +kernel)))))))))))))))))))))))))))))))))))))))))))))))))))
def zg_X8_init : List Value → hz_S → Option hz_S := hz_g 1 z_X8_init_0
theorem zm_X8_init {G : hy_G} : ∀ l, hz_M l G yX8_init cX8_init 1 3 61 66 544 zg_X8_init := hz_met (y := yX8_init) (by decide +kernel) rfl (fun x b X i r => t_X8_init_0 X i r)
def z_X9_init_132 : Nat → hz_C
  | 0 => fun _ _ _ _ _ => none
  | n + 1 => (z_iload 1 (z_push (.int 4) (z_clt (z_aload 0 (z_getR 8 19 (z_iload 1 (z_push (.int (-1)) (z_iast (z_iinc 1 1 (z_X9_init_132 n))))))) (z_vret 13 497))))
set_option maxRecDepth 100000 in
set_option maxHeartbeats 4000000 in
theorem t_X9_init_132 {G : hy_G} {x : hy_X} {b : hz_S} (X : hz_Cx G x RX9 cX9_init 2 1 20 13 497) (i : hz_init x) (r : hz_Rv G x b 13 497) : ∀ n, hz_Sn G x 2 132 b (z_X9_init_132 n) := by
  intro n
  induction n with
  | zero => intro L S cu su q ls H locs hL hH hS h; cases h
  | succ n ih =>
    exact (hz_iload_n (pc := 132) (w := 1) X (by decide +kernel) rfl (hz_iconst (pc := 133) (n := 4) X (by decide +kernel) (by decide +kernel) (hz_cge (pc := 134) (off := 16) (tgt := 150) X (by decide +kernel) (by decide) (hz_aload_n (pc := 137) (w := 0) X (by decide +kernel) rfl (hz_getR (pc := 138) X il_X9_48 (by decide +kernel) (hz_iload_n (pc := 141) (w := 1) X (by decide +kernel) rfl (hz_iconst (pc := 142) (n := (-1)) X (by decide +kernel) (by decide +kernel) (hz_iast (pc := 143) X (by decide +kernel) (hz_iinc (pc := 144) (n := 1) X (by decide +kernel) (by decide +kernel) (Nat.le_of_ble_eq_true rfl) (hz_goto (pc := 147) (off := (-15)) (tgt := 132) X (by decide +kernel) (by decide) ih))))))) (hz_vret (pc := 150) X r (by decide +kernel)))))
def z_X9_init_108 : Nat → hz_C
  | 0 => fun _ _ _ _ _ => none
  | n + 1 => (z_iload 1 (z_push (.int 3) (z_clt (z_aload 0 (z_getR 8 0 (z_push (.int 46) (z_iload 1 (z_iadd (z_push (.int 24) (z_iast (z_iinc 1 1 (z_X9_init_108 n))))))))) (z_push (.int 0) (z_istore 1 (z_X9_init_132 20))))))
set_option maxRecDepth 100000 in
set_option maxHeartbeats 4000000 in
theorem t_X9_init_108 {G : hy_G} {x : hy_X} {b : hz_S} (X : hz_Cx G x RX9 cX9_init 2 1 20 13 497) (i : hz_init x) (r : hz_Rv G x b 13 497) : ∀ n, hz_Sn G x 2 108 b (z_X9_init_108 n) := by
  intro n
  induction n with
  | zero => intro L S cu su q ls H locs hL hH hS h; cases h
  | succ n ih =>
    exact (hz_iload_n (pc := 108) (w := 1) X (by decide +kernel) rfl (hz_iconst (pc := 109) (n := 3) X (by decide +kernel) (by decide +kernel) (hz_cge (pc := 110) (off := 20) (tgt := 130) X (by decide +kernel) (by decide) (hz_aload_n (pc := 113) (w := 0) X (by decide +kernel) rfl (hz_getR (pc := 114) X il_X9_9 (by decide +kernel) (hz_bipush (pc := 117) (n := 46) X (by decide +kernel) (by decide +kernel) (hz_iload_n (pc := 119) (w := 1) X (by decide +kernel) rfl (hz_iadd (pc := 120) X (by decide +kernel) (hz_bipush (pc := 121) (n := 24) X (by decide +kernel) (by decide +kernel) (hz_iast (pc := 123) X (by decide +kernel) (hz_iinc (pc := 124) (n := 1) X (by decide +kernel) (by decide +kernel) (Nat.le_of_ble_eq_true rfl) (hz_goto (pc := 127) (off := (-19)) (tgt := 108) X (by decide +kernel) (by decide) ih))))))))) (hz_iconst (pc := 130) (n := 0) X (by decide +kernel) (by decide +kernel) (hz_istore_n (pc := 131) (w := 1) X (by decide +kernel) rfl (Nat.le_of_ble_eq_true rfl) (t_X9_init_132 X i r 20))))))
def z_X9_init_0 : hz_C := (z_aload 0 (z_obj (z_aload 0 (z_push (.int 94) (z_newa 13 497 (z_putR 8 0 (z_aload 0 (z_push (.int 94) (z_newa 13 497 (z_putR 8 1 (z_aload 0 (z_push (.int 94) (z_newa 13 497 (z_putR 8 2 (z_aload 0 (z_push (.int 40) (z_newa 13 497 (z_putR 8 4 (z_aload 0 (z_push (.int 8) (z_newa 13 497 (z_putR 8 6 (z_aload 0 (z_push (.int 8) (z_newa 13 497 (z_putR 8 7 (z_aload 0 (z_push (.int 8) (z_newa 13 497 (z_putR 8 8 (z_aload 0 (z_push (.int 8) (z_newa 13 497 (z_putR 8 9 (z_aload 0 (z_push (.int 3) (z_newa 13 497 (z_putR 8 10 (z_aload 0 (z_push (.int 80) (z_newa 13 497 (z_putR 8 15 (z_aload 0 (z_push (.int 8) (z_newa 13 497 (z_putR 8 17 (z_aload 0 (z_push (.int 48) (z_newa 13 497 (z_putR 8 18 (z_aload 0 (z_push (.int 4) (z_newa 13 497 (z_putR 8 19 (z_push (.int 0) (z_istore 1 (z_X9_init_108 20)))))))))))))))))))))))))))))))))))))))))))))))))))))))))
set_option maxRecDepth 100000 in
set_option maxHeartbeats 4000000 in
theorem t_X9_init_0 {G : hy_G} {x : hy_X} {b : hz_S} (X : hz_Cx G x RX9 cX9_init 2 1 20 13 497) (i : hz_init x) (r : hz_Rv G x b 13 497) : hz_Sn G x 2 0 b z_X9_init_0 := by
  exact (hz_aload_n (pc := 0) (w := 0) X (by decide +kernel) rfl (hz_obj (pc := 1) X io_X9_3 io_i io_c (Nat.le_of_ble_eq_true rfl) (Nat.le_of_ble_eq_true rfl) (by decide +kernel) (hz_aload_n (pc := 4) (w := 0) X (by decide +kernel) rfl (hz_bipush (pc := 5) (n := 94) X (by decide +kernel) (by decide +kernel) (hz_newa (pc := 7) X ia_c (by decide +kernel) (hz_putR (pc := 9) X ir_X9_9 i (by decide +kernel) (hz_aload_n (pc := 12) (w := 0) X (by decide +kernel) rfl (hz_bipush (pc := 13) (n := 94) X (by decide +kernel) (by decide +kernel) (hz_newa (pc := 15) X ia_c (by decide +kernel) (hz_putR (pc := 17) X ir_X9_15 i (by decide +kernel) (hz_aload_n (pc := 20) (w := 0) X (by decide +kernel) rfl (hz_bipush (pc := 21) (n := 94) X (by decide +kernel) (by decide +kernel) (hz_newa (pc := 23) X ia_c (by decide +kernel) (hz_putR (pc := 25) X ir_X9_18 i (by decide +kernel) (hz_aload_n (pc := 28) (w := 0) X (by decide +kernel) rfl (hz_bipush (pc := 29) (n := 40) X (by decide +kernel) (by decide +kernel) (hz_newa (pc := 31) X ia_c (by decide +kernel) (hz_putR (pc := 33) X ir_X9_21 i (by decide +kernel) (hz_aload_n (pc := 36) (w := 0) X (by decide +kernel) rfl (hz_bipush (pc := 37) (n := 8) X (by decide +kernel) (by decide +kernel) (hz_newa (pc := 39) X ia_c (by decide +kernel) (hz_putR (pc := 41) X ir_X9_24 i (by decide +kernel) (hz_aload_n (pc := 44) (w := 0) X (by decide +kernel) rfl (hz_bipush (pc := 45) (n := 8) X (by decide +kernel) (by decide +kernel) (hz_newa (pc := 47) X ia_c (by decide +kernel) (hz_putR (pc := 49) X ir_X9_27 i (by decide +kernel) (hz_aload_n (pc := 52) (w := 0) X (by decide +kernel) rfl (hz_bipush (pc := 53) (n := 8) X (by decide +kernel) (by decide +kernel) (hz_newa (pc := 55) X ia_c (by decide +kernel) (hz_putR (pc := 57) X ir_X9_30 i (by decide +kernel) (hz_aload_n (pc := 60) (w := 0) X (by decide +kernel) rfl (hz_bipush (pc := 61) (n := 8) X (by decide +kernel) (by decide +kernel) (hz_newa (pc := 63) X ia_c (by decide +kernel) (hz_putR (pc := 65) X ir_X9_33 i (by decide +kernel) (hz_aload_n (pc := 68) (w := 0) X (by decide +kernel) rfl (hz_iconst (pc := 69) (n := 3) X (by decide +kernel) (by decide +kernel) (hz_newa (pc := 70) X ia_c (by decide +kernel) (hz_putR (pc := 72) X ir_X9_36 i (by decide +kernel) (hz_aload_n (pc := 75) (w := 0) X (by decide +kernel) rfl (hz_bipush (pc := 76) (n := 80) X (by decide +kernel) (by decide +kernel) (hz_newa (pc := 78) X ia_c (by decide +kernel) (hz_putR (pc := 80) X ir_X9_39 i (by decide +kernel) (hz_aload_n (pc := 83) (w := 0) X (by decide +kernel) rfl (hz_bipush (pc := 84) (n := 8) X (by decide +kernel) (by decide +kernel) (hz_newa (pc := 86) X ia_c (by decide +kernel) (hz_putR (pc := 88) X ir_X9_42 i (by decide +kernel) (hz_aload_n (pc := 91) (w := 0) X (by decide +kernel) rfl (hz_bipush (pc := 92) (n := 48) X (by decide +kernel) (by decide +kernel) (hz_newa (pc := 94) X ia_c (by decide +kernel) (hz_putR (pc := 96) X ir_X9_45 i (by decide +kernel) (hz_aload_n (pc := 99) (w := 0) X (by decide +kernel) rfl (hz_iconst (pc := 100) (n := 4) X (by decide +kernel) (by decide +kernel) (hz_newa (pc := 101) X ia_c (by decide +kernel) (hz_putR (pc := 103) X ir_X9_48 i (by decide +kernel) (hz_iconst (pc := 106) (n := 0) X (by decide +kernel) (by decide +kernel) (hz_istore_n (pc := 107) (w := 1) X (by decide +kernel) rfl (Nat.le_of_ble_eq_true rfl) (t_X9_init_108 X i r 20)))))))))))))))))))))))))))))))))))))))))))))))))))))))))
def zg_X9_init : List Value → hz_S → Option hz_S := hz_g 2 z_X9_init_0
theorem zm_X9_init {G : hy_G} : ∀ l, hz_M l G yX9_init cX9_init 2 1 20 13 497 zg_X9_init := hz_met (y := yX9_init) (by decide +kernel) rfl (fun x b X i r => t_X9_init_0 X i r)
