theorem jn_aI : Cond.arrayClass .int ∈ jv_T := (jv_in 71 (by decide +kernel) (by decide +kernel))
theorem jn_aL : Cond.arrayClass .long ∈ jv_T := (jv_in 91 (by decide +kernel) (by decide +kernel))
theorem jn_aC : Cond.arrayClass .char ∈ jv_T := (jv_in 133 (by decide +kernel) (by decide +kernel))
theorem jn_oi : Cond.instanceMethod Lib.objectInit ∈ jv_T := (jv_in 50 (by decide +kernel) (by decide +kernel))
theorem jn_oc : Cond.code Lib.objectInit ⟨#[0xb1]⟩ 1 none ∈ jv_T := (jv_in 51 (by decide +kernel) (by decide +kernel))
theorem jo_X0_9 : jn_fp RX0 9 0 0 true (.array .int) := ⟨RX0, TX0, 6, tyX0, rfl, by decide, jn_wf jf_X0_9 rfl, jt_X0, tyX0_ok, nmX0, rfl, rfl, by decide +kernel⟩
theorem jo_X0_15 : jn_fp RX0 15 0 1 true (.array .int) := ⟨RX0, TX0, 6, tyX0, rfl, by decide, jn_wf jf_X0_15 rfl, jt_X0, tyX0_ok, nmX0, rfl, rfl, by decide +kernel⟩
theorem jo_X0_18 : jn_fp RX0 18 0 2 true (.array .int) := ⟨RX0, TX0, 6, tyX0, rfl, by decide, jn_wf jf_X0_18 rfl, jt_X0, tyX0_ok, nmX0, rfl, rfl, by decide +kernel⟩
theorem jo_X0_21 : jn_fp RX0 21 0 3 true (.array .int) := ⟨RX0, TX0, 6, tyX0, rfl, by decide, jn_wf jf_X0_21 rfl, jt_X0, tyX0_ok, nmX0, rfl, rfl, by decide +kernel⟩
theorem jo_X0_24 : jn_fp RX0 24 0 4 true (.array .int) := ⟨RX0, TX0, 6, tyX0, rfl, by decide, jn_wf jf_X0_24 rfl, jt_X0, tyX0_ok, nmX0, rfl, rfl, by decide +kernel⟩
theorem jo_X0_27 : jn_fp RX0 27 0 5 false .int := ⟨RX0, TX0, 6, tyX0, rfl, by decide, jn_wf jf_X0_27 rfl, jt_X0, tyX0_ok, nmX0, rfl, rfl, by decide +kernel⟩
theorem job_X0 : jn_ow RX0 3 := ⟨(jv_in 97 (by decide +kernel) (by decide +kernel)), jn_oi, jn_oc⟩
theorem jo_X1_9 : jn_fp RX1 9 1 0 true (.array .long) := ⟨RX1, TX1, 8, tyX1, rfl, by decide, jn_wf jf_X1_9 rfl, jt_X1, tyX1_ok, nmX1, rfl, rfl, by decide +kernel⟩
theorem jo_X1_15 : jn_fp RX1 15 1 1 true (.array .long) := ⟨RX1, TX1, 8, tyX1, rfl, by decide, jn_wf jf_X1_15 rfl, jt_X1, tyX1_ok, nmX1, rfl, rfl, by decide +kernel⟩
theorem jo_X1_18 : jn_fp RX1 18 1 2 true (.array .long) := ⟨RX1, TX1, 8, tyX1, rfl, by decide, jn_wf jf_X1_18 rfl, jt_X1, tyX1_ok, nmX1, rfl, rfl, by decide +kernel⟩
theorem jo_X1_21 : jn_fp RX1 21 1 3 true (.array .long) := ⟨RX1, TX1, 8, tyX1, rfl, by decide, jn_wf jf_X1_21 rfl, jt_X1, tyX1_ok, nmX1, rfl, rfl, by decide +kernel⟩
theorem jo_X1_24 : jn_fp RX1 24 1 4 true (.array .long) := ⟨RX1, TX1, 8, tyX1, rfl, by decide, jn_wf jf_X1_24 rfl, jt_X1, tyX1_ok, nmX1, rfl, rfl, by decide +kernel⟩
theorem jo_X1_27 : jn_fp RX1 27 1 5 false .int := ⟨RX1, TX1, 8, tyX1, rfl, by decide, jn_wf jf_X1_27 rfl, jt_X1, tyX1_ok, nmX1, rfl, rfl, by decide +kernel⟩
theorem jo_X1_31 : jn_fp RX1 31 1 6 false .long := ⟨RX1, TX1, 8, tyX1, rfl, by decide, jn_wf jf_X1_31 rfl, jt_X1, tyX1_ok, nmX1, rfl, rfl, by decide +kernel⟩
theorem jo_X1_35 : jn_fp RX1 35 1 7 false .boolean := ⟨RX1, TX1, 8, tyX1, rfl, by decide, jn_wf jf_X1_35 rfl, jt_X1, tyX1_ok, nmX1, rfl, rfl, by decide +kernel⟩
theorem job_X1 : jn_ow RX1 3 := ⟨(jv_in 169 (by decide +kernel) (by decide +kernel)), jn_oi, jn_oc⟩
theorem jo_X2_9 : jn_fp RX2 9 2 0 true (.array .int) := ⟨RX2, TX2, 4, tyX2, rfl, by decide, jn_wf jf_X2_9 rfl, jt_X2, tyX2_ok, nmX2, rfl, rfl, by decide +kernel⟩
theorem jo_X2_15 : jn_fp RX2 15 2 1 true (.array .int) := ⟨RX2, TX2, 4, tyX2, rfl, by decide, jn_wf jf_X2_15 rfl, jt_X2, tyX2_ok, nmX2, rfl, rfl, by decide +kernel⟩
theorem jo_X2_18 : jn_fp RX2 18 2 2 true (.array .long) := ⟨RX2, TX2, 4, tyX2, rfl, by decide, jn_wf jf_X2_18 rfl, jt_X2, tyX2_ok, nmX2, rfl, rfl, by decide +kernel⟩
theorem jo_X2_22 : jn_fp RX2 22 2 3 false .int := ⟨RX2, TX2, 4, tyX2, rfl, by decide, jn_wf jf_X2_22 rfl, jt_X2, tyX2_ok, nmX2, rfl, rfl, by decide +kernel⟩
theorem job_X2 : jn_ow RX2 3 := ⟨(jv_in 77 (by decide +kernel) (by decide +kernel)), jn_oi, jn_oc⟩
theorem jo_X3_9 : jn_fp RX3 9 3 0 true (.array .int) := ⟨RX3, TX3, 4, tyX3, rfl, by decide, jn_wf jf_X3_9 rfl, jt_X3, tyX3_ok, nmX3, rfl, rfl, by decide +kernel⟩
theorem jo_X3_15 : jn_fp RX3 15 3 1 true (.array .int) := ⟨RX3, TX3, 4, tyX3, rfl, by decide, jn_wf jf_X3_15 rfl, jt_X3, tyX3_ok, nmX3, rfl, rfl, by decide +kernel⟩
theorem jo_X3_18 : jn_fp RX3 18 3 2 true (.array .int) := ⟨RX3, TX3, 4, tyX3, rfl, by decide, jn_wf jf_X3_18 rfl, jt_X3, tyX3_ok, nmX3, rfl, rfl, by decide +kernel⟩
theorem jo_X3_21 : jn_fp RX3 21 3 3 false .int := ⟨RX3, TX3, 4, tyX3, rfl, by decide, jn_wf jf_X3_21 rfl, jt_X3, tyX3_ok, nmX3, rfl, rfl, by decide +kernel⟩
theorem job_X3 : jn_ow RX3 3 := ⟨(jv_in 57 (by decide +kernel) (by decide +kernel)), jn_oi, jn_oc⟩
theorem jo_X4_9 : jn_fp RX4 9 4 0 true (.array .int) := ⟨RX4, TX4, 2, tyX4, rfl, by decide, jn_wf jf_X4_9 rfl, jt_X4, tyX4_ok, nmX4, rfl, rfl, by decide +kernel⟩
theorem jo_X4_15 : jn_fp RX4 15 4 1 false .int := ⟨RX4, TX4, 2, tyX4, rfl, by decide, jn_wf jf_X4_15 rfl, jt_X4, tyX4_ok, nmX4, rfl, rfl, by decide +kernel⟩
theorem job_X4 : jn_ow RX4 3 := ⟨(jv_in 200 (by decide +kernel) (by decide +kernel)), jn_oi, jn_oc⟩
theorem jo_X5_9 : jn_fp RX5 9 5 0 true (.array .char) := ⟨RX5, TX5, 3, tyX5, rfl, by decide, jn_wf jf_X5_9 rfl, jt_X5, tyX5_ok, nmX5, rfl, rfl, by decide +kernel⟩
theorem jo_X5_15 : jn_fp RX5 15 5 1 false .int := ⟨RX5, TX5, 3, tyX5, rfl, by decide, jn_wf jf_X5_15 rfl, jt_X5, tyX5_ok, nmX5, rfl, rfl, by decide +kernel⟩
theorem jo_X5_19 : jn_fp RX5 19 5 2 false .int := ⟨RX5, TX5, 3, tyX5, rfl, by decide, jn_wf jf_X5_19 rfl, jt_X5, tyX5_ok, nmX5, rfl, rfl, by decide +kernel⟩
theorem job_X5 : jn_ow RX5 3 := ⟨(jv_in 122 (by decide +kernel) (by decide +kernel)), jn_oi, jn_oc⟩
theorem jo_X6_9 : jn_fp RX6 9 6 0 true (.array .int) := ⟨RX6, TX6, 7, tyX6, rfl, by decide, jn_wf jf_X6_9 rfl, jt_X6, tyX6_ok, nmX6, rfl, rfl, by decide +kernel⟩
theorem jo_X6_15 : jn_fp RX6 15 6 1 true (.array .char) := ⟨RX6, TX6, 7, tyX6, rfl, by decide, jn_wf jf_X6_15 rfl, jt_X6, tyX6_ok, nmX6, rfl, rfl, by decide +kernel⟩
theorem jo_X6_21 : jn_fp RX6 21 6 2 true (.array (.array .int)) := ⟨RX6, TX6, 7, tyX6, rfl, by decide, jn_wf jf_X6_21 rfl, jt_X6, tyX6_ok, nmX6, rfl, rfl, by decide +kernel⟩
theorem jo_X6_24 : jn_fp RX6 24 6 3 true (.array .long) := ⟨RX6, TX6, 7, tyX6, rfl, by decide, jn_wf jf_X6_24 rfl, jt_X6, tyX6_ok, nmX6, rfl, rfl, by decide +kernel⟩
theorem jo_X6_28 : jn_fp RX6 28 6 4 true (.array .long) := ⟨RX6, TX6, 7, tyX6, rfl, by decide, jn_wf jf_X6_28 rfl, jt_X6, tyX6_ok, nmX6, rfl, rfl, by decide +kernel⟩
theorem jo_X6_31 : jn_fp RX6 31 6 5 false .int := ⟨RX6, TX6, 7, tyX6, rfl, by decide, jn_wf jf_X6_31 rfl, jt_X6, tyX6_ok, nmX6, rfl, rfl, by decide +kernel⟩
theorem jo_X6_35 : jn_fp RX6 35 6 6 false .int := ⟨RX6, TX6, 7, tyX6, rfl, by decide, jn_wf jf_X6_35 rfl, jt_X6, tyX6_ok, nmX6, rfl, rfl, by decide +kernel⟩
theorem job_X6 : jn_ow RX6 3 := ⟨(jv_in 139 (by decide +kernel) (by decide +kernel)), jn_oi, jn_oc⟩
theorem jo_X7_10 : jn_fp RX7 10 7 0 true (.object "BasinSizes$RainRows") := ⟨RX7, TX7, 8, tyX7, rfl, by decide, jn_wf jf_X7_10 rfl, jt_X7, tyX7_ok, nmX7, rfl, rfl, by decide +kernel⟩
theorem jo_X7_19 : jn_fp RX7 19 7 1 true (.object "BasinSizes$Pond") := ⟨RX7, TX7, 8, tyX7, rfl, by decide, jn_wf jf_X7_19 rfl, jt_X7, tyX7_ok, nmX7, rfl, rfl, by decide +kernel⟩
theorem jo_X7_26 : jn_fp RX7 26 7 2 true (.object "BasinSizes$CulvertRows") := ⟨RX7, TX7, 8, tyX7, rfl, by decide, jn_wf jf_X7_26 rfl, jt_X7, tyX7_ok, nmX7, rfl, rfl, by decide +kernel⟩
theorem jo_X7_33 : jn_fp RX7 33 7 3 true (.object "BasinSizes$SignReader") := ⟨RX7, TX7, 8, tyX7, rfl, by decide, jn_wf jf_X7_33 rfl, jt_X7, tyX7_ok, nmX7, rfl, rfl, by decide +kernel⟩
theorem jo_X7_40 : jn_fp RX7 40 7 4 false (.object "BasinSizes$StateRows") := ⟨RX7, TX7, 8, tyX7, rfl, by decide, jn_wf jf_X7_40 rfl, jt_X7, tyX7_ok, nmX7, rfl, rfl, by decide +kernel⟩
theorem jo_X7_44 : jn_fp RX7 44 7 5 false (.object "BasinSizes$StateRows") := ⟨RX7, TX7, 8, tyX7, rfl, by decide, jn_wf jf_X7_44 rfl, jt_X7, tyX7_ok, nmX7, rfl, rfl, by decide +kernel⟩
theorem jo_X7_50 : jn_fp RX7 50 7 6 true (.object "BasinSizes$DayRows") := ⟨RX7, TX7, 8, tyX7, rfl, by decide, jn_wf jf_X7_50 rfl, jt_X7, tyX7_ok, nmX7, rfl, rfl, by decide +kernel⟩
theorem jo_X7_57 : jn_fp RX7 57 7 7 true (.object "BasinSizes$SafeWay") := ⟨RX7, TX7, 8, tyX7, rfl, by decide, jn_wf jf_X7_57 rfl, jt_X7, tyX7_ok, nmX7, rfl, rfl, by decide +kernel⟩
theorem job_X7 : jn_ow RX7 1 := ⟨(jv_in 49 (by decide +kernel) (by decide +kernel)), jn_oi, jn_oc⟩
theorem jo_X8_7 : jn_fp RX8 7 8 1 true (.array .int) := ⟨RX8, TX8, 27, tyX8, rfl, by decide, jn_wf jf_X8_7 rfl, jt_X8, tyX8_ok, nmX8, rfl, rfl, by decide +kernel⟩
theorem jo_X8_13 : jn_fp RX8 13 8 2 true (.array .int) := ⟨RX8, TX8, 27, tyX8, rfl, by decide, jn_wf jf_X8_13 rfl, jt_X8, tyX8_ok, nmX8, rfl, rfl, by decide +kernel⟩
theorem jo_X8_16 : jn_fp RX8 16 8 3 true (.array .int) := ⟨RX8, TX8, 27, tyX8, rfl, by decide, jn_wf jf_X8_16 rfl, jt_X8, tyX8_ok, nmX8, rfl, rfl, by decide +kernel⟩
theorem jo_X8_19 : jn_fp RX8 19 8 5 true (.array .int) := ⟨RX8, TX8, 27, tyX8, rfl, by decide, jn_wf jf_X8_19 rfl, jt_X8, tyX8_ok, nmX8, rfl, rfl, by decide +kernel⟩
theorem jo_X8_22 : jn_fp RX8 22 8 6 true (.array .int) := ⟨RX8, TX8, 27, tyX8, rfl, by decide, jn_wf jf_X8_22 rfl, jt_X8, tyX8_ok, nmX8, rfl, rfl, by decide +kernel⟩
theorem jo_X8_25 : jn_fp RX8 25 8 8 true (.array .int) := ⟨RX8, TX8, 27, tyX8, rfl, by decide, jn_wf jf_X8_25 rfl, jt_X8, tyX8_ok, nmX8, rfl, rfl, by decide +kernel⟩
theorem jo_X8_28 : jn_fp RX8 28 8 10 true (.array .int) := ⟨RX8, TX8, 27, tyX8, rfl, by decide, jn_wf jf_X8_28 rfl, jt_X8, tyX8_ok, nmX8, rfl, rfl, by decide +kernel⟩
theorem jo_X8_31 : jn_fp RX8 31 8 12 true (.array .int) := ⟨RX8, TX8, 27, tyX8, rfl, by decide, jn_wf jf_X8_31 rfl, jt_X8, tyX8_ok, nmX8, rfl, rfl, by decide +kernel⟩
theorem jo_X8_34 : jn_fp RX8 34 8 13 true (.array .int) := ⟨RX8, TX8, 27, tyX8, rfl, by decide, jn_wf jf_X8_34 rfl, jt_X8, tyX8_ok, nmX8, rfl, rfl, by decide +kernel⟩
theorem jo_X8_37 : jn_fp RX8 37 8 14 true (.array .int) := ⟨RX8, TX8, 27, tyX8, rfl, by decide, jn_wf jf_X8_37 rfl, jt_X8, tyX8_ok, nmX8, rfl, rfl, by decide +kernel⟩
theorem jo_X8_40 : jn_fp RX8 40 8 15 true (.array .int) := ⟨RX8, TX8, 27, tyX8, rfl, by decide, jn_wf jf_X8_40 rfl, jt_X8, tyX8_ok, nmX8, rfl, rfl, by decide +kernel⟩
theorem jo_X8_43 : jn_fp RX8 43 8 16 true (.array .int) := ⟨RX8, TX8, 27, tyX8, rfl, by decide, jn_wf jf_X8_43 rfl, jt_X8, tyX8_ok, nmX8, rfl, rfl, by decide +kernel⟩
theorem jo_X8_46 : jn_fp RX8 46 8 20 true (.array .long) := ⟨RX8, TX8, 27, tyX8, rfl, by decide, jn_wf jf_X8_46 rfl, jt_X8, tyX8_ok, nmX8, rfl, rfl, by decide +kernel⟩
theorem jo_X8_50 : jn_fp RX8 50 8 22 true (.array .long) := ⟨RX8, TX8, 27, tyX8, rfl, by decide, jn_wf jf_X8_50 rfl, jt_X8, tyX8_ok, nmX8, rfl, rfl, by decide +kernel⟩
theorem jo_X8_53 : jn_fp RX8 53 8 23 true (.array .long) := ⟨RX8, TX8, 27, tyX8, rfl, by decide, jn_wf jf_X8_53 rfl, jt_X8, tyX8_ok, nmX8, rfl, rfl, by decide +kernel⟩
theorem jo_X8_56 : jn_fp RX8 56 8 24 true (.array .long) := ⟨RX8, TX8, 27, tyX8, rfl, by decide, jn_wf jf_X8_56 rfl, jt_X8, tyX8_ok, nmX8, rfl, rfl, by decide +kernel⟩
theorem jo_X8_59 : jn_fp RX8 59 8 26 true (.array .int) := ⟨RX8, TX8, 27, tyX8, rfl, by decide, jn_wf jf_X8_59 rfl, jt_X8, tyX8_ok, nmX8, rfl, rfl, by decide +kernel⟩
theorem job_X8 : jn_ow RX8 1 := ⟨(jv_in 679 (by decide +kernel) (by decide +kernel)), jn_oi, jn_oc⟩
theorem jnw_X7_7 : jn_no RX7 7 3 [.null, .null, .null, .int (jv_i 0)] := ⟨RX3, TX3, 4, tyX3, rfl, jt_X3, tyX3_ok, (jv_in 52 (by decide +kernel) (by decide +kernel)), (jv_in 53 (by decide +kernel) (by decide +kernel)), (jv_in 30 (by decide +kernel) (by decide +kernel)), by decide +kernel, fun _ => rfl, rfl⟩
theorem jcw_X7_9 : jn_cn RX7 9 yX3_init cX3_init := ⟨by decide +kernel, (jv_in 55 (by decide +kernel) (by decide +kernel)), (jv_in 30 (by decide +kernel) (by decide +kernel)), (jv_in 56 (by decide +kernel) (by decide +kernel)), rfl, by decide +kernel⟩
theorem jnw_X7_16 : jn_no RX7 16 2 [.null, .null, .null, .int (jv_i 0)] := ⟨RX2, TX2, 4, tyX2, rfl, jt_X2, tyX2_ok, (jv_in 72 (by decide +kernel) (by decide +kernel)), (jv_in 73 (by decide +kernel) (by decide +kernel)), (jv_in 31 (by decide +kernel) (by decide +kernel)), by decide +kernel, fun _ => rfl, rfl⟩
theorem jcw_X7_18 : jn_cn RX7 18 yX2_init cX2_init := ⟨by decide +kernel, (jv_in 75 (by decide +kernel) (by decide +kernel)), (jv_in 31 (by decide +kernel) (by decide +kernel)), (jv_in 76 (by decide +kernel) (by decide +kernel)), rfl, by decide +kernel⟩
theorem jnw_X7_23 : jn_no RX7 23 0 [.null, .null, .null, .null, .null, .int (jv_i 0)] := ⟨RX0, TX0, 6, tyX0, rfl, jt_X0, tyX0_ok, (jv_in 92 (by decide +kernel) (by decide +kernel)), (jv_in 93 (by decide +kernel) (by decide +kernel)), (jv_in 32 (by decide +kernel) (by decide +kernel)), by decide +kernel, fun _ => rfl, rfl⟩
theorem jcw_X7_25 : jn_cn RX7 25 yX0_init cX0_init := ⟨by decide +kernel, (jv_in 95 (by decide +kernel) (by decide +kernel)), (jv_in 32 (by decide +kernel) (by decide +kernel)), (jv_in 96 (by decide +kernel) (by decide +kernel)), rfl, by decide +kernel⟩
theorem jnw_X7_30 : jn_no RX7 30 5 [.null, .int (jv_i 0), .int (jv_i 0)] := ⟨RX5, TX5, 3, tyX5, rfl, jt_X5, tyX5_ok, (jv_in 117 (by decide +kernel) (by decide +kernel)), (jv_in 118 (by decide +kernel) (by decide +kernel)), (jv_in 33 (by decide +kernel) (by decide +kernel)), by decide +kernel, fun _ => rfl, rfl⟩
theorem jcw_X7_32 : jn_cn RX7 32 yX5_init cX5_init := ⟨by decide +kernel, (jv_in 120 (by decide +kernel) (by decide +kernel)), (jv_in 33 (by decide +kernel) (by decide +kernel)), (jv_in 121 (by decide +kernel) (by decide +kernel)), rfl, by decide +kernel⟩
theorem jnw_X7_37 : jn_no RX7 37 6 [.null, .null, .null, .null, .null, .int (jv_i 0), .int (jv_i 0)] := ⟨RX6, TX6, 7, tyX6, rfl, jt_X6, tyX6_ok, (jv_in 134 (by decide +kernel) (by decide +kernel)), (jv_in 135 (by decide +kernel) (by decide +kernel)), (jv_in 34 (by decide +kernel) (by decide +kernel)), by decide +kernel, fun _ => rfl, rfl⟩
theorem jcw_X7_39 : jn_cn RX7 39 yX6_init cX6_init := ⟨by decide +kernel, (jv_in 137 (by decide +kernel) (by decide +kernel)), (jv_in 34 (by decide +kernel) (by decide +kernel)), (jv_in 138 (by decide +kernel) (by decide +kernel)), rfl, by decide +kernel⟩
theorem jnw_X7_47 : jn_no RX7 47 1 [.null, .null, .null, .null, .null, .int (jv_i 0), .long (jv_l 0), .int (jv_i 0)] := ⟨RX1, TX1, 8, tyX1, rfl, jt_X1, tyX1_ok, (jv_in 164 (by decide +kernel) (by decide +kernel)), (jv_in 165 (by decide +kernel) (by decide +kernel)), (jv_in 35 (by decide +kernel) (by decide +kernel)), by decide +kernel, fun _ => rfl, rfl⟩
theorem jcw_X7_49 : jn_cn RX7 49 yX1_init cX1_init := ⟨by decide +kernel, (jv_in 167 (by decide +kernel) (by decide +kernel)), (jv_in 35 (by decide +kernel) (by decide +kernel)), (jv_in 168 (by decide +kernel) (by decide +kernel)), rfl, by decide +kernel⟩
theorem jnw_X7_54 : jn_no RX7 54 4 [.null, .int (jv_i 0)] := ⟨RX4, TX4, 2, tyX4, rfl, jt_X4, tyX4_ok, (jv_in 195 (by decide +kernel) (by decide +kernel)), (jv_in 196 (by decide +kernel) (by decide +kernel)), (jv_in 36 (by decide +kernel) (by decide +kernel)), by decide +kernel, fun _ => rfl, rfl⟩
theorem jcw_X7_56 : jn_cn RX7 56 yX4_init cX4_init := ⟨by decide +kernel, (jv_in 198 (by decide +kernel) (by decide +kernel)), (jv_in 36 (by decide +kernel) (by decide +kernel)), (jv_in 199 (by decide +kernel) (by decide +kernel)), rfl, by decide +kernel⟩
theorem jnw_L_7 : jn_no RL 7 7 [.null, .null, .null, .null, .null, .null, .null, .null] := ⟨RX7, TX7, 8, tyX7, rfl, jt_X7, tyX7_ok, (jv_in 44 (by decide +kernel) (by decide +kernel)), (jv_in 45 (by decide +kernel) (by decide +kernel)), (jv_in 29 (by decide +kernel) (by decide +kernel)), by decide +kernel, fun _ => rfl, rfl⟩
theorem jcw_L_9 : jn_cw RL 9 yX7_init cX7_init := ⟨(jv_in 46 (by decide +kernel) (by decide +kernel)), (jv_in 47 (by decide +kernel) (by decide +kernel)), (jv_in 29 (by decide +kernel) (by decide +kernel)), (jv_in 48 (by decide +kernel) (by decide +kernel)), rfl, by decide +kernel⟩
theorem jnw_L_10 : jn_no RL 10 8 [.int (jv_i 0), .null, .null, .null, .int (jv_i 0), .null, .null, .int (jv_i 0), .null, .int (jv_i 0), .null, .int (jv_i 0), .null, .null, .null, .null, .null, .int (jv_i 0), .int (jv_i 0), .int (jv_i 0), .null, .int (jv_i 0), .null, .null, .null, .int (jv_i 0), .null] := ⟨RX8, TX8, 27, tyX8, rfl, jt_X8, tyX8_ok, (jv_in 674 (by decide +kernel) (by decide +kernel)), (jv_in 675 (by decide +kernel) (by decide +kernel)), (jv_in 37 (by decide +kernel) (by decide +kernel)), by decide +kernel, fun _ => rfl, rfl⟩
theorem jcw_L_12 : jn_cw RL 12 yX8_init cX8_init := ⟨(jv_in 676 (by decide +kernel) (by decide +kernel)), (jv_in 677 (by decide +kernel) (by decide +kernel)), (jv_in 37 (by decide +kernel) (by decide +kernel)), (jv_in 678 (by decide +kernel) (by decide +kernel)), rfl, by decide +kernel⟩
theorem jn_cl6 : Cond.classLink RX6 19 "[[I" ∈ jv_T := (jv_in 140 (by decide +kernel) (by decide +kernel))
/-- what the making of an array of arrays does (proved where the library has it) -/
def jn_MA : Prop := ∀ (X : jn_M) (cc : ByteArray) (own : String) (K : Nat) (B : Nat × Nat) (pc idx : Nat) (L : List (Option Value)) (S : List Value) (h : List jv_E) (cells slots : Nat), decode cc pc = .ok (.multianewarray idx 2, 4) → Cond.classLink own idx "[[I" ∈ jv_T → Cond.arrayClass .int ∈ jv_T → h.length + 31 ≤ 1000 → cells + 31 ≤ B.1 → slots + 270 ≤ B.2 → jn_J X cc own K B (pc + 4) L (.ref h.length :: S) (h ++ (jv_aq 30 (fun i => h.length + 1 + i.toNat) :: List.replicate 30 (jv_ai 8 (fun _ => 0)))) (cells + 31) (slots + 270) → jn_J X cc own K B pc L (.int (jv_i 8) :: .int (jv_i 30) :: S) h cells slots
section JNC
variable {X : jn_M} {cc : ByteArray} {own : String} {K pc o : Nat} {B : Nat × Nat} {L : List (Option Value)} {S : List Value} {A cs : List jv_E} {x : jv_E} {cells slots : Nat}
theorem jn_len (hA : A.length = o) : (A ++ (x :: cs)).length = o + (cs.length + 1) := by rw [List.length_append, hA]; rfl
theorem jn_nI {z : Int} (n : Nat) (d : decode cc pc = .ok (.newarray .int, 2)) (harr : Cond.arrayClass .int ∈ jv_T) (hA : A.length = o) (kk : jn_J X cc own K B (pc + 2) L (.ref (o + (cs.length + 1)) :: S) (A ++ (x :: (cs ++ [jv_ai n (fun _ => 0)]))) (cells + 1) (slots + n)) (hl : o + (cs.length + 1) < 1000) (hc : cells + 1 ≤ B.1 := by exact Nat.le_of_ble_eq_true rfl) (hs : slots + n ≤ B.2 := by exact Nat.le_of_ble_eq_true rfl) (hn : (jv_i z).toNatClampNeg = n := by decide) (h0 : ¬ jv_i z < 0 := by decide) (hby : n * componentBytes .int ≤ 536870912 := by decide) : jn_J X cc own K B pc L (.int (jv_i z) :: S) (A ++ (x :: cs)) cells slots := by
  refine jn_newi n d harr ?_ (by rw [jn_len hA]; exact hl) hc hs hn h0 hby
  rw [jn_len hA, List.append_assoc]
  exact kk
theorem jn_nL {z : Int} (n : Nat) (d : decode cc pc = .ok (.newarray .long, 2)) (harr : Cond.arrayClass .long ∈ jv_T) (hA : A.length = o) (kk : jn_J X cc own K B (pc + 2) L (.ref (o + (cs.length + 1)) :: S) (A ++ (x :: (cs ++ [jv_al n (fun _ => 0)]))) (cells + 1) (slots + n)) (hl : o + (cs.length + 1) < 1000) (hc : cells + 1 ≤ B.1 := by exact Nat.le_of_ble_eq_true rfl) (hs : slots + n ≤ B.2 := by exact Nat.le_of_ble_eq_true rfl) (hn : (jv_i z).toNatClampNeg = n := by decide) (h0 : ¬ jv_i z < 0 := by decide) (hby : n * componentBytes .long ≤ 536870912 := by decide) : jn_J X cc own K B pc L (.int (jv_i z) :: S) (A ++ (x :: cs)) cells slots := by
  refine jn_newl n d harr ?_ (by rw [jn_len hA]; exact hl) hc hs hn h0 hby
  rw [jn_len hA, List.append_assoc]
  exact kk
theorem jn_nC {z : Int} (n : Nat) (d : decode cc pc = .ok (.newarray .char, 2)) (harr : Cond.arrayClass .char ∈ jv_T) (hA : A.length = o) (kk : jn_J X cc own K B (pc + 2) L (.ref (o + (cs.length + 1)) :: S) (A ++ (x :: (cs ++ [jv_ac n (fun _ => 0)]))) (cells + 1) (slots + n)) (hl : o + (cs.length + 1) < 1000) (hc : cells + 1 ≤ B.1 := by exact Nat.le_of_ble_eq_true rfl) (hs : slots + n ≤ B.2 := by exact Nat.le_of_ble_eq_true rfl) (hn : (jv_i z).toNatClampNeg = n := by decide) (h0 : ¬ jv_i z < 0 := by decide) (hby : n * componentBytes .char ≤ 536870912 := by decide) : jn_J X cc own K B pc L (.int (jv_i z) :: S) (A ++ (x :: cs)) cells slots := by
  refine jn_newc n d harr ?_ (by rw [jn_len hA]; exact hl) hc hs hn h0 hby
  rw [jn_len hA, List.append_assoc]
  exact kk
theorem jn_mC {idx : Nat} (hMA : jn_MA) (d : decode cc pc = .ok (.multianewarray idx 2, 4)) (w1 : Cond.classLink own idx "[[I" ∈ jv_T) (hA : A.length = o) (kk : jn_J X cc own K B (pc + 4) L (.ref (o + (cs.length + 1)) :: S) (A ++ (x :: (cs ++ (jv_aq 30 (fun i => o + (cs.length + 1) + 1 + i.toNat) :: List.replicate 30 (jv_ai 8 (fun _ => 0)))))) (cells + 31) (slots + 270)) (hl : o + (cs.length + 1) + 31 ≤ 1000) (hc : cells + 31 ≤ B.1 := by exact Nat.le_of_ble_eq_true rfl) (hs : slots + 270 ≤ B.2 := by exact Nat.le_of_ble_eq_true rfl) : jn_J X cc own K B pc L (.int (jv_i 8) :: .int (jv_i 30) :: S) (A ++ (x :: cs)) cells slots := by
  refine hMA X cc own K B pc idx L S _ cells slots d w1 jn_aI (by rw [jn_len hA]; exact hl) hc hs ?_
  rw [jn_len hA, List.append_assoc]
  exact kk
theorem jn_oC {idx ci : Nat} {fs : List Value} (d : decode cc pc = .ok (.new idx, 3)) (hw : jn_no own idx ci fs) (hA : A.length = o) (kk : jn_J X cc own K B (pc + 3) L (.ref (o + (cs.length + 1)) :: S) (A ++ (x :: (cs ++ [jv_ob ci fs]))) (cells + 1) (slots + fs.length)) (hl : o + (cs.length + 1) < 1000) (hc : cells + 1 ≤ B.1 := by exact Nat.le_of_ble_eq_true rfl) (hs : slots + fs.length ≤ B.2 := by exact Nat.le_of_ble_eq_true rfl) : jn_J X cc own K B pc L S (A ++ (x :: cs)) cells slots := by
  refine jn_new d hw ?_ (by rw [jn_len hA]; exact hl) hc hs
  rw [jn_len hA, List.append_assoc]
  exact kk
theorem jn_pC {idx ci k : Nat} {fin : Bool} {ty : FieldType} {v : Value} {fs : List Value} (d : decode cc pc = .ok (.putfield idx, 3)) (hi : jn_in X) (hw : jn_fp own idx ci k fin ty) (hA : A.length = o) (kk : jn_J X cc own K B (pc + 3) L S (A ++ (jv_ob ci (fs.set k v) :: cs)) cells slots) (hk : k < fs.length := by exact Nat.le_of_ble_eq_true rfl) (hn : ∀ ad, narrow ty (jv_V ad v) = jv_V ad v := by intro _; rfl) (hf : ∀ ad, fits ty (jv_V ad v) = true := by intro _; rfl) : jn_J X cc own K B pc L (v :: .ref o :: S) (A ++ (jv_ob ci fs :: cs)) cells slots := by
  refine jn_putf (ci := ci) (fs := fs) d hi hw (by rw [← hA]; simp) ?_ hk hn hf
  have e : (A ++ (jv_ob ci fs :: cs)).set o (jv_ob ci (fs.set k v)) = A ++ (jv_ob ci (fs.set k v) :: cs) := by rw [← hA]; simp
  rw [e]
  exact kk
theorem jn_cC {idx k mc ms o' : Nat} {y : MethodName} {bytes : ByteArray} {c0 : jv_E} {r : List jv_E} (d : decode cc pc = .ok (.invokespecial idx, 3)) (hw : jn_cn own idx y bytes) (hc : jn_Con y bytes k mc ms [.ref o'] ((A ++ (x :: cs)) ++ [c0]) ((A ++ (x :: cs)) ++ r)) (hA : A.length = o) (kk : jn_J X cc own K B (pc + 3) L S (A ++ (x :: (cs ++ r))) (cells + mc) (slots + ms)) (hl : ((A ++ (x :: cs)) ++ r).length ≤ 1000) (hcc : cells + mc ≤ B.1 := by exact Nat.le_of_ble_eq_true rfl) (hss : slots + ms ≤ B.2 := by exact Nat.le_of_ble_eq_true rfl) (hk : k + 1 ≤ K := by omega) (hS8 : (S.map fun v => v.category).sum ≤ 8 := by exact Nat.le_of_ble_eq_true rfl) : jn_J X cc own K B pc L (.ref o' :: S) (A ++ (x :: (cs ++ [c0]))) cells slots := by
  have e1 : A ++ (x :: (cs ++ [c0])) = (A ++ (x :: cs)) ++ [c0] := by rw [List.append_assoc]; rfl
  rw [e1]
  refine jn_callN d hw hc ?_ hl hcc hss hk hS8
  rw [List.append_assoc]
  exact kk
end JNC
def rX0 (o : Nat) : List jv_E := jv_ob 0 [.ref (o + 1), .ref (o + 2), .ref (o + 3), .ref (o + 4), .ref (o + 5), .int (jv_i 0)] :: ([jv_ai 8 (fun _ => 0), jv_ai 8 (fun _ => 0), jv_ai 8 (fun _ => 0), jv_ai 8 (fun _ => 0), jv_ai 8 (fun _ => 0)])
theorem rX0_len (o : Nat) : (rX0 o).length = 6 := rfl
theorem ct_X0_init {K : Nat} (A : List jv_E) (o : Nat) (hA : A.length = o) (ho : o ≤ 200) : jn_Con yX0_init cX0_init (K + 1) 5 40 [.ref o] (A ++ [jv_ob 0 [.null, .null, .null, .null, .null, .int (jv_i 0)]]) (A ++ rX0 o) := by
  refine jn_entry (own := RX0) (by decide) rfl rfl (by simp; omega) (fun X hq => ?_)
  show jn_J X cX0_init RX0 _ _ 0 [some (.ref o)] [] (A ++ (jv_ob 0 [.null, .null, .null, .null, .null, .int (jv_i 0)] :: [])) 0 0
  refine jn_aload_n dX0_init_0 rfl ?_
  refine jn_obj dX0_init_1 job_X0 ?_
  refine jn_aload_n dX0_init_4 rfl ?_
  refine jn_bipush dX0_init_5 ?_
  refine jn_nI 8 dX0_init_7 jn_aI hA ?_ (by simp; omega)
  refine jn_pC dX0_init_9 (jn_ret_in hq) jo_X0_9 hA ?_
  show jn_J X cX0_init RX0 _ _ 12 [some (.ref o)] [] (A ++ (jv_ob 0 [.ref (o + 1), .null, .null, .null, .null, .int (jv_i 0)] :: ([jv_ai 8 (fun _ => 0)]))) 1 8
  refine jn_aload_n dX0_init_12 rfl ?_
  refine jn_bipush dX0_init_13 ?_
  refine jn_nI 8 dX0_init_15 jn_aI hA ?_ (by simp; omega)
  refine jn_pC dX0_init_17 (jn_ret_in hq) jo_X0_15 hA ?_
  show jn_J X cX0_init RX0 _ _ 20 [some (.ref o)] [] (A ++ (jv_ob 0 [.ref (o + 1), .ref (o + 2), .null, .null, .null, .int (jv_i 0)] :: ([jv_ai 8 (fun _ => 0), jv_ai 8 (fun _ => 0)]))) 2 16
  refine jn_aload_n dX0_init_20 rfl ?_
  refine jn_bipush dX0_init_21 ?_
  refine jn_nI 8 dX0_init_23 jn_aI hA ?_ (by simp; omega)
  refine jn_pC dX0_init_25 (jn_ret_in hq) jo_X0_18 hA ?_
  show jn_J X cX0_init RX0 _ _ 28 [some (.ref o)] [] (A ++ (jv_ob 0 [.ref (o + 1), .ref (o + 2), .ref (o + 3), .null, .null, .int (jv_i 0)] :: ([jv_ai 8 (fun _ => 0), jv_ai 8 (fun _ => 0), jv_ai 8 (fun _ => 0)]))) 3 24
  refine jn_aload_n dX0_init_28 rfl ?_
  refine jn_bipush dX0_init_29 ?_
  refine jn_nI 8 dX0_init_31 jn_aI hA ?_ (by simp; omega)
  refine jn_pC dX0_init_33 (jn_ret_in hq) jo_X0_21 hA ?_
  show jn_J X cX0_init RX0 _ _ 36 [some (.ref o)] [] (A ++ (jv_ob 0 [.ref (o + 1), .ref (o + 2), .ref (o + 3), .ref (o + 4), .null, .int (jv_i 0)] :: ([jv_ai 8 (fun _ => 0), jv_ai 8 (fun _ => 0), jv_ai 8 (fun _ => 0), jv_ai 8 (fun _ => 0)]))) 4 32
  refine jn_aload_n dX0_init_36 rfl ?_
  refine jn_bipush dX0_init_37 ?_
  refine jn_nI 8 dX0_init_39 jn_aI hA ?_ (by simp; omega)
  refine jn_pC dX0_init_41 (jn_ret_in hq) jo_X0_24 hA ?_
  show jn_J X cX0_init RX0 _ _ 44 [some (.ref o)] [] (A ++ (jv_ob 0 [.ref (o + 1), .ref (o + 2), .ref (o + 3), .ref (o + 4), .ref (o + 5), .int (jv_i 0)] :: ([jv_ai 8 (fun _ => 0), jv_ai 8 (fun _ => 0), jv_ai 8 (fun _ => 0), jv_ai 8 (fun _ => 0), jv_ai 8 (fun _ => 0)]))) 5 40
  refine jn_aload_n dX0_init_44 rfl ?_
  refine jn_iconst dX0_init_45 ?_
  refine jn_pC dX0_init_46 (jn_ret_in hq) jo_X0_27 hA ?_
  show jn_J X cX0_init RX0 _ _ 49 [some (.ref o)] [] (A ++ (jv_ob 0 [.ref (o + 1), .ref (o + 2), .ref (o + 3), .ref (o + 4), .ref (o + 5), .int (jv_i 0)] :: ([jv_ai 8 (fun _ => 0), jv_ai 8 (fun _ => 0), jv_ai 8 (fun _ => 0), jv_ai 8 (fun _ => 0), jv_ai 8 (fun _ => 0)]))) 5 40
  exact jn_vret dX0_init_49 hq
def rX1 (o : Nat) : List jv_E := jv_ob 1 [.ref (o + 1), .ref (o + 2), .ref (o + 3), .ref (o + 4), .ref (o + 5), .int (jv_i 0), .long (jv_l 0), .int (jv_i 0)] :: ([jv_al 400 (fun _ => 0), jv_al 400 (fun _ => 0), jv_al 400 (fun _ => 0), jv_al 400 (fun _ => 0), jv_al 400 (fun _ => 0)])
theorem rX1_len (o : Nat) : (rX1 o).length = 6 := rfl
theorem ct_X1_init {K : Nat} (A : List jv_E) (o : Nat) (hA : A.length = o) (ho : o ≤ 200) : jn_Con yX1_init cX1_init (K + 1) 5 2000 [.ref o] (A ++ [jv_ob 1 [.null, .null, .null, .null, .null, .int (jv_i 0), .long (jv_l 0), .int (jv_i 0)]]) (A ++ rX1 o) := by
  refine jn_entry (own := RX1) (by decide) rfl rfl (by simp; omega) (fun X hq => ?_)
  show jn_J X cX1_init RX1 _ _ 0 [some (.ref o)] [] (A ++ (jv_ob 1 [.null, .null, .null, .null, .null, .int (jv_i 0), .long (jv_l 0), .int (jv_i 0)] :: [])) 0 0
  refine jn_aload_n dX1_init_0 rfl ?_
  refine jn_obj dX1_init_1 job_X1 ?_
  refine jn_aload_n dX1_init_4 rfl ?_
  refine jn_sipush dX1_init_5 ?_
  refine jn_nL 400 dX1_init_8 jn_aL hA ?_ (by simp [rX0_len]; omega)
  refine jn_pC dX1_init_10 (jn_ret_in hq) jo_X1_9 hA ?_
  show jn_J X cX1_init RX1 _ _ 13 [some (.ref o)] [] (A ++ (jv_ob 1 [.ref (o + 1), .null, .null, .null, .null, .int (jv_i 0), .long (jv_l 0), .int (jv_i 0)] :: ([jv_al 400 (fun _ => 0)]))) 1 400
  refine jn_aload_n dX1_init_13 rfl ?_
  refine jn_sipush dX1_init_14 ?_
  refine jn_nL 400 dX1_init_17 jn_aL hA ?_ (by simp [rX0_len]; omega)
  refine jn_pC dX1_init_19 (jn_ret_in hq) jo_X1_15 hA ?_
  show jn_J X cX1_init RX1 _ _ 22 [some (.ref o)] [] (A ++ (jv_ob 1 [.ref (o + 1), .ref (o + 2), .null, .null, .null, .int (jv_i 0), .long (jv_l 0), .int (jv_i 0)] :: ([jv_al 400 (fun _ => 0), jv_al 400 (fun _ => 0)]))) 2 800
  refine jn_aload_n dX1_init_22 rfl ?_
  refine jn_sipush dX1_init_23 ?_
  refine jn_nL 400 dX1_init_26 jn_aL hA ?_ (by simp [rX0_len]; omega)
  refine jn_pC dX1_init_28 (jn_ret_in hq) jo_X1_18 hA ?_
  show jn_J X cX1_init RX1 _ _ 31 [some (.ref o)] [] (A ++ (jv_ob 1 [.ref (o + 1), .ref (o + 2), .ref (o + 3), .null, .null, .int (jv_i 0), .long (jv_l 0), .int (jv_i 0)] :: ([jv_al 400 (fun _ => 0), jv_al 400 (fun _ => 0), jv_al 400 (fun _ => 0)]))) 3 1200
  refine jn_aload_n dX1_init_31 rfl ?_
  refine jn_sipush dX1_init_32 ?_
  refine jn_nL 400 dX1_init_35 jn_aL hA ?_ (by simp [rX0_len]; omega)
  refine jn_pC dX1_init_37 (jn_ret_in hq) jo_X1_21 hA ?_
  show jn_J X cX1_init RX1 _ _ 40 [some (.ref o)] [] (A ++ (jv_ob 1 [.ref (o + 1), .ref (o + 2), .ref (o + 3), .ref (o + 4), .null, .int (jv_i 0), .long (jv_l 0), .int (jv_i 0)] :: ([jv_al 400 (fun _ => 0), jv_al 400 (fun _ => 0), jv_al 400 (fun _ => 0), jv_al 400 (fun _ => 0)]))) 4 1600
  refine jn_aload_n dX1_init_40 rfl ?_
  refine jn_sipush dX1_init_41 ?_
  refine jn_nL 400 dX1_init_44 jn_aL hA ?_ (by simp [rX0_len]; omega)
  refine jn_pC dX1_init_46 (jn_ret_in hq) jo_X1_24 hA ?_
  show jn_J X cX1_init RX1 _ _ 49 [some (.ref o)] [] (A ++ (jv_ob 1 [.ref (o + 1), .ref (o + 2), .ref (o + 3), .ref (o + 4), .ref (o + 5), .int (jv_i 0), .long (jv_l 0), .int (jv_i 0)] :: ([jv_al 400 (fun _ => 0), jv_al 400 (fun _ => 0), jv_al 400 (fun _ => 0), jv_al 400 (fun _ => 0), jv_al 400 (fun _ => 0)]))) 5 2000
  refine jn_aload_n dX1_init_49 rfl ?_
  refine jn_iconst dX1_init_50 ?_
  refine jn_pC dX1_init_51 (jn_ret_in hq) jo_X1_27 hA ?_
  show jn_J X cX1_init RX1 _ _ 54 [some (.ref o)] [] (A ++ (jv_ob 1 [.ref (o + 1), .ref (o + 2), .ref (o + 3), .ref (o + 4), .ref (o + 5), .int (jv_i 0), .long (jv_l 0), .int (jv_i 0)] :: ([jv_al 400 (fun _ => 0), jv_al 400 (fun _ => 0), jv_al 400 (fun _ => 0), jv_al 400 (fun _ => 0), jv_al 400 (fun _ => 0)]))) 5 2000
  refine jn_aload_n dX1_init_54 rfl ?_
  refine jn_lconst 0 dX1_init_55 ?_
  refine jn_pC dX1_init_56 (jn_ret_in hq) jo_X1_31 hA ?_
  show jn_J X cX1_init RX1 _ _ 59 [some (.ref o)] [] (A ++ (jv_ob 1 [.ref (o + 1), .ref (o + 2), .ref (o + 3), .ref (o + 4), .ref (o + 5), .int (jv_i 0), .long (jv_l 0), .int (jv_i 0)] :: ([jv_al 400 (fun _ => 0), jv_al 400 (fun _ => 0), jv_al 400 (fun _ => 0), jv_al 400 (fun _ => 0), jv_al 400 (fun _ => 0)]))) 5 2000
  refine jn_aload_n dX1_init_59 rfl ?_
  refine jn_iconst dX1_init_60 ?_
  refine jn_pC dX1_init_61 (jn_ret_in hq) jo_X1_35 hA ?_
  show jn_J X cX1_init RX1 _ _ 64 [some (.ref o)] [] (A ++ (jv_ob 1 [.ref (o + 1), .ref (o + 2), .ref (o + 3), .ref (o + 4), .ref (o + 5), .int (jv_i 0), .long (jv_l 0), .int (jv_i 0)] :: ([jv_al 400 (fun _ => 0), jv_al 400 (fun _ => 0), jv_al 400 (fun _ => 0), jv_al 400 (fun _ => 0), jv_al 400 (fun _ => 0)]))) 5 2000
  exact jn_vret dX1_init_64 hq
def rX2 (o : Nat) : List jv_E := jv_ob 2 [.ref (o + 1), .ref (o + 2), .ref (o + 3), .int (jv_i 0)] :: ([jv_ai 20 (fun _ => 0), jv_ai 20 (fun _ => 0), jv_al 20 (fun _ => 0)])
theorem rX2_len (o : Nat) : (rX2 o).length = 4 := rfl
theorem ct_X2_init {K : Nat} (A : List jv_E) (o : Nat) (hA : A.length = o) (ho : o ≤ 200) : jn_Con yX2_init cX2_init (K + 1) 3 60 [.ref o] (A ++ [jv_ob 2 [.null, .null, .null, .int (jv_i 0)]]) (A ++ rX2 o) := by
  refine jn_entry (own := RX2) (by decide) rfl rfl (by simp; omega) (fun X hq => ?_)
  show jn_J X cX2_init RX2 _ _ 0 [some (.ref o)] [] (A ++ (jv_ob 2 [.null, .null, .null, .int (jv_i 0)] :: [])) 0 0
  refine jn_aload_n dX2_init_0 rfl ?_
  refine jn_obj dX2_init_1 job_X2 ?_
  refine jn_aload_n dX2_init_4 rfl ?_
  refine jn_bipush dX2_init_5 ?_
  refine jn_nI 20 dX2_init_7 jn_aI hA ?_ (by simp [rX0_len, rX1_len]; omega)
  refine jn_pC dX2_init_9 (jn_ret_in hq) jo_X2_9 hA ?_
  show jn_J X cX2_init RX2 _ _ 12 [some (.ref o)] [] (A ++ (jv_ob 2 [.ref (o + 1), .null, .null, .int (jv_i 0)] :: ([jv_ai 20 (fun _ => 0)]))) 1 20
  refine jn_aload_n dX2_init_12 rfl ?_
  refine jn_bipush dX2_init_13 ?_
  refine jn_nI 20 dX2_init_15 jn_aI hA ?_ (by simp [rX0_len, rX1_len]; omega)
  refine jn_pC dX2_init_17 (jn_ret_in hq) jo_X2_15 hA ?_
  show jn_J X cX2_init RX2 _ _ 20 [some (.ref o)] [] (A ++ (jv_ob 2 [.ref (o + 1), .ref (o + 2), .null, .int (jv_i 0)] :: ([jv_ai 20 (fun _ => 0), jv_ai 20 (fun _ => 0)]))) 2 40
  refine jn_aload_n dX2_init_20 rfl ?_
  refine jn_bipush dX2_init_21 ?_
  refine jn_nL 20 dX2_init_23 jn_aL hA ?_ (by simp [rX0_len, rX1_len]; omega)
  refine jn_pC dX2_init_25 (jn_ret_in hq) jo_X2_18 hA ?_
  show jn_J X cX2_init RX2 _ _ 28 [some (.ref o)] [] (A ++ (jv_ob 2 [.ref (o + 1), .ref (o + 2), .ref (o + 3), .int (jv_i 0)] :: ([jv_ai 20 (fun _ => 0), jv_ai 20 (fun _ => 0), jv_al 20 (fun _ => 0)]))) 3 60
  refine jn_aload_n dX2_init_28 rfl ?_
  refine jn_iconst dX2_init_29 ?_
  refine jn_pC dX2_init_30 (jn_ret_in hq) jo_X2_22 hA ?_
  show jn_J X cX2_init RX2 _ _ 33 [some (.ref o)] [] (A ++ (jv_ob 2 [.ref (o + 1), .ref (o + 2), .ref (o + 3), .int (jv_i 0)] :: ([jv_ai 20 (fun _ => 0), jv_ai 20 (fun _ => 0), jv_al 20 (fun _ => 0)]))) 3 60
  exact jn_vret dX2_init_33 hq
def rX3 (o : Nat) : List jv_E := jv_ob 3 [.ref (o + 1), .ref (o + 2), .ref (o + 3), .int (jv_i 0)] :: ([jv_ai 40 (fun _ => 0), jv_ai 40 (fun _ => 0), jv_ai 40 (fun _ => 0)])
theorem rX3_len (o : Nat) : (rX3 o).length = 4 := rfl
theorem ct_X3_init {K : Nat} (A : List jv_E) (o : Nat) (hA : A.length = o) (ho : o ≤ 200) : jn_Con yX3_init cX3_init (K + 1) 3 120 [.ref o] (A ++ [jv_ob 3 [.null, .null, .null, .int (jv_i 0)]]) (A ++ rX3 o) := by
  refine jn_entry (own := RX3) (by decide) rfl rfl (by simp; omega) (fun X hq => ?_)
  show jn_J X cX3_init RX3 _ _ 0 [some (.ref o)] [] (A ++ (jv_ob 3 [.null, .null, .null, .int (jv_i 0)] :: [])) 0 0
  refine jn_aload_n dX3_init_0 rfl ?_
  refine jn_obj dX3_init_1 job_X3 ?_
  refine jn_aload_n dX3_init_4 rfl ?_
  refine jn_bipush dX3_init_5 ?_
  refine jn_nI 40 dX3_init_7 jn_aI hA ?_ (by simp [rX0_len, rX1_len, rX2_len]; omega)
  refine jn_pC dX3_init_9 (jn_ret_in hq) jo_X3_9 hA ?_
  show jn_J X cX3_init RX3 _ _ 12 [some (.ref o)] [] (A ++ (jv_ob 3 [.ref (o + 1), .null, .null, .int (jv_i 0)] :: ([jv_ai 40 (fun _ => 0)]))) 1 40
  refine jn_aload_n dX3_init_12 rfl ?_
  refine jn_bipush dX3_init_13 ?_
  refine jn_nI 40 dX3_init_15 jn_aI hA ?_ (by simp [rX0_len, rX1_len, rX2_len]; omega)
  refine jn_pC dX3_init_17 (jn_ret_in hq) jo_X3_15 hA ?_
  show jn_J X cX3_init RX3 _ _ 20 [some (.ref o)] [] (A ++ (jv_ob 3 [.ref (o + 1), .ref (o + 2), .null, .int (jv_i 0)] :: ([jv_ai 40 (fun _ => 0), jv_ai 40 (fun _ => 0)]))) 2 80
  refine jn_aload_n dX3_init_20 rfl ?_
  refine jn_bipush dX3_init_21 ?_
  refine jn_nI 40 dX3_init_23 jn_aI hA ?_ (by simp [rX0_len, rX1_len, rX2_len]; omega)
  refine jn_pC dX3_init_25 (jn_ret_in hq) jo_X3_18 hA ?_
  show jn_J X cX3_init RX3 _ _ 28 [some (.ref o)] [] (A ++ (jv_ob 3 [.ref (o + 1), .ref (o + 2), .ref (o + 3), .int (jv_i 0)] :: ([jv_ai 40 (fun _ => 0), jv_ai 40 (fun _ => 0), jv_ai 40 (fun _ => 0)]))) 3 120
  refine jn_aload_n dX3_init_28 rfl ?_
  refine jn_iconst dX3_init_29 ?_
  refine jn_pC dX3_init_30 (jn_ret_in hq) jo_X3_21 hA ?_
  show jn_J X cX3_init RX3 _ _ 33 [some (.ref o)] [] (A ++ (jv_ob 3 [.ref (o + 1), .ref (o + 2), .ref (o + 3), .int (jv_i 0)] :: ([jv_ai 40 (fun _ => 0), jv_ai 40 (fun _ => 0), jv_ai 40 (fun _ => 0)]))) 3 120
  exact jn_vret dX3_init_33 hq
def rX4 (o : Nat) : List jv_E := jv_ob 4 [.ref (o + 1), .int (jv_i 0)] :: ([jv_ai 50 (fun _ => 0)])
theorem rX4_len (o : Nat) : (rX4 o).length = 2 := rfl
theorem ct_X4_init {K : Nat} (A : List jv_E) (o : Nat) (hA : A.length = o) (ho : o ≤ 200) : jn_Con yX4_init cX4_init (K + 1) 1 50 [.ref o] (A ++ [jv_ob 4 [.null, .int (jv_i 0)]]) (A ++ rX4 o) := by
  refine jn_entry (own := RX4) (by decide) rfl rfl (by simp; omega) (fun X hq => ?_)
  show jn_J X cX4_init RX4 _ _ 0 [some (.ref o)] [] (A ++ (jv_ob 4 [.null, .int (jv_i 0)] :: [])) 0 0
  refine jn_aload_n dX4_init_0 rfl ?_
  refine jn_obj dX4_init_1 job_X4 ?_
  refine jn_aload_n dX4_init_4 rfl ?_
  refine jn_bipush dX4_init_5 ?_
  refine jn_nI 50 dX4_init_7 jn_aI hA ?_ (by simp [rX0_len, rX1_len, rX2_len, rX3_len]; omega)
  refine jn_pC dX4_init_9 (jn_ret_in hq) jo_X4_9 hA ?_
  show jn_J X cX4_init RX4 _ _ 12 [some (.ref o)] [] (A ++ (jv_ob 4 [.ref (o + 1), .int (jv_i 0)] :: ([jv_ai 50 (fun _ => 0)]))) 1 50
  refine jn_aload_n dX4_init_12 rfl ?_
  refine jn_iconst dX4_init_13 ?_
  refine jn_pC dX4_init_14 (jn_ret_in hq) jo_X4_15 hA ?_
  show jn_J X cX4_init RX4 _ _ 17 [some (.ref o)] [] (A ++ (jv_ob 4 [.ref (o + 1), .int (jv_i 0)] :: ([jv_ai 50 (fun _ => 0)]))) 1 50
  exact jn_vret dX4_init_17 hq
def rX5 (o : Nat) : List jv_E := jv_ob 5 [.ref (o + 1), .int (jv_i 0), .int (jv_i 0)] :: ([jv_ac 300 (fun _ => 0)])
theorem rX5_len (o : Nat) : (rX5 o).length = 2 := rfl
theorem ct_X5_init {K : Nat} (A : List jv_E) (o : Nat) (hA : A.length = o) (ho : o ≤ 200) : jn_Con yX5_init cX5_init (K + 1) 1 300 [.ref o] (A ++ [jv_ob 5 [.null, .int (jv_i 0), .int (jv_i 0)]]) (A ++ rX5 o) := by
  refine jn_entry (own := RX5) (by decide) rfl rfl (by simp; omega) (fun X hq => ?_)
  show jn_J X cX5_init RX5 _ _ 0 [some (.ref o)] [] (A ++ (jv_ob 5 [.null, .int (jv_i 0), .int (jv_i 0)] :: [])) 0 0
  refine jn_aload_n dX5_init_0 rfl ?_
  refine jn_obj dX5_init_1 job_X5 ?_
  refine jn_aload_n dX5_init_4 rfl ?_
  refine jn_sipush dX5_init_5 ?_
  refine jn_nC 300 dX5_init_8 jn_aC hA ?_ (by simp [rX0_len, rX1_len, rX2_len, rX3_len, rX4_len]; omega)
  refine jn_pC dX5_init_10 (jn_ret_in hq) jo_X5_9 hA ?_
  show jn_J X cX5_init RX5 _ _ 13 [some (.ref o)] [] (A ++ (jv_ob 5 [.ref (o + 1), .int (jv_i 0), .int (jv_i 0)] :: ([jv_ac 300 (fun _ => 0)]))) 1 300
  refine jn_aload_n dX5_init_13 rfl ?_
  refine jn_iconst dX5_init_14 ?_
  refine jn_pC dX5_init_15 (jn_ret_in hq) jo_X5_15 hA ?_
  show jn_J X cX5_init RX5 _ _ 18 [some (.ref o)] [] (A ++ (jv_ob 5 [.ref (o + 1), .int (jv_i 0), .int (jv_i 0)] :: ([jv_ac 300 (fun _ => 0)]))) 1 300
  refine jn_aload_n dX5_init_18 rfl ?_
  refine jn_iconst dX5_init_19 ?_
  refine jn_pC dX5_init_20 (jn_ret_in hq) jo_X5_19 hA ?_
  show jn_J X cX5_init RX5 _ _ 23 [some (.ref o)] [] (A ++ (jv_ob 5 [.ref (o + 1), .int (jv_i 0), .int (jv_i 0)] :: ([jv_ac 300 (fun _ => 0)]))) 1 300
  exact jn_vret dX5_init_23 hq
def rX6 (o : Nat) : List jv_E := jv_ob 6 [.ref (o + 1), .ref (o + 2), .ref (o + 3), .ref (o + 34), .ref (o + 35), .int (jv_i 0), .int (jv_i 0)] :: ((([jv_ai 6 (fun _ => 0), jv_ac 30 (fun _ => 0), jv_aq 30 (fun i => o + 4 + i.toNat)]) ++ (List.replicate 30 (jv_ai 8 (fun _ => 0)))) ++ [jv_al 6 (fun _ => 0), jv_al 6 (fun _ => 0)])
theorem rX6_len (o : Nat) : (rX6 o).length = 36 := rfl
theorem ct_X6_init {K : Nat} (hMA : jn_MA) (A : List jv_E) (o : Nat) (hA : A.length = o) (ho : o ≤ 200) : jn_Con yX6_init cX6_init (K + 1) 35 318 [.ref o] (A ++ [jv_ob 6 [.null, .null, .null, .null, .null, .int (jv_i 0), .int (jv_i 0)]]) (A ++ rX6 o) := by
  refine jn_entry (own := RX6) (by decide) rfl rfl (by simp; omega) (fun X hq => ?_)
  show jn_J X cX6_init RX6 _ _ 0 [some (.ref o)] [] (A ++ (jv_ob 6 [.null, .null, .null, .null, .null, .int (jv_i 0), .int (jv_i 0)] :: [])) 0 0
  refine jn_aload_n dX6_init_0 rfl ?_
  refine jn_obj dX6_init_1 job_X6 ?_
  refine jn_aload_n dX6_init_4 rfl ?_
  refine jn_bipush dX6_init_5 ?_
  refine jn_nI 6 dX6_init_7 jn_aI hA ?_ (by simp [rX0_len, rX1_len, rX2_len, rX3_len, rX4_len, rX5_len]; omega)
  refine jn_pC dX6_init_9 (jn_ret_in hq) jo_X6_9 hA ?_
  show jn_J X cX6_init RX6 _ _ 12 [some (.ref o)] [] (A ++ (jv_ob 6 [.ref (o + 1), .null, .null, .null, .null, .int (jv_i 0), .int (jv_i 0)] :: ([jv_ai 6 (fun _ => 0)]))) 1 6
  refine jn_aload_n dX6_init_12 rfl ?_
  refine jn_bipush dX6_init_13 ?_
  refine jn_nC 30 dX6_init_15 jn_aC hA ?_ (by simp [rX0_len, rX1_len, rX2_len, rX3_len, rX4_len, rX5_len]; omega)
  refine jn_pC dX6_init_17 (jn_ret_in hq) jo_X6_15 hA ?_
  show jn_J X cX6_init RX6 _ _ 20 [some (.ref o)] [] (A ++ (jv_ob 6 [.ref (o + 1), .ref (o + 2), .null, .null, .null, .int (jv_i 0), .int (jv_i 0)] :: ([jv_ai 6 (fun _ => 0), jv_ac 30 (fun _ => 0)]))) 2 36
  refine jn_aload_n dX6_init_20 rfl ?_
  refine jn_bipush dX6_init_21 ?_
  refine jn_bipush dX6_init_23 ?_
  refine jn_mC hMA dX6_init_25 jn_cl6 hA ?_ (by simp [rX0_len, rX1_len, rX2_len, rX3_len, rX4_len, rX5_len]; omega)
  refine jn_pC dX6_init_29 (jn_ret_in hq) jo_X6_21 hA ?_
  show jn_J X cX6_init RX6 _ _ 32 [some (.ref o)] [] (A ++ (jv_ob 6 [.ref (o + 1), .ref (o + 2), .ref (o + 3), .null, .null, .int (jv_i 0), .int (jv_i 0)] :: (([jv_ai 6 (fun _ => 0), jv_ac 30 (fun _ => 0), jv_aq 30 (fun i => o + 4 + i.toNat)]) ++ (List.replicate 30 (jv_ai 8 (fun _ => 0)))))) 33 306
  refine jn_aload_n dX6_init_32 rfl ?_
  refine jn_bipush dX6_init_33 ?_
  refine jn_nL 6 dX6_init_35 jn_aL hA ?_ (by simp [rX0_len, rX1_len, rX2_len, rX3_len, rX4_len, rX5_len]; omega)
  refine jn_pC dX6_init_37 (jn_ret_in hq) jo_X6_24 hA ?_
  show jn_J X cX6_init RX6 _ _ 40 [some (.ref o)] [] (A ++ (jv_ob 6 [.ref (o + 1), .ref (o + 2), .ref (o + 3), .ref (o + 34), .null, .int (jv_i 0), .int (jv_i 0)] :: ((([jv_ai 6 (fun _ => 0), jv_ac 30 (fun _ => 0), jv_aq 30 (fun i => o + 4 + i.toNat)]) ++ (List.replicate 30 (jv_ai 8 (fun _ => 0)))) ++ [jv_al 6 (fun _ => 0)]))) 34 312
  refine jn_aload_n dX6_init_40 rfl ?_
  refine jn_bipush dX6_init_41 ?_
  refine jn_nL 6 dX6_init_43 jn_aL hA ?_ (by simp [rX0_len, rX1_len, rX2_len, rX3_len, rX4_len, rX5_len]; omega)
  refine jn_pC dX6_init_45 (jn_ret_in hq) jo_X6_28 hA ?_
  show jn_J X cX6_init RX6 _ _ 48 [some (.ref o)] [] (A ++ (jv_ob 6 [.ref (o + 1), .ref (o + 2), .ref (o + 3), .ref (o + 34), .ref (o + 35), .int (jv_i 0), .int (jv_i 0)] :: ((([jv_ai 6 (fun _ => 0), jv_ac 30 (fun _ => 0), jv_aq 30 (fun i => o + 4 + i.toNat)]) ++ (List.replicate 30 (jv_ai 8 (fun _ => 0)))) ++ [jv_al 6 (fun _ => 0), jv_al 6 (fun _ => 0)]))) 35 318
  refine jn_aload_n dX6_init_48 rfl ?_
  refine jn_iconst dX6_init_49 ?_
  refine jn_pC dX6_init_50 (jn_ret_in hq) jo_X6_31 hA ?_
  show jn_J X cX6_init RX6 _ _ 53 [some (.ref o)] [] (A ++ (jv_ob 6 [.ref (o + 1), .ref (o + 2), .ref (o + 3), .ref (o + 34), .ref (o + 35), .int (jv_i 0), .int (jv_i 0)] :: ((([jv_ai 6 (fun _ => 0), jv_ac 30 (fun _ => 0), jv_aq 30 (fun i => o + 4 + i.toNat)]) ++ (List.replicate 30 (jv_ai 8 (fun _ => 0)))) ++ [jv_al 6 (fun _ => 0), jv_al 6 (fun _ => 0)]))) 35 318
  refine jn_aload_n dX6_init_53 rfl ?_
  refine jn_iconst dX6_init_54 ?_
  refine jn_pC dX6_init_55 (jn_ret_in hq) jo_X6_35 hA ?_
  show jn_J X cX6_init RX6 _ _ 58 [some (.ref o)] [] (A ++ (jv_ob 6 [.ref (o + 1), .ref (o + 2), .ref (o + 3), .ref (o + 34), .ref (o + 35), .int (jv_i 0), .int (jv_i 0)] :: ((([jv_ai 6 (fun _ => 0), jv_ac 30 (fun _ => 0), jv_aq 30 (fun i => o + 4 + i.toNat)]) ++ (List.replicate 30 (jv_ai 8 (fun _ => 0)))) ++ [jv_al 6 (fun _ => 0), jv_al 6 (fun _ => 0)]))) 35 318
  exact jn_vret dX6_init_58 hq
def rX7 (o : Nat) : List jv_E := jv_ob 7 [.ref (o + 1), .ref (o + 5), .ref (o + 9), .ref (o + 15), .ref (o + 17), .ref (o + 53), .ref (o + 89), .ref (o + 95)] :: ((((((((rX3 (o + 1)) ++ (rX2 (o + 5))) ++ (rX0 (o + 9))) ++ (rX5 (o + 15))) ++ (rX6 (o + 17))) ++ (rX6 (o + 53))) ++ (rX1 (o + 89))) ++ (rX4 (o + 95)))
theorem rX7_len (o : Nat) : (rX7 o).length = 97 := rfl
theorem ct_X7_init {K : Nat} (hMA : jn_MA) (A : List jv_E) (o : Nat) (hA : A.length = o) (ho : o ≤ 100) : jn_Con yX7_init cX7_init (K + 2) 96 3247 [.ref o] (A ++ [jv_ob 7 [.null, .null, .null, .null, .null, .null, .null, .null]]) (A ++ rX7 o) := by
  refine jn_entry (own := RX7) (by decide) rfl rfl (by simp; omega) (fun X hq => ?_)
  show jn_J X cX7_init RX7 _ _ 0 [some (.ref o)] [] (A ++ (jv_ob 7 [.null, .null, .null, .null, .null, .null, .null, .null] :: [])) 0 0
  refine jn_aload_n dX7_init_0 rfl ?_
  refine jn_obj dX7_init_1 job_X7 ?_
  refine jn_aload_n dX7_init_4 rfl ?_
  refine jn_oC dX7_init_5 jnw_X7_7 hA ?_ (by simp [rX0_len, rX1_len, rX2_len, rX3_len, rX4_len, rX5_len, rX6_len]; omega)
  refine jn_dup dX7_init_8 ?_
  refine jn_cC dX7_init_9 jcw_X7_9 (ct_X3_init (K := K) _ (o + 1) (by simp [hA, rX0_len, rX1_len, rX2_len, rX3_len, rX4_len, rX5_len, rX6_len]; try omega) (by omega)) hA ?_ (by simp [hA, rX0_len, rX1_len, rX2_len, rX3_len, rX4_len, rX5_len, rX6_len]; try omega)
  refine jn_pC dX7_init_12 (jn_ret_in hq) jo_X7_10 hA ?_
  show jn_J X cX7_init RX7 _ _ 15 [some (.ref o)] [] (A ++ (jv_ob 7 [.ref (o + 1), .null, .null, .null, .null, .null, .null, .null] :: (rX3 (o + 1)))) 4 124
  refine jn_aload_n dX7_init_15 rfl ?_
  refine jn_oC dX7_init_16 jnw_X7_16 hA ?_ (by simp [rX0_len, rX1_len, rX2_len, rX3_len, rX4_len, rX5_len, rX6_len]; omega)
  refine jn_dup dX7_init_19 ?_
  refine jn_cC dX7_init_20 jcw_X7_18 (ct_X2_init (K := K) _ (o + 5) (by simp [hA, rX0_len, rX1_len, rX2_len, rX3_len, rX4_len, rX5_len, rX6_len]; try omega) (by omega)) hA ?_ (by simp [hA, rX0_len, rX1_len, rX2_len, rX3_len, rX4_len, rX5_len, rX6_len]; try omega)
  refine jn_pC dX7_init_23 (jn_ret_in hq) jo_X7_19 hA ?_
  show jn_J X cX7_init RX7 _ _ 26 [some (.ref o)] [] (A ++ (jv_ob 7 [.ref (o + 1), .ref (o + 5), .null, .null, .null, .null, .null, .null] :: ((rX3 (o + 1)) ++ (rX2 (o + 5))))) 8 188
  refine jn_aload_n dX7_init_26 rfl ?_
  refine jn_oC dX7_init_27 jnw_X7_23 hA ?_ (by simp [rX0_len, rX1_len, rX2_len, rX3_len, rX4_len, rX5_len, rX6_len]; omega)
  refine jn_dup dX7_init_30 ?_
  refine jn_cC dX7_init_31 jcw_X7_25 (ct_X0_init (K := K) _ (o + 9) (by simp [hA, rX0_len, rX1_len, rX2_len, rX3_len, rX4_len, rX5_len, rX6_len]; try omega) (by omega)) hA ?_ (by simp [hA, rX0_len, rX1_len, rX2_len, rX3_len, rX4_len, rX5_len, rX6_len]; try omega)
  refine jn_pC dX7_init_34 (jn_ret_in hq) jo_X7_26 hA ?_
  show jn_J X cX7_init RX7 _ _ 37 [some (.ref o)] [] (A ++ (jv_ob 7 [.ref (o + 1), .ref (o + 5), .ref (o + 9), .null, .null, .null, .null, .null] :: (((rX3 (o + 1)) ++ (rX2 (o + 5))) ++ (rX0 (o + 9))))) 14 234
  refine jn_aload_n dX7_init_37 rfl ?_
  refine jn_oC dX7_init_38 jnw_X7_30 hA ?_ (by simp [rX0_len, rX1_len, rX2_len, rX3_len, rX4_len, rX5_len, rX6_len]; omega)
  refine jn_dup dX7_init_41 ?_
  refine jn_cC dX7_init_42 jcw_X7_32 (ct_X5_init (K := K) _ (o + 15) (by simp [hA, rX0_len, rX1_len, rX2_len, rX3_len, rX4_len, rX5_len, rX6_len]; try omega) (by omega)) hA ?_ (by simp [hA, rX0_len, rX1_len, rX2_len, rX3_len, rX4_len, rX5_len, rX6_len]; try omega)
  refine jn_pC dX7_init_45 (jn_ret_in hq) jo_X7_33 hA ?_
  show jn_J X cX7_init RX7 _ _ 48 [some (.ref o)] [] (A ++ (jv_ob 7 [.ref (o + 1), .ref (o + 5), .ref (o + 9), .ref (o + 15), .null, .null, .null, .null] :: ((((rX3 (o + 1)) ++ (rX2 (o + 5))) ++ (rX0 (o + 9))) ++ (rX5 (o + 15))))) 16 537
  refine jn_aload_n dX7_init_48 rfl ?_
  refine jn_oC dX7_init_49 jnw_X7_37 hA ?_ (by simp [rX0_len, rX1_len, rX2_len, rX3_len, rX4_len, rX5_len, rX6_len]; omega)
  refine jn_dup dX7_init_52 ?_
  refine jn_cC dX7_init_53 jcw_X7_39 (ct_X6_init hMA (K := K) _ (o + 17) (by simp [hA, rX0_len, rX1_len, rX2_len, rX3_len, rX4_len, rX5_len, rX6_len]; try omega) (by omega)) hA ?_ (by simp [hA, rX0_len, rX1_len, rX2_len, rX3_len, rX4_len, rX5_len, rX6_len]; try omega)
  refine jn_pC dX7_init_56 (jn_ret_in hq) jo_X7_40 hA ?_
  show jn_J X cX7_init RX7 _ _ 59 [some (.ref o)] [] (A ++ (jv_ob 7 [.ref (o + 1), .ref (o + 5), .ref (o + 9), .ref (o + 15), .ref (o + 17), .null, .null, .null] :: (((((rX3 (o + 1)) ++ (rX2 (o + 5))) ++ (rX0 (o + 9))) ++ (rX5 (o + 15))) ++ (rX6 (o + 17))))) 52 862
  refine jn_aload_n dX7_init_59 rfl ?_
  refine jn_oC dX7_init_60 jnw_X7_37 hA ?_ (by simp [rX0_len, rX1_len, rX2_len, rX3_len, rX4_len, rX5_len, rX6_len]; omega)
  refine jn_dup dX7_init_63 ?_
  refine jn_cC dX7_init_64 jcw_X7_39 (ct_X6_init hMA (K := K) _ (o + 53) (by simp [hA, rX0_len, rX1_len, rX2_len, rX3_len, rX4_len, rX5_len, rX6_len]; try omega) (by omega)) hA ?_ (by simp [hA, rX0_len, rX1_len, rX2_len, rX3_len, rX4_len, rX5_len, rX6_len]; try omega)
  refine jn_pC dX7_init_67 (jn_ret_in hq) jo_X7_44 hA ?_
  show jn_J X cX7_init RX7 _ _ 70 [some (.ref o)] [] (A ++ (jv_ob 7 [.ref (o + 1), .ref (o + 5), .ref (o + 9), .ref (o + 15), .ref (o + 17), .ref (o + 53), .null, .null] :: ((((((rX3 (o + 1)) ++ (rX2 (o + 5))) ++ (rX0 (o + 9))) ++ (rX5 (o + 15))) ++ (rX6 (o + 17))) ++ (rX6 (o + 53))))) 88 1187
  refine jn_aload_n dX7_init_70 rfl ?_
  refine jn_oC dX7_init_71 jnw_X7_47 hA ?_ (by simp [rX0_len, rX1_len, rX2_len, rX3_len, rX4_len, rX5_len, rX6_len]; omega)
  refine jn_dup dX7_init_74 ?_
  refine jn_cC dX7_init_75 jcw_X7_49 (ct_X1_init (K := K) _ (o + 89) (by simp [hA, rX0_len, rX1_len, rX2_len, rX3_len, rX4_len, rX5_len, rX6_len]; try omega) (by omega)) hA ?_ (by simp [hA, rX0_len, rX1_len, rX2_len, rX3_len, rX4_len, rX5_len, rX6_len]; try omega)
  refine jn_pC dX7_init_78 (jn_ret_in hq) jo_X7_50 hA ?_
  show jn_J X cX7_init RX7 _ _ 81 [some (.ref o)] [] (A ++ (jv_ob 7 [.ref (o + 1), .ref (o + 5), .ref (o + 9), .ref (o + 15), .ref (o + 17), .ref (o + 53), .ref (o + 89), .null] :: (((((((rX3 (o + 1)) ++ (rX2 (o + 5))) ++ (rX0 (o + 9))) ++ (rX5 (o + 15))) ++ (rX6 (o + 17))) ++ (rX6 (o + 53))) ++ (rX1 (o + 89))))) 94 3195
  refine jn_aload_n dX7_init_81 rfl ?_
  refine jn_oC dX7_init_82 jnw_X7_54 hA ?_ (by simp [rX0_len, rX1_len, rX2_len, rX3_len, rX4_len, rX5_len, rX6_len]; omega)
  refine jn_dup dX7_init_85 ?_
  refine jn_cC dX7_init_86 jcw_X7_56 (ct_X4_init (K := K) _ (o + 95) (by simp [hA, rX0_len, rX1_len, rX2_len, rX3_len, rX4_len, rX5_len, rX6_len]; try omega) (by omega)) hA ?_ (by simp [hA, rX0_len, rX1_len, rX2_len, rX3_len, rX4_len, rX5_len, rX6_len]; try omega)
  refine jn_pC dX7_init_89 (jn_ret_in hq) jo_X7_57 hA ?_
  show jn_J X cX7_init RX7 _ _ 92 [some (.ref o)] [] (A ++ (jv_ob 7 [.ref (o + 1), .ref (o + 5), .ref (o + 9), .ref (o + 15), .ref (o + 17), .ref (o + 53), .ref (o + 89), .ref (o + 95)] :: ((((((((rX3 (o + 1)) ++ (rX2 (o + 5))) ++ (rX0 (o + 9))) ++ (rX5 (o + 15))) ++ (rX6 (o + 17))) ++ (rX6 (o + 53))) ++ (rX1 (o + 89))) ++ (rX4 (o + 95))))) 96 3247
  exact jn_vret dX7_init_92 hq
def rX8 (o : Nat) : List jv_E := jv_ob 8 [.int (jv_i 0), .ref (o + 1), .ref (o + 2), .ref (o + 3), .int (jv_i 0), .ref (o + 4), .ref (o + 5), .int (jv_i 0), .ref (o + 6), .int (jv_i 0), .ref (o + 7), .int (jv_i 0), .ref (o + 8), .ref (o + 9), .ref (o + 10), .ref (o + 11), .ref (o + 12), .int (jv_i 0), .int (jv_i 0), .int (jv_i 0), .ref (o + 13), .int (jv_i 0), .ref (o + 14), .ref (o + 15), .ref (o + 16), .int (jv_i 0), .ref (o + 17)] :: ([jv_ai 40 (fun _ => 0), jv_ai 40 (fun _ => 0), jv_ai 40 (fun _ => 0), jv_ai 20 (fun _ => 0), jv_ai 20 (fun _ => 0), jv_ai 32 (fun _ => 0), jv_ai 300 (fun _ => 0), jv_ai 12 (fun _ => 0), jv_ai 60 (fun _ => 0), jv_ai 120 (fun _ => 0), jv_ai 480 (fun _ => 0), jv_ai 480 (fun _ => 0), jv_al 400 (fun _ => 0), jv_al 400 (fun _ => 0), jv_al 400 (fun _ => 0), jv_al 400 (fun _ => 0), jv_ai 50 (fun _ => 0)])
theorem rX8_len (o : Nat) : (rX8 o).length = 18 := rfl
theorem ct_X8_init {K : Nat} (A : List jv_E) (o : Nat) (hA : A.length = o) (ho : o ≤ 200) : jn_Con yX8_init cX8_init (K + 1) 17 3294 [.ref o] (A ++ [jv_ob 8 [.int (jv_i 0), .null, .null, .null, .int (jv_i 0), .null, .null, .int (jv_i 0), .null, .int (jv_i 0), .null, .int (jv_i 0), .null, .null, .null, .null, .null, .int (jv_i 0), .int (jv_i 0), .int (jv_i 0), .null, .int (jv_i 0), .null, .null, .null, .int (jv_i 0), .null]]) (A ++ rX8 o) := by
  refine jn_entry (own := RX8) (by decide) rfl rfl (by simp; omega) (fun X hq => ?_)
  show jn_J X cX8_init RX8 _ _ 0 [some (.ref o)] [] (A ++ (jv_ob 8 [.int (jv_i 0), .null, .null, .null, .int (jv_i 0), .null, .null, .int (jv_i 0), .null, .int (jv_i 0), .null, .int (jv_i 0), .null, .null, .null, .null, .null, .int (jv_i 0), .int (jv_i 0), .int (jv_i 0), .null, .int (jv_i 0), .null, .null, .null, .int (jv_i 0), .null] :: [])) 0 0
  refine jn_aload_n dX8_init_0 rfl ?_
  refine jn_obj dX8_init_1 job_X8 ?_
  refine jn_aload_n dX8_init_4 rfl ?_
  refine jn_bipush dX8_init_5 ?_
  refine jn_nI 40 dX8_init_7 jn_aI hA ?_ (by simp [rX0_len, rX1_len, rX2_len, rX3_len, rX4_len, rX5_len, rX6_len, rX7_len]; omega)
  refine jn_pC dX8_init_9 (jn_ret_in hq) jo_X8_7 hA ?_
  show jn_J X cX8_init RX8 _ _ 12 [some (.ref o)] [] (A ++ (jv_ob 8 [.int (jv_i 0), .ref (o + 1), .null, .null, .int (jv_i 0), .null, .null, .int (jv_i 0), .null, .int (jv_i 0), .null, .int (jv_i 0), .null, .null, .null, .null, .null, .int (jv_i 0), .int (jv_i 0), .int (jv_i 0), .null, .int (jv_i 0), .null, .null, .null, .int (jv_i 0), .null] :: ([jv_ai 40 (fun _ => 0)]))) 1 40
  refine jn_aload_n dX8_init_12 rfl ?_
  refine jn_bipush dX8_init_13 ?_
  refine jn_nI 40 dX8_init_15 jn_aI hA ?_ (by simp [rX0_len, rX1_len, rX2_len, rX3_len, rX4_len, rX5_len, rX6_len, rX7_len]; omega)
  refine jn_pC dX8_init_17 (jn_ret_in hq) jo_X8_13 hA ?_
  show jn_J X cX8_init RX8 _ _ 20 [some (.ref o)] [] (A ++ (jv_ob 8 [.int (jv_i 0), .ref (o + 1), .ref (o + 2), .null, .int (jv_i 0), .null, .null, .int (jv_i 0), .null, .int (jv_i 0), .null, .int (jv_i 0), .null, .null, .null, .null, .null, .int (jv_i 0), .int (jv_i 0), .int (jv_i 0), .null, .int (jv_i 0), .null, .null, .null, .int (jv_i 0), .null] :: ([jv_ai 40 (fun _ => 0), jv_ai 40 (fun _ => 0)]))) 2 80
  refine jn_aload_n dX8_init_20 rfl ?_
  refine jn_bipush dX8_init_21 ?_
  refine jn_nI 40 dX8_init_23 jn_aI hA ?_ (by simp [rX0_len, rX1_len, rX2_len, rX3_len, rX4_len, rX5_len, rX6_len, rX7_len]; omega)
  refine jn_pC dX8_init_25 (jn_ret_in hq) jo_X8_16 hA ?_
  show jn_J X cX8_init RX8 _ _ 28 [some (.ref o)] [] (A ++ (jv_ob 8 [.int (jv_i 0), .ref (o + 1), .ref (o + 2), .ref (o + 3), .int (jv_i 0), .null, .null, .int (jv_i 0), .null, .int (jv_i 0), .null, .int (jv_i 0), .null, .null, .null, .null, .null, .int (jv_i 0), .int (jv_i 0), .int (jv_i 0), .null, .int (jv_i 0), .null, .null, .null, .int (jv_i 0), .null] :: ([jv_ai 40 (fun _ => 0), jv_ai 40 (fun _ => 0), jv_ai 40 (fun _ => 0)]))) 3 120
  refine jn_aload_n dX8_init_28 rfl ?_
  refine jn_bipush dX8_init_29 ?_
  refine jn_nI 20 dX8_init_31 jn_aI hA ?_ (by simp [rX0_len, rX1_len, rX2_len, rX3_len, rX4_len, rX5_len, rX6_len, rX7_len]; omega)
  refine jn_pC dX8_init_33 (jn_ret_in hq) jo_X8_19 hA ?_
  show jn_J X cX8_init RX8 _ _ 36 [some (.ref o)] [] (A ++ (jv_ob 8 [.int (jv_i 0), .ref (o + 1), .ref (o + 2), .ref (o + 3), .int (jv_i 0), .ref (o + 4), .null, .int (jv_i 0), .null, .int (jv_i 0), .null, .int (jv_i 0), .null, .null, .null, .null, .null, .int (jv_i 0), .int (jv_i 0), .int (jv_i 0), .null, .int (jv_i 0), .null, .null, .null, .int (jv_i 0), .null] :: ([jv_ai 40 (fun _ => 0), jv_ai 40 (fun _ => 0), jv_ai 40 (fun _ => 0), jv_ai 20 (fun _ => 0)]))) 4 140
  refine jn_aload_n dX8_init_36 rfl ?_
  refine jn_bipush dX8_init_37 ?_
  refine jn_nI 20 dX8_init_39 jn_aI hA ?_ (by simp [rX0_len, rX1_len, rX2_len, rX3_len, rX4_len, rX5_len, rX6_len, rX7_len]; omega)
  refine jn_pC dX8_init_41 (jn_ret_in hq) jo_X8_22 hA ?_
  show jn_J X cX8_init RX8 _ _ 44 [some (.ref o)] [] (A ++ (jv_ob 8 [.int (jv_i 0), .ref (o + 1), .ref (o + 2), .ref (o + 3), .int (jv_i 0), .ref (o + 4), .ref (o + 5), .int (jv_i 0), .null, .int (jv_i 0), .null, .int (jv_i 0), .null, .null, .null, .null, .null, .int (jv_i 0), .int (jv_i 0), .int (jv_i 0), .null, .int (jv_i 0), .null, .null, .null, .int (jv_i 0), .null] :: ([jv_ai 40 (fun _ => 0), jv_ai 40 (fun _ => 0), jv_ai 40 (fun _ => 0), jv_ai 20 (fun _ => 0), jv_ai 20 (fun _ => 0)]))) 5 160
  refine jn_aload_n dX8_init_44 rfl ?_
  refine jn_bipush dX8_init_45 ?_
  refine jn_nI 32 dX8_init_47 jn_aI hA ?_ (by simp [rX0_len, rX1_len, rX2_len, rX3_len, rX4_len, rX5_len, rX6_len, rX7_len]; omega)
  refine jn_pC dX8_init_49 (jn_ret_in hq) jo_X8_25 hA ?_
  show jn_J X cX8_init RX8 _ _ 52 [some (.ref o)] [] (A ++ (jv_ob 8 [.int (jv_i 0), .ref (o + 1), .ref (o + 2), .ref (o + 3), .int (jv_i 0), .ref (o + 4), .ref (o + 5), .int (jv_i 0), .ref (o + 6), .int (jv_i 0), .null, .int (jv_i 0), .null, .null, .null, .null, .null, .int (jv_i 0), .int (jv_i 0), .int (jv_i 0), .null, .int (jv_i 0), .null, .null, .null, .int (jv_i 0), .null] :: ([jv_ai 40 (fun _ => 0), jv_ai 40 (fun _ => 0), jv_ai 40 (fun _ => 0), jv_ai 20 (fun _ => 0), jv_ai 20 (fun _ => 0), jv_ai 32 (fun _ => 0)]))) 6 192
  refine jn_aload_n dX8_init_52 rfl ?_
  refine jn_sipush dX8_init_53 ?_
  refine jn_nI 300 dX8_init_56 jn_aI hA ?_ (by simp [rX0_len, rX1_len, rX2_len, rX3_len, rX4_len, rX5_len, rX6_len, rX7_len]; omega)
  refine jn_pC dX8_init_58 (jn_ret_in hq) jo_X8_28 hA ?_
  show jn_J X cX8_init RX8 _ _ 61 [some (.ref o)] [] (A ++ (jv_ob 8 [.int (jv_i 0), .ref (o + 1), .ref (o + 2), .ref (o + 3), .int (jv_i 0), .ref (o + 4), .ref (o + 5), .int (jv_i 0), .ref (o + 6), .int (jv_i 0), .ref (o + 7), .int (jv_i 0), .null, .null, .null, .null, .null, .int (jv_i 0), .int (jv_i 0), .int (jv_i 0), .null, .int (jv_i 0), .null, .null, .null, .int (jv_i 0), .null] :: ([jv_ai 40 (fun _ => 0), jv_ai 40 (fun _ => 0), jv_ai 40 (fun _ => 0), jv_ai 20 (fun _ => 0), jv_ai 20 (fun _ => 0), jv_ai 32 (fun _ => 0), jv_ai 300 (fun _ => 0)]))) 7 492
  refine jn_aload_n dX8_init_61 rfl ?_
  refine jn_bipush dX8_init_62 ?_
  refine jn_nI 12 dX8_init_64 jn_aI hA ?_ (by simp [rX0_len, rX1_len, rX2_len, rX3_len, rX4_len, rX5_len, rX6_len, rX7_len]; omega)
  refine jn_pC dX8_init_66 (jn_ret_in hq) jo_X8_31 hA ?_
  show jn_J X cX8_init RX8 _ _ 69 [some (.ref o)] [] (A ++ (jv_ob 8 [.int (jv_i 0), .ref (o + 1), .ref (o + 2), .ref (o + 3), .int (jv_i 0), .ref (o + 4), .ref (o + 5), .int (jv_i 0), .ref (o + 6), .int (jv_i 0), .ref (o + 7), .int (jv_i 0), .ref (o + 8), .null, .null, .null, .null, .int (jv_i 0), .int (jv_i 0), .int (jv_i 0), .null, .int (jv_i 0), .null, .null, .null, .int (jv_i 0), .null] :: ([jv_ai 40 (fun _ => 0), jv_ai 40 (fun _ => 0), jv_ai 40 (fun _ => 0), jv_ai 20 (fun _ => 0), jv_ai 20 (fun _ => 0), jv_ai 32 (fun _ => 0), jv_ai 300 (fun _ => 0), jv_ai 12 (fun _ => 0)]))) 8 504
  refine jn_aload_n dX8_init_69 rfl ?_
  refine jn_bipush dX8_init_70 ?_
  refine jn_nI 60 dX8_init_72 jn_aI hA ?_ (by simp [rX0_len, rX1_len, rX2_len, rX3_len, rX4_len, rX5_len, rX6_len, rX7_len]; omega)
  refine jn_pC dX8_init_74 (jn_ret_in hq) jo_X8_34 hA ?_
  show jn_J X cX8_init RX8 _ _ 77 [some (.ref o)] [] (A ++ (jv_ob 8 [.int (jv_i 0), .ref (o + 1), .ref (o + 2), .ref (o + 3), .int (jv_i 0), .ref (o + 4), .ref (o + 5), .int (jv_i 0), .ref (o + 6), .int (jv_i 0), .ref (o + 7), .int (jv_i 0), .ref (o + 8), .ref (o + 9), .null, .null, .null, .int (jv_i 0), .int (jv_i 0), .int (jv_i 0), .null, .int (jv_i 0), .null, .null, .null, .int (jv_i 0), .null] :: ([jv_ai 40 (fun _ => 0), jv_ai 40 (fun _ => 0), jv_ai 40 (fun _ => 0), jv_ai 20 (fun _ => 0), jv_ai 20 (fun _ => 0), jv_ai 32 (fun _ => 0), jv_ai 300 (fun _ => 0), jv_ai 12 (fun _ => 0), jv_ai 60 (fun _ => 0)]))) 9 564
  refine jn_aload_n dX8_init_77 rfl ?_
  refine jn_bipush dX8_init_78 ?_
  refine jn_nI 120 dX8_init_80 jn_aI hA ?_ (by simp [rX0_len, rX1_len, rX2_len, rX3_len, rX4_len, rX5_len, rX6_len, rX7_len]; omega)
  refine jn_pC dX8_init_82 (jn_ret_in hq) jo_X8_37 hA ?_
  show jn_J X cX8_init RX8 _ _ 85 [some (.ref o)] [] (A ++ (jv_ob 8 [.int (jv_i 0), .ref (o + 1), .ref (o + 2), .ref (o + 3), .int (jv_i 0), .ref (o + 4), .ref (o + 5), .int (jv_i 0), .ref (o + 6), .int (jv_i 0), .ref (o + 7), .int (jv_i 0), .ref (o + 8), .ref (o + 9), .ref (o + 10), .null, .null, .int (jv_i 0), .int (jv_i 0), .int (jv_i 0), .null, .int (jv_i 0), .null, .null, .null, .int (jv_i 0), .null] :: ([jv_ai 40 (fun _ => 0), jv_ai 40 (fun _ => 0), jv_ai 40 (fun _ => 0), jv_ai 20 (fun _ => 0), jv_ai 20 (fun _ => 0), jv_ai 32 (fun _ => 0), jv_ai 300 (fun _ => 0), jv_ai 12 (fun _ => 0), jv_ai 60 (fun _ => 0), jv_ai 120 (fun _ => 0)]))) 10 684
  refine jn_aload_n dX8_init_85 rfl ?_
  refine jn_sipush dX8_init_86 ?_
  refine jn_nI 480 dX8_init_89 jn_aI hA ?_ (by simp [rX0_len, rX1_len, rX2_len, rX3_len, rX4_len, rX5_len, rX6_len, rX7_len]; omega)
  refine jn_pC dX8_init_91 (jn_ret_in hq) jo_X8_40 hA ?_
  show jn_J X cX8_init RX8 _ _ 94 [some (.ref o)] [] (A ++ (jv_ob 8 [.int (jv_i 0), .ref (o + 1), .ref (o + 2), .ref (o + 3), .int (jv_i 0), .ref (o + 4), .ref (o + 5), .int (jv_i 0), .ref (o + 6), .int (jv_i 0), .ref (o + 7), .int (jv_i 0), .ref (o + 8), .ref (o + 9), .ref (o + 10), .ref (o + 11), .null, .int (jv_i 0), .int (jv_i 0), .int (jv_i 0), .null, .int (jv_i 0), .null, .null, .null, .int (jv_i 0), .null] :: ([jv_ai 40 (fun _ => 0), jv_ai 40 (fun _ => 0), jv_ai 40 (fun _ => 0), jv_ai 20 (fun _ => 0), jv_ai 20 (fun _ => 0), jv_ai 32 (fun _ => 0), jv_ai 300 (fun _ => 0), jv_ai 12 (fun _ => 0), jv_ai 60 (fun _ => 0), jv_ai 120 (fun _ => 0), jv_ai 480 (fun _ => 0)]))) 11 1164
  refine jn_aload_n dX8_init_94 rfl ?_
  refine jn_sipush dX8_init_95 ?_
  refine jn_nI 480 dX8_init_98 jn_aI hA ?_ (by simp [rX0_len, rX1_len, rX2_len, rX3_len, rX4_len, rX5_len, rX6_len, rX7_len]; omega)
  refine jn_pC dX8_init_100 (jn_ret_in hq) jo_X8_43 hA ?_
  show jn_J X cX8_init RX8 _ _ 103 [some (.ref o)] [] (A ++ (jv_ob 8 [.int (jv_i 0), .ref (o + 1), .ref (o + 2), .ref (o + 3), .int (jv_i 0), .ref (o + 4), .ref (o + 5), .int (jv_i 0), .ref (o + 6), .int (jv_i 0), .ref (o + 7), .int (jv_i 0), .ref (o + 8), .ref (o + 9), .ref (o + 10), .ref (o + 11), .ref (o + 12), .int (jv_i 0), .int (jv_i 0), .int (jv_i 0), .null, .int (jv_i 0), .null, .null, .null, .int (jv_i 0), .null] :: ([jv_ai 40 (fun _ => 0), jv_ai 40 (fun _ => 0), jv_ai 40 (fun _ => 0), jv_ai 20 (fun _ => 0), jv_ai 20 (fun _ => 0), jv_ai 32 (fun _ => 0), jv_ai 300 (fun _ => 0), jv_ai 12 (fun _ => 0), jv_ai 60 (fun _ => 0), jv_ai 120 (fun _ => 0), jv_ai 480 (fun _ => 0), jv_ai 480 (fun _ => 0)]))) 12 1644
  refine jn_aload_n dX8_init_103 rfl ?_
  refine jn_sipush dX8_init_104 ?_
  refine jn_nL 400 dX8_init_107 jn_aL hA ?_ (by simp [rX0_len, rX1_len, rX2_len, rX3_len, rX4_len, rX5_len, rX6_len, rX7_len]; omega)
  refine jn_pC dX8_init_109 (jn_ret_in hq) jo_X8_46 hA ?_
  show jn_J X cX8_init RX8 _ _ 112 [some (.ref o)] [] (A ++ (jv_ob 8 [.int (jv_i 0), .ref (o + 1), .ref (o + 2), .ref (o + 3), .int (jv_i 0), .ref (o + 4), .ref (o + 5), .int (jv_i 0), .ref (o + 6), .int (jv_i 0), .ref (o + 7), .int (jv_i 0), .ref (o + 8), .ref (o + 9), .ref (o + 10), .ref (o + 11), .ref (o + 12), .int (jv_i 0), .int (jv_i 0), .int (jv_i 0), .ref (o + 13), .int (jv_i 0), .null, .null, .null, .int (jv_i 0), .null] :: ([jv_ai 40 (fun _ => 0), jv_ai 40 (fun _ => 0), jv_ai 40 (fun _ => 0), jv_ai 20 (fun _ => 0), jv_ai 20 (fun _ => 0), jv_ai 32 (fun _ => 0), jv_ai 300 (fun _ => 0), jv_ai 12 (fun _ => 0), jv_ai 60 (fun _ => 0), jv_ai 120 (fun _ => 0), jv_ai 480 (fun _ => 0), jv_ai 480 (fun _ => 0), jv_al 400 (fun _ => 0)]))) 13 2044
  refine jn_aload_n dX8_init_112 rfl ?_
  refine jn_sipush dX8_init_113 ?_
  refine jn_nL 400 dX8_init_116 jn_aL hA ?_ (by simp [rX0_len, rX1_len, rX2_len, rX3_len, rX4_len, rX5_len, rX6_len, rX7_len]; omega)
  refine jn_pC dX8_init_118 (jn_ret_in hq) jo_X8_50 hA ?_
  show jn_J X cX8_init RX8 _ _ 121 [some (.ref o)] [] (A ++ (jv_ob 8 [.int (jv_i 0), .ref (o + 1), .ref (o + 2), .ref (o + 3), .int (jv_i 0), .ref (o + 4), .ref (o + 5), .int (jv_i 0), .ref (o + 6), .int (jv_i 0), .ref (o + 7), .int (jv_i 0), .ref (o + 8), .ref (o + 9), .ref (o + 10), .ref (o + 11), .ref (o + 12), .int (jv_i 0), .int (jv_i 0), .int (jv_i 0), .ref (o + 13), .int (jv_i 0), .ref (o + 14), .null, .null, .int (jv_i 0), .null] :: ([jv_ai 40 (fun _ => 0), jv_ai 40 (fun _ => 0), jv_ai 40 (fun _ => 0), jv_ai 20 (fun _ => 0), jv_ai 20 (fun _ => 0), jv_ai 32 (fun _ => 0), jv_ai 300 (fun _ => 0), jv_ai 12 (fun _ => 0), jv_ai 60 (fun _ => 0), jv_ai 120 (fun _ => 0), jv_ai 480 (fun _ => 0), jv_ai 480 (fun _ => 0), jv_al 400 (fun _ => 0), jv_al 400 (fun _ => 0)]))) 14 2444
  refine jn_aload_n dX8_init_121 rfl ?_
  refine jn_sipush dX8_init_122 ?_
  refine jn_nL 400 dX8_init_125 jn_aL hA ?_ (by simp [rX0_len, rX1_len, rX2_len, rX3_len, rX4_len, rX5_len, rX6_len, rX7_len]; omega)
  refine jn_pC dX8_init_127 (jn_ret_in hq) jo_X8_53 hA ?_
  show jn_J X cX8_init RX8 _ _ 130 [some (.ref o)] [] (A ++ (jv_ob 8 [.int (jv_i 0), .ref (o + 1), .ref (o + 2), .ref (o + 3), .int (jv_i 0), .ref (o + 4), .ref (o + 5), .int (jv_i 0), .ref (o + 6), .int (jv_i 0), .ref (o + 7), .int (jv_i 0), .ref (o + 8), .ref (o + 9), .ref (o + 10), .ref (o + 11), .ref (o + 12), .int (jv_i 0), .int (jv_i 0), .int (jv_i 0), .ref (o + 13), .int (jv_i 0), .ref (o + 14), .ref (o + 15), .null, .int (jv_i 0), .null] :: ([jv_ai 40 (fun _ => 0), jv_ai 40 (fun _ => 0), jv_ai 40 (fun _ => 0), jv_ai 20 (fun _ => 0), jv_ai 20 (fun _ => 0), jv_ai 32 (fun _ => 0), jv_ai 300 (fun _ => 0), jv_ai 12 (fun _ => 0), jv_ai 60 (fun _ => 0), jv_ai 120 (fun _ => 0), jv_ai 480 (fun _ => 0), jv_ai 480 (fun _ => 0), jv_al 400 (fun _ => 0), jv_al 400 (fun _ => 0), jv_al 400 (fun _ => 0)]))) 15 2844
  refine jn_aload_n dX8_init_130 rfl ?_
  refine jn_sipush dX8_init_131 ?_
  refine jn_nL 400 dX8_init_134 jn_aL hA ?_ (by simp [rX0_len, rX1_len, rX2_len, rX3_len, rX4_len, rX5_len, rX6_len, rX7_len]; omega)
  refine jn_pC dX8_init_136 (jn_ret_in hq) jo_X8_56 hA ?_
  show jn_J X cX8_init RX8 _ _ 139 [some (.ref o)] [] (A ++ (jv_ob 8 [.int (jv_i 0), .ref (o + 1), .ref (o + 2), .ref (o + 3), .int (jv_i 0), .ref (o + 4), .ref (o + 5), .int (jv_i 0), .ref (o + 6), .int (jv_i 0), .ref (o + 7), .int (jv_i 0), .ref (o + 8), .ref (o + 9), .ref (o + 10), .ref (o + 11), .ref (o + 12), .int (jv_i 0), .int (jv_i 0), .int (jv_i 0), .ref (o + 13), .int (jv_i 0), .ref (o + 14), .ref (o + 15), .ref (o + 16), .int (jv_i 0), .null] :: ([jv_ai 40 (fun _ => 0), jv_ai 40 (fun _ => 0), jv_ai 40 (fun _ => 0), jv_ai 20 (fun _ => 0), jv_ai 20 (fun _ => 0), jv_ai 32 (fun _ => 0), jv_ai 300 (fun _ => 0), jv_ai 12 (fun _ => 0), jv_ai 60 (fun _ => 0), jv_ai 120 (fun _ => 0), jv_ai 480 (fun _ => 0), jv_ai 480 (fun _ => 0), jv_al 400 (fun _ => 0), jv_al 400 (fun _ => 0), jv_al 400 (fun _ => 0), jv_al 400 (fun _ => 0)]))) 16 3244
  refine jn_aload_n dX8_init_139 rfl ?_
  refine jn_bipush dX8_init_140 ?_
  refine jn_nI 50 dX8_init_142 jn_aI hA ?_ (by simp [rX0_len, rX1_len, rX2_len, rX3_len, rX4_len, rX5_len, rX6_len, rX7_len]; omega)
  refine jn_pC dX8_init_144 (jn_ret_in hq) jo_X8_59 hA ?_
  show jn_J X cX8_init RX8 _ _ 147 [some (.ref o)] [] (A ++ (jv_ob 8 [.int (jv_i 0), .ref (o + 1), .ref (o + 2), .ref (o + 3), .int (jv_i 0), .ref (o + 4), .ref (o + 5), .int (jv_i 0), .ref (o + 6), .int (jv_i 0), .ref (o + 7), .int (jv_i 0), .ref (o + 8), .ref (o + 9), .ref (o + 10), .ref (o + 11), .ref (o + 12), .int (jv_i 0), .int (jv_i 0), .int (jv_i 0), .ref (o + 13), .int (jv_i 0), .ref (o + 14), .ref (o + 15), .ref (o + 16), .int (jv_i 0), .ref (o + 17)] :: ([jv_ai 40 (fun _ => 0), jv_ai 40 (fun _ => 0), jv_ai 40 (fun _ => 0), jv_ai 20 (fun _ => 0), jv_ai 20 (fun _ => 0), jv_ai 32 (fun _ => 0), jv_ai 300 (fun _ => 0), jv_ai 12 (fun _ => 0), jv_ai 60 (fun _ => 0), jv_ai 120 (fun _ => 0), jv_ai 480 (fun _ => 0), jv_ai 480 (fun _ => 0), jv_al 400 (fun _ => 0), jv_al 400 (fun _ => 0), jv_al 400 (fun _ => 0), jv_al 400 (fun _ => 0), jv_ai 50 (fun _ => 0)]))) 17 3294
  exact jn_vret dX8_init_147 hq
