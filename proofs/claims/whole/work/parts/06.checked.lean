/-! every instruction of the resolved program against the bytecode (gen_chk.py writes this) -/
def zlen (i : Instr) : Nat := match i with
  | .iload _ => 2
  | .lload _ => 2
  | .aload _ => 2
  | .istore _ => 2
  | .lstore _ => 2
  | .astore _ => 2
  | .iinc _ _ => 3
  | .goto _ => 3
  | .ifCond _ _ => 3
  | .if_icmp _ _ => 3
  | .ifnull _ => 3
  | .ifnonnull _ => 3
  | .newarray _ => 2
  | _ => 1
def zfin (n : Nat) : Bool := match vwCl[n / 100]? with
  | some (_, T, _) => (T (n % 100)).2.2.2
  | none => true
/-- room for a call -/
def zroom (y n : Nat) : Bool := decide ((zF.getD n (0, 0)).1 + 1 ≤ (zF.getD y (0, 0)).1) && decide (8 + ((zM.getD n (0, 0, 0)).2.2 + 11) + (zF.getD n (0, 0)).2 ≤ (zF.getD y (0, 0)).2) && decide (n < 242)
def zokD (y ow : Nat) (i : Instr) (len : Nat) (ri : Instr) : Bool := match ri with
  | .getfield n => match i with
    | .getfield k => decide (len = 3) && (decide ((ow, k, n, true) ∈ zFL) || decide ((ow, k, n, false) ∈ zFL))
    | _ => false
  | .putfield n => match i with
    | .putfield k => decide (len = 3) && (if zfin n = true then decide ((ow, k, n, false) ∈ zFL) && decide ((zN.getD y objectInit).name = "<init>") && decide (n / 100 = ow) && decide (n < 1300) else decide (n < 1300) && (decide ((ow, k, n, true) ∈ zFL) || decide ((ow, k, n, false) ∈ zFL)))
    | _ => false
  | .getstatic n => match i with
    | .getstatic k => decide (len = 3) && decide ((ow, k, n) ∈ zGL)
    | _ => false
  | .invokevirtual n => match i with
    | .invokevirtual k => decide (len = 3) && (decide ((ow, k, n, true) ∈ zML) || decide ((ow, k, n, false) ∈ zML)) && zroom y n && decide ((zM.getD n (0, 0, 0)).1 < 14) && decide ((zN.getD n objectInit).name ≠ "<init>")
    | _ => false
  | .invokespecial n => match i with
    | .invokespecial k => decide (len = 3) && (if n = 998 then decide ((ow, k) ∈ zOI) && decide (1 ≤ (zF.getD y (0, 0)).1) && decide (20 ≤ (zF.getD y (0, 0)).2) else (decide ((ow, k, n, true) ∈ zML) || decide ((ow, k, n, false) ∈ zML)) && zroom y n && decide ((zM.getD n (0, 0, 0)).1 < 14) && decide ((zN.getD n objectInit).name = "<init>") && decide (zQ.getD n none = none))
    | _ => false
  | .invokestatic n => match i with
    | .invokestatic k => decide (len = 3) && (if n = 999 then decide ((ow, k) ∈ zAC) && decide (1 ≤ (zF.getD y (0, 0)).1) && decide (8 + (nativeFrameWords "java/lang/System" "arraycopy" 5 + 11) ≤ (zF.getD y (0, 0)).2) else (decide ((ow, k, n, true) ∈ zML) || decide ((ow, k, n, false) ∈ zML)) && zroom y n)
    | _ => false
  | .new n => match i with
    | .new k => decide (len = 3) && decide ((ow, k, n) ∈ zCL)
    | _ => false
  | .anewarray n => match i with
    | .anewarray k => decide (len = 3) && decide (200 ≤ n) && decide ((ow, k, n - 200) ∈ zCL)
    | _ => false
  | .bipush v => match i with
    | .bipush u => decide (len = 2) && decide (u = v) && decide ((Int8.ofInt u).toInt32 = Int32.ofInt v)
    | .ldc k => decide (len = 2) && decide ((ow, k, v) ∈ zKL)
    | _ => false
  | .sipush v => match i with
    | .sipush u => decide (len = 3) && decide (u = v) && decide ((Int16.ofInt u).toInt32 = Int32.ofInt v)
    | .ldc_w k => decide (len = 3) && decide ((ow, k, v) ∈ zKL)
    | _ => false
  | .ldc n => match i with
    | .ldc_w k => decide (len = 3) && decide ((ow, k, n) ∈ zSL)
    | _ => false
  | .ldc2_w n => match i with
    | .ldc2_w k => decide (len = 3) && decide ((ow, k, n) ∈ zLL)
    | _ => false
  | .tableswitch _ _ _ _ => decide (i = ri)
  | .lookupswitch _ _ => decide (i = ri)
  | r => decide (i = r) && decide (len = zlen r)
def zokI (y : Nat) (e : Nat × Instr) : Bool := match decode (zCd.getD y ⟨#[]⟩) e.1 with
  | .ok (i, len) => zokD y (zOw.getD y 0) i len e.2
  | _ => false
set_option maxRecDepth 100000 in
theorem zk_0_0 : (((zt_X0_init.drop 0).take 60).all (zokI 0)) = true := by decide +kernel
set_option maxRecDepth 100000 in
theorem zk_1_0 : (((zt_X0_fits.drop 0).take 60).all (zokI 1)) = true := by decide +kernel
set_option maxRecDepth 100000 in
theorem zk_2_0 : (((zt_X1_init.drop 0).take 60).all (zokI 2)) = true := by decide +kernel
set_option maxRecDepth 100000 in
theorem zk_3_0 : (((zt_X2_init.drop 0).take 60).all (zokI 3)) = true := by decide +kernel
set_option maxRecDepth 100000 in
theorem zk_4_0 : (((zt_X2_keep.drop 0).take 60).all (zokI 4)) = true := by decide +kernel
set_option maxRecDepth 100000 in
theorem zk_5_0 : (((zt_X2_weigh.drop 0).take 60).all (zokI 5)) = true := by decide +kernel
set_option maxRecDepth 100000 in
theorem zk_6_0 : (((zt_X2_caseAt.drop 0).take 60).all (zokI 6)) = true := by decide +kernel
set_option maxRecDepth 100000 in
theorem zk_7_0 : (((zt_X2_measure.drop 0).take 60).all (zokI 7)) = true := by decide +kernel
set_option maxRecDepth 100000 in
theorem zk_8_0 : (((zt_X2_weightOf.drop 0).take 60).all (zokI 8)) = true := by decide +kernel
set_option maxRecDepth 100000 in
theorem zk_9_0 : (((zt_X2_ranked.drop 0).take 60).all (zokI 9)) = true := by decide +kernel
set_option maxRecDepth 100000 in
theorem zk_10_0 : (((zt_X2_liker.drop 0).take 60).all (zokI 10)) = true := by decide +kernel
set_option maxRecDepth 100000 in
theorem zk_11_0 : (((zt_X2_isLiker.drop 0).take 60).all (zokI 11)) = true := by decide +kernel
set_option maxRecDepth 100000 in
theorem zk_12_0 : (((zt_X2_binding.drop 0).take 60).all (zokI 12)) = true := by decide +kernel
set_option maxRecDepth 100000 in
theorem zk_13_0 : (((zt_X3_init.drop 0).take 60).all (zokI 13)) = true := by decide +kernel
set_option maxRecDepth 100000 in
theorem zk_14_0 : (((zt_X3_has.drop 0).take 60).all (zokI 14)) = true := by decide +kernel
set_option maxRecDepth 100000 in
theorem zk_15_0 : (((zt_X3_build.drop 0).take 60).all (zokI 15)) = true := by decide +kernel
set_option maxRecDepth 100000 in
theorem zk_16_0 : (((zt_X3_enlist.drop 0).take 60).all (zokI 16)) = true := by decide +kernel
set_option maxRecDepth 100000 in
theorem zk_17_0 : (((zt_X3_gradeOf.drop 0).take 60).all (zokI 17)) = true := by decide +kernel
set_option maxRecDepth 100000 in
theorem zk_18_0 : (((zt_X4_init.drop 0).take 60).all (zokI 18)) = true := by decide +kernel
set_option maxRecDepth 100000 in
theorem zk_19_0 : (((zt_X4_bringProof.drop 0).take 60).all (zokI 19)) = true := by decide +kernel
set_option maxRecDepth 100000 in
theorem zk_20_0 : (((zt_X4_isMetBy.drop 0).take 60).all (zokI 20)) = true := by decide +kernel
set_option maxRecDepth 100000 in
theorem zk_21_0 : (((zt_X4_verdictFor.drop 0).take 60).all (zokI 21)) = true := by decide +kernel
set_option maxRecDepth 100000 in
theorem zk_22_0 : (((zt_X5_init.drop 0).take 60).all (zokI 22)) = true := by decide +kernel
set_option maxRecDepth 100000 in
theorem zk_23_0 : (((zt_X6_init.drop 0).take 60).all (zokI 23)) = true := by decide +kernel
set_option maxRecDepth 100000 in
theorem zk_24_0 : (((zt_X6_rule.drop 0).take 60).all (zokI 24)) = true := by decide +kernel
set_option maxRecDepth 100000 in
theorem zk_25_0 : (((zt_X6_mayComeNext.drop 0).take 60).all (zokI 25)) = true := by decide +kernel
set_option maxRecDepth 100000 in
theorem zk_26_0 : (((zt_X6_leastNext.drop 0).take 60).all (zokI 26)) = true := by decide +kernel
set_option maxRecDepth 100000 in
theorem zk_27_0 : (((zt_X6_leftOver.drop 0).take 60).all (zokI 27)) = true := by decide +kernel
set_option maxRecDepth 100000 in
theorem zk_28_0 : (((zt_X6_bar.drop 0).take 60).all (zokI 28)) = true := by decide +kernel
set_option maxRecDepth 100000 in
theorem zk_29_0 : (((zt_X6_rows.drop 0).take 60).all (zokI 29)) = true := by decide +kernel
set_option maxRecDepth 100000 in
theorem zk_30_0 : (((zt_X6_ordersOf.drop 0).take 60).all (zokI 30)) = true := by decide +kernel
set_option maxRecDepth 100000 in
theorem zk_31_0 : (((zt_X6_placed.drop 0).take 60).all (zokI 31)) = true := by decide +kernel
set_option maxRecDepth 100000 in
theorem zk_32_0 : (((zt_X7_init.drop 0).take 60).all (zokI 32)) = true := by decide +kernel
set_option maxRecDepth 100000 in
theorem zk_33_0 : (((zt_X7_ageOn.drop 0).take 60).all (zokI 33)) = true := by decide +kernel
set_option maxRecDepth 100000 in
theorem zk_34_0 : (((zt_X8_init.drop 0).take 60).all (zokI 34)) = true := by decide +kernel
set_option maxRecDepth 100000 in
theorem zk_35_0 : (((zt_X8_lay.drop 0).take 60).all (zokI 35)) = true := by decide +kernel
set_option maxRecDepth 100000 in
theorem zk_36_0 : (((zt_X8_holds.drop 0).take 60).all (zokI 36)) = true := by decide +kernel
set_option maxRecDepth 100000 in
theorem zk_37_0 : (((zt_X8_item.drop 0).take 60).all (zokI 37)) = true := by decide +kernel
set_option maxRecDepth 100000 in
theorem zk_38_0 : (((zt_X8_write.drop 0).take 60).all (zokI 38)) = true := by decide +kernel
set_option maxRecDepth 100000 in
theorem zk_39_0 : (((zt_X8_narrowed.drop 0).take 60).all (zokI 39)) = true := by decide +kernel
set_option maxRecDepth 100000 in
theorem zk_40_0 : (((zt_X8_hasPairs.drop 0).take 60).all (zokI 40)) = true := by decide +kernel
set_option maxRecDepth 100000 in
theorem zk_41_0 : (((zt_X8_sumOver.drop 0).take 60).all (zokI 41)) = true := by decide +kernel
set_option maxRecDepth 100000 in
theorem zk_42_0 : (((zt_X8_hasHeights.drop 0).take 60).all (zokI 42)) = true := by decide +kernel
set_option maxRecDepth 100000 in
theorem zk_43_0 : (((zt_X8_height.drop 0).take 60).all (zokI 43)) = true := by decide +kernel
set_option maxRecDepth 100000 in
theorem zk_44_0 : (((zt_X9_init.drop 0).take 60).all (zokI 44)) = true := by decide +kernel
set_option maxRecDepth 100000 in
theorem zk_45_0 : (((zt_X9_append.drop 0).take 60).all (zokI 45)) = true := by decide +kernel
set_option maxRecDepth 100000 in
theorem zk_46_0 : (((zt_X9_begin.drop 0).take 60).all (zokI 46)) = true := by decide +kernel
set_option maxRecDepth 100000 in
theorem zk_47_0 : (((zt_X9_isOver.drop 0).take 60).all (zokI 47)) = true := by decide +kernel
set_option maxRecDepth 100000 in
theorem zk_48_0 : (((zt_X9_byteAt.drop 0).take 60).all (zokI 48)) = true := by decide +kernel
set_option maxRecDepth 100000 in
theorem zk_49_0 : (((zt_X9_isLetter.drop 0).take 60).all (zokI 49)) = true := by decide +kernel
set_option maxRecDepth 100000 in
theorem zk_50_0 : (((zt_X9_isFigure.drop 0).take 60).all (zokI 50)) = true := by decide +kernel
set_option maxRecDepth 100000 in
theorem zk_51_0 : (((zt_X9_advance.drop 0).take 60).all (zokI 51)) = true := by decide +kernel
set_option maxRecDepth 100000 in
theorem zk_51_60 : (((zt_X9_advance.drop 60).take 60).all (zokI 51)) = true := by decide +kernel
set_option maxRecDepth 100000 in
theorem zk_52_0 : (((zt_X9_scanName.drop 0).take 60).all (zokI 52)) = true := by decide +kernel
set_option maxRecDepth 100000 in
theorem zk_53_0 : (((zt_X9_scanNumber.drop 0).take 60).all (zokI 53)) = true := by decide +kernel
set_option maxRecDepth 100000 in
theorem zk_54_0 : (((zt_X9_refuse.drop 0).take 60).all (zokI 54)) = true := by decide +kernel
set_option maxRecDepth 100000 in
theorem zk_55_0 : (((zt_X9_placeAmong.drop 0).take 60).all (zokI 55)) = true := by decide +kernel
set_option maxRecDepth 100000 in
theorem zk_56_0 : (((zt_X9_isName.drop 0).take 60).all (zokI 56)) = true := by decide +kernel
set_option maxRecDepth 100000 in
theorem zk_57_0 : (((zt_X9_seesWord.drop 0).take 60).all (zokI 57)) = true := by decide +kernel
set_option maxRecDepth 100000 in
theorem zk_58_0 : (((zt_X9_takeWord.drop 0).take 60).all (zokI 58)) = true := by decide +kernel
set_option maxRecDepth 100000 in
theorem zk_59_0 : (((zt_X9_refuseWord.drop 0).take 60).all (zokI 59)) = true := by decide +kernel
set_option maxRecDepth 100000 in
theorem zk_60_0 : (((zt_X9_takeNumber.drop 0).take 60).all (zokI 60)) = true := by decide +kernel
set_option maxRecDepth 100000 in
theorem zk_61_0 : (((zt_X9_value.drop 0).take 60).all (zokI 61)) = true := by decide +kernel
set_option maxRecDepth 100000 in
theorem zk_62_0 : (((zt_X9_takeSign.drop 0).take 60).all (zokI 62)) = true := by decide +kernel
set_option maxRecDepth 100000 in
theorem zk_63_0 : (((zt_X10_init.drop 0).take 60).all (zokI 63)) = true := by decide +kernel
set_option maxRecDepth 100000 in
theorem zk_64_0 : (((zt_X11_init.drop 0).take 60).all (zokI 64)) = true := by decide +kernel
set_option maxRecDepth 100000 in
theorem zk_64_60 : (((zt_X11_init.drop 60).take 60).all (zokI 64)) = true := by decide +kernel
set_option maxRecDepth 100000 in
theorem zk_65_0 : (((zt_X11_sheet.drop 0).take 60).all (zokI 65)) = true := by decide +kernel
set_option maxRecDepth 100000 in
theorem zk_66_0 : (((zt_X11_set.drop 0).take 60).all (zokI 66)) = true := by decide +kernel
set_option maxRecDepth 100000 in
theorem zk_67_0 : (((zt_X11_copy.drop 0).take 60).all (zokI 67)) = true := by decide +kernel
set_option maxRecDepth 100000 in
theorem zk_68_0 : (((zt_X11_drop.drop 0).take 60).all (zokI 68)) = true := by decide +kernel
set_option maxRecDepth 100000 in
theorem zk_69_0 : (((zt_X11_house.drop 0).take 60).all (zokI 69)) = true := by decide +kernel
set_option maxRecDepth 100000 in
theorem zk_70_0 : (((zt_X11_list.drop 0).take 60).all (zokI 70)) = true := by decide +kernel
set_option maxRecDepth 100000 in
theorem zk_71_0 : (((zt_X11_grade.drop 0).take 60).all (zokI 71)) = true := by decide +kernel
set_option maxRecDepth 100000 in
theorem zk_72_0 : (((zt_X11_part.drop 0).take 60).all (zokI 72)) = true := by decide +kernel
set_option maxRecDepth 100000 in
theorem zk_73_0 : (((zt_X11_told.drop 0).take 60).all (zokI 73)) = true := by decide +kernel
set_option maxRecDepth 100000 in
theorem zk_74_0 : (((zt_X11_feed.drop 0).take 60).all (zokI 74)) = true := by decide +kernel
set_option maxRecDepth 100000 in
theorem zk_75_0 : (((zt_X11_acts.drop 0).take 60).all (zokI 75)) = true := by decide +kernel
set_option maxRecDepth 100000 in
theorem zk_76_0 : (((zt_X11_fault.drop 0).take 60).all (zokI 76)) = true := by decide +kernel
set_option maxRecDepth 100000 in
theorem zk_77_0 : (((zt_X11_needs.drop 0).take 60).all (zokI 77)) = true := by decide +kernel
set_option maxRecDepth 100000 in
theorem zk_78_0 : (((zt_X11_leave.drop 0).take 60).all (zokI 78)) = true := by decide +kernel
set_option maxRecDepth 100000 in
theorem zk_79_0 : (((zt_X11_prove.drop 0).take 60).all (zokI 79)) = true := by decide +kernel
set_option maxRecDepth 100000 in
theorem zk_80_0 : (((zt_X11_ahead.drop 0).take 60).all (zokI 80)) = true := by decide +kernel
set_option maxRecDepth 100000 in
theorem zk_81_0 : (((zt_X11_conditions.drop 0).take 60).all (zokI 81)) = true := by decide +kernel
set_option maxRecDepth 100000 in
theorem zk_82_0 : (((zt_X11_row.drop 0).take 60).all (zokI 82)) = true := by decide +kernel
set_option maxRecDepth 100000 in
theorem zk_83_0 : (((zt_X11_work.drop 0).take 60).all (zokI 83)) = true := by decide +kernel
set_option maxRecDepth 100000 in
theorem zk_84_0 : (((zt_X11_judged.drop 0).take 60).all (zokI 84)) = true := by decide +kernel
set_option maxRecDepth 100000 in
theorem zk_85_0 : (((zt_X11_grant.drop 0).take 60).all (zokI 85)) = true := by decide +kernel
set_option maxRecDepth 100000 in
theorem zk_86_0 : (((zt_X11_fund.drop 0).take 60).all (zokI 86)) = true := by decide +kernel
set_option maxRecDepth 100000 in
theorem zk_86_60 : (((zt_X11_fund.drop 60).take 60).all (zokI 86)) = true := by decide +kernel
set_option maxRecDepth 100000 in
theorem zk_87_0 : (((zt_X11_use.drop 0).take 60).all (zokI 87)) = true := by decide +kernel
set_option maxRecDepth 100000 in
theorem zk_87_60 : (((zt_X11_use.drop 60).take 60).all (zokI 87)) = true := by decide +kernel
set_option maxRecDepth 100000 in
theorem zk_88_0 : (((zt_X11_enter.drop 0).take 60).all (zokI 88)) = true := by decide +kernel
set_option maxRecDepth 100000 in
theorem zk_89_0 : (((zt_X11_weight.drop 0).take 60).all (zokI 89)) = true := by decide +kernel
set_option maxRecDepth 100000 in
theorem zk_90_0 : (((zt_X11_like.drop 0).take 60).all (zokI 90)) = true := by decide +kernel
set_option maxRecDepth 100000 in
theorem zk_91_0 : (((zt_X11_binds.drop 0).take 60).all (zokI 91)) = true := by decide +kernel
set_option maxRecDepth 100000 in
theorem zk_92_0 : (((zt_X11_sight.drop 0).take 60).all (zokI 92)) = true := by decide +kernel
set_option maxRecDepth 100000 in
theorem zk_93_0 : (((zt_X11_day.drop 0).take 60).all (zokI 93)) = true := by decide +kernel
set_option maxRecDepth 100000 in
theorem zk_94_0 : (((zt_X11_kind.drop 0).take 60).all (zokI 94)) = true := by decide +kernel
set_option maxRecDepth 100000 in
theorem zk_95_0 : (((zt_X11_as.drop 0).take 60).all (zokI 95)) = true := by decide +kernel
set_option maxRecDepth 100000 in
theorem zk_96_0 : (((zt_X11_ask.drop 0).take 60).all (zokI 96)) = true := by decide +kernel
set_option maxRecDepth 100000 in
theorem zk_97_0 : (((zt_X11_trace.drop 0).take 60).all (zokI 97)) = true := by decide +kernel
set_option maxRecDepth 100000 in
theorem zk_98_0 : (((zt_X11_count.drop 0).take 60).all (zokI 98)) = true := by decide +kernel
set_option maxRecDepth 100000 in
theorem zk_99_0 : (((zt_X11_status.drop 0).take 60).all (zokI 99)) = true := by decide +kernel
set_option maxRecDepth 100000 in
theorem zk_100_0 : (((zt_X11_within.drop 0).take 60).all (zokI 100)) = true := by decide +kernel
set_option maxRecDepth 100000 in
theorem zk_101_0 : (((zt_X11_isDay.drop 0).take 60).all (zokI 101)) = true := by decide +kernel
set_option maxRecDepth 100000 in
theorem zk_102_0 : (((zt_X11_isGrade.drop 0).take 60).all (zokI 102)) = true := by decide +kernel
set_option maxRecDepth 100000 in
theorem zk_103_0 : (((zt_X11_isWork.drop 0).take 60).all (zokI 103)) = true := by decide +kernel
set_option maxRecDepth 100000 in
theorem zk_104_0 : (((zt_X11_isCondition.drop 0).take 60).all (zokI 104)) = true := by decide +kernel
set_option maxRecDepth 100000 in
theorem zk_105_0 : (((zt_X11_isMarks.drop 0).take 60).all (zokI 105)) = true := by decide +kernel
set_option maxRecDepth 100000 in
theorem zk_106_0 : (((zt_X11_isPlace.drop 0).take 60).all (zokI 106)) = true := by decide +kernel
set_option maxRecDepth 100000 in
theorem zk_107_0 : (((zt_X11_holdsBit.drop 0).take 60).all (zokI 107)) = true := by decide +kernel
set_option maxRecDepth 100000 in
theorem zk_108_0 : (((zt_X11_oneIf.drop 0).take 60).all (zokI 108)) = true := by decide +kernel
set_option maxRecDepth 100000 in
theorem zk_109_0 : (((zt_X11_yearOf.drop 0).take 60).all (zokI 109)) = true := by decide +kernel
set_option maxRecDepth 100000 in
theorem zk_110_0 : (((zt_X11_sheetAt.drop 0).take 60).all (zokI 110)) = true := by decide +kernel
set_option maxRecDepth 100000 in
theorem zk_111_0 : (((zt_X11_partAt.drop 0).take 60).all (zokI 111)) = true := by decide +kernel
set_option maxRecDepth 100000 in
theorem zk_112_0 : (((zt_X11_leaveAt.drop 0).take 60).all (zokI 112)) = true := by decide +kernel
set_option maxRecDepth 100000 in
theorem zk_113_0 : (((zt_X11_workAt.drop 0).take 60).all (zokI 113)) = true := by decide +kernel
set_option maxRecDepth 100000 in
theorem zk_114_0 : (((zt_X11_found.drop 0).take 60).all (zokI 114)) = true := by decide +kernel
set_option maxRecDepth 100000 in
theorem zk_115_0 : (((zt_X11_fine.drop 0).take 60).all (zokI 115)) = true := by decide +kernel
set_option maxRecDepth 100000 in
theorem zk_116_0 : (((zt_X11_gradeOn.drop 0).take 60).all (zokI 116)) = true := by decide +kernel
set_option maxRecDepth 100000 in
theorem zk_117_0 : (((zt_X11_kindOn.drop 0).take 60).all (zokI 117)) = true := by decide +kernel
set_option maxRecDepth 100000 in
theorem zk_118_0 : (((zt_X11_isOfKind.drop 0).take 60).all (zokI 118)) = true := by decide +kernel
set_option maxRecDepth 100000 in
theorem zk_119_0 : (((zt_X11_partsOfKind.drop 0).take 60).all (zokI 119)) = true := by decide +kernel
set_option maxRecDepth 100000 in
theorem zk_120_0 : (((zt_X11_presentSheets.drop 0).take 60).all (zokI 120)) = true := by decide +kernel
set_option maxRecDepth 100000 in
theorem zk_121_0 : (((zt_X11_readActs.drop 0).take 60).all (zokI 121)) = true := by decide +kernel
set_option maxRecDepth 100000 in
theorem zk_122_0 : (((zt_X11_readAct.drop 0).take 60).all (zokI 122)) = true := by decide +kernel
set_option maxRecDepth 100000 in
theorem zk_122_60 : (((zt_X11_readAct.drop 60).take 60).all (zokI 122)) = true := by decide +kernel
set_option maxRecDepth 100000 in
theorem zk_123_0 : (((zt_X11_decidingAct.drop 0).take 60).all (zokI 123)) = true := by decide +kernel
set_option maxRecDepth 100000 in
theorem zk_124_0 : (((zt_X11_needsLeave.drop 0).take 60).all (zokI 124)) = true := by decide +kernel
set_option maxRecDepth 100000 in
theorem zk_125_0 : (((zt_X11_verdictOn.drop 0).take 60).all (zokI 125)) = true := by decide +kernel
set_option maxRecDepth 100000 in
theorem zk_126_0 : (((zt_X11_isPutBackDue.drop 0).take 60).all (zokI 126)) = true := by decide +kernel
set_option maxRecDepth 100000 in
theorem zk_127_0 : (((zt_X11_grantFor.drop 0).take 60).all (zokI 127)) = true := by decide +kernel
set_option maxRecDepth 100000 in
theorem zk_128_0 : (((zt_X11_hardship.drop 0).take 60).all (zokI 128)) = true := by decide +kernel
set_option maxRecDepth 100000 in
theorem zk_129_0 : (((zt_X11_laySteps.drop 0).take 60).all (zokI 129)) = true := by decide +kernel
set_option maxRecDepth 100000 in
theorem zk_130_0 : (((zt_X11_leastMember.drop 0).take 60).all (zokI 130)) = true := by decide +kernel
set_option maxRecDepth 100000 in
theorem zk_131_0 : (((zt_X11_worthiestSet.drop 0).take 60).all (zokI 131)) = true := by decide +kernel
set_option maxRecDepth 100000 in
theorem zk_132_0 : (((zt_X11_cheapestSet.drop 0).take 60).all (zokI 132)) = true := by decide +kernel
set_option maxRecDepth 100000 in
theorem zk_133_0 : (((zt_X11_isSeen.drop 0).take 60).all (zokI 133)) = true := by decide +kernel
set_option maxRecDepth 100000 in
theorem zk_133_60 : (((zt_X11_isSeen.drop 60).take 60).all (zokI 133)) = true := by decide +kernel
set_option maxRecDepth 100000 in
theorem zk_134_0 : (((zt_X11_rounded.drop 0).take 60).all (zokI 134)) = true := by decide +kernel
set_option maxRecDepth 100000 in
theorem zk_135_0 : (((zt_X11_begin.drop 0).take 60).all (zokI 135)) = true := by decide +kernel
set_option maxRecDepth 100000 in
theorem zk_136_0 : (((zt_X11_askSize.drop 0).take 60).all (zokI 136)) = true := by decide +kernel
set_option maxRecDepth 100000 in
theorem zk_137_0 : (((zt_X11_lentSize.drop 0).take 60).all (zokI 137)) = true := by decide +kernel
set_option maxRecDepth 100000 in
theorem zk_138_0 : (((zt_X11_keptSize.drop 0).take 60).all (zokI 138)) = true := by decide +kernel
set_option maxRecDepth 100000 in
theorem zk_139_0 : (((zt_X11_primeSize.drop 0).take 60).all (zokI 139)) = true := by decide +kernel
set_option maxRecDepth 100000 in
theorem zk_140_0 : (((zt_X11_youngSize.drop 0).take 60).all (zokI 140)) = true := by decide +kernel
set_option maxRecDepth 100000 in
theorem zk_141_0 : (((zt_X11_askMark.drop 0).take 60).all (zokI 141)) = true := by decide +kernel
set_option maxRecDepth 100000 in
theorem zk_142_0 : (((zt_X11_lentMark.drop 0).take 60).all (zokI 142)) = true := by decide +kernel
set_option maxRecDepth 100000 in
theorem zk_143_0 : (((zt_X11_keptMark.drop 0).take 60).all (zokI 143)) = true := by decide +kernel
set_option maxRecDepth 100000 in
theorem zk_144_0 : (((zt_X11_primeMark.drop 0).take 60).all (zokI 144)) = true := by decide +kernel
set_option maxRecDepth 100000 in
theorem zk_145_0 : (((zt_X11_youngMark.drop 0).take 60).all (zokI 145)) = true := by decide +kernel
set_option maxRecDepth 100000 in
theorem zk_146_0 : (((zt_X12_in.drop 0).take 60).all (zokI 146)) = true := by decide +kernel
set_option maxRecDepth 100000 in
theorem zk_147_0 : (((zt_X12_found.drop 0).take 60).all (zokI 147)) = true := by decide +kernel
set_option maxRecDepth 100000 in
theorem zk_148_0 : (((zt_X12_init.drop 0).take 60).all (zokI 148)) = true := by decide +kernel
set_option maxRecDepth 100000 in
theorem zk_148_60 : (((zt_X12_init.drop 60).take 60).all (zokI 148)) = true := by decide +kernel
set_option maxRecDepth 100000 in
theorem zk_148_120 : (((zt_X12_init.drop 120).take 60).all (zokI 148)) = true := by decide +kernel
set_option maxRecDepth 100000 in
theorem zk_149_0 : (((zt_X12_isSheet.drop 0).take 60).all (zokI 149)) = true := by decide +kernel
set_option maxRecDepth 100000 in
theorem zk_150_0 : (((zt_X12_sheet.drop 0).take 60).all (zokI 150)) = true := by decide +kernel
set_option maxRecDepth 100000 in
theorem zk_151_0 : (((zt_X12_set.drop 0).take 60).all (zokI 151)) = true := by decide +kernel
set_option maxRecDepth 100000 in
theorem zk_151_60 : (((zt_X12_set.drop 60).take 60).all (zokI 151)) = true := by decide +kernel
set_option maxRecDepth 100000 in
theorem zk_152_0 : (((zt_X12_copy.drop 0).take 60).all (zokI 152)) = true := by decide +kernel
set_option maxRecDepth 100000 in
theorem zk_152_60 : (((zt_X12_copy.drop 60).take 60).all (zokI 152)) = true := by decide +kernel
set_option maxRecDepth 100000 in
theorem zk_152_120 : (((zt_X12_copy.drop 120).take 60).all (zokI 152)) = true := by decide +kernel
set_option maxRecDepth 100000 in
theorem zk_153_0 : (((zt_X12_drop.drop 0).take 60).all (zokI 153)) = true := by decide +kernel
set_option maxRecDepth 100000 in
theorem zk_154_0 : (((zt_X12_lookPairs.drop 0).take 60).all (zokI 154)) = true := by decide +kernel
set_option maxRecDepth 100000 in
theorem zk_154_60 : (((zt_X12_lookPairs.drop 60).take 60).all (zokI 154)) = true := by decide +kernel
set_option maxRecDepth 100000 in
theorem zk_155_0 : (((zt_X12_isDay.drop 0).take 60).all (zokI 155)) = true := by decide +kernel
set_option maxRecDepth 100000 in
theorem zk_156_0 : (((zt_X12_isHouse.drop 0).take 60).all (zokI 156)) = true := by decide +kernel
set_option maxRecDepth 100000 in
theorem zk_157_0 : (((zt_X12_house.drop 0).take 60).all (zokI 157)) = true := by decide +kernel
set_option maxRecDepth 100000 in
theorem zk_158_0 : (((zt_X12_list.drop 0).take 60).all (zokI 158)) = true := by decide +kernel
set_option maxRecDepth 100000 in
theorem zk_158_60 : (((zt_X12_list.drop 60).take 60).all (zokI 158)) = true := by decide +kernel
set_option maxRecDepth 100000 in
theorem zk_159_0 : (((zt_X12_gradeOf.drop 0).take 60).all (zokI 159)) = true := by decide +kernel
set_option maxRecDepth 100000 in
theorem zk_160_0 : (((zt_X12_grade.drop 0).take 60).all (zokI 160)) = true := by decide +kernel
set_option maxRecDepth 100000 in
theorem zk_161_0 : (((zt_X12_part.drop 0).take 60).all (zokI 161)) = true := by decide +kernel
set_option maxRecDepth 100000 in
theorem zk_161_60 : (((zt_X12_part.drop 60).take 60).all (zokI 161)) = true := by decide +kernel
set_option maxRecDepth 100000 in
theorem zk_162_0 : (((zt_X12_isPart.drop 0).take 60).all (zokI 162)) = true := by decide +kernel
set_option maxRecDepth 100000 in
theorem zk_163_0 : (((zt_X12_ageOn.drop 0).take 60).all (zokI 163)) = true := by decide +kernel
set_option maxRecDepth 100000 in
theorem zk_164_0 : (((zt_X12_gradeOn.drop 0).take 60).all (zokI 164)) = true := by decide +kernel
set_option maxRecDepth 100000 in
theorem zk_165_0 : (((zt_X12_told.drop 0).take 60).all (zokI 165)) = true := by decide +kernel
set_option maxRecDepth 100000 in
theorem zk_165_60 : (((zt_X12_told.drop 60).take 60).all (zokI 165)) = true := by decide +kernel
set_option maxRecDepth 100000 in
theorem zk_166_0 : (((zt_X12_kindOn.drop 0).take 60).all (zokI 166)) = true := by decide +kernel
set_option maxRecDepth 100000 in
theorem zk_167_0 : (((zt_X12_feed.drop 0).take 60).all (zokI 167)) = true := by decide +kernel
set_option maxRecDepth 100000 in
theorem zk_168_0 : (((zt_X12_byteAt.drop 0).take 60).all (zokI 168)) = true := by decide +kernel
set_option maxRecDepth 100000 in
theorem zk_169_0 : (((zt_X12_isLetter.drop 0).take 60).all (zokI 169)) = true := by decide +kernel
set_option maxRecDepth 100000 in
theorem zk_170_0 : (((zt_X12_isFigure.drop 0).take 60).all (zokI 170)) = true := by decide +kernel
set_option maxRecDepth 100000 in
theorem zk_171_0 : (((zt_X12_step.drop 0).take 60).all (zokI 171)) = true := by decide +kernel
set_option maxRecDepth 100000 in
theorem zk_171_60 : (((zt_X12_step.drop 60).take 60).all (zokI 171)) = true := by decide +kernel
set_option maxRecDepth 100000 in
theorem zk_172_0 : (((zt_X12_bad.drop 0).take 60).all (zokI 172)) = true := by decide +kernel
set_option maxRecDepth 100000 in
theorem zk_173_0 : (((zt_X12_need.drop 0).take 60).all (zokI 173)) = true := by decide +kernel
set_option maxRecDepth 100000 in
theorem zk_174_0 : (((zt_X12_word.drop 0).take 60).all (zokI 174)) = true := by decide +kernel
set_option maxRecDepth 100000 in
theorem zk_175_0 : (((zt_X12_numberIn.drop 0).take 60).all (zokI 175)) = true := by decide +kernel
set_option maxRecDepth 100000 in
theorem zk_176_0 : (((zt_X12_sortOfWord.drop 0).take 60).all (zokI 176)) = true := by decide +kernel
set_option maxRecDepth 100000 in
theorem zk_177_0 : (((zt_X12_workOfWord.drop 0).take 60).all (zokI 177)) = true := by decide +kernel
set_option maxRecDepth 100000 in
theorem zk_178_0 : (((zt_X12_readAct.drop 0).take 60).all (zokI 178)) = true := by decide +kernel
set_option maxRecDepth 100000 in
theorem zk_178_60 : (((zt_X12_readAct.drop 60).take 60).all (zokI 178)) = true := by decide +kernel
set_option maxRecDepth 100000 in
theorem zk_178_120 : (((zt_X12_readAct.drop 120).take 60).all (zokI 178)) = true := by decide +kernel
set_option maxRecDepth 100000 in
theorem zk_178_180 : (((zt_X12_readAct.drop 180).take 60).all (zokI 178)) = true := by decide +kernel
set_option maxRecDepth 100000 in
theorem zk_179_0 : (((zt_X12_acts.drop 0).take 60).all (zokI 179)) = true := by decide +kernel
set_option maxRecDepth 100000 in
theorem zk_180_0 : (((zt_X12_fault.drop 0).take 60).all (zokI 180)) = true := by decide +kernel
set_option maxRecDepth 100000 in
theorem zk_181_0 : (((zt_X12_actFor.drop 0).take 60).all (zokI 181)) = true := by decide +kernel
set_option maxRecDepth 100000 in
theorem zk_181_60 : (((zt_X12_actFor.drop 60).take 60).all (zokI 181)) = true := by decide +kernel
set_option maxRecDepth 100000 in
theorem zk_182_0 : (((zt_X12_isWork.drop 0).take 60).all (zokI 182)) = true := by decide +kernel
set_option maxRecDepth 100000 in
theorem zk_183_0 : (((zt_X12_isNeeded.drop 0).take 60).all (zokI 183)) = true := by decide +kernel
set_option maxRecDepth 100000 in
theorem zk_184_0 : (((zt_X12_needs.drop 0).take 60).all (zokI 184)) = true := by decide +kernel
set_option maxRecDepth 100000 in
theorem zk_185_0 : (((zt_X12_leave.drop 0).take 60).all (zokI 185)) = true := by decide +kernel
set_option maxRecDepth 100000 in
theorem zk_185_60 : (((zt_X12_leave.drop 60).take 60).all (zokI 185)) = true := by decide +kernel
set_option maxRecDepth 100000 in
theorem zk_186_0 : (((zt_X12_isLeave.drop 0).take 60).all (zokI 186)) = true := by decide +kernel
set_option maxRecDepth 100000 in
theorem zk_187_0 : (((zt_X12_prove.drop 0).take 60).all (zokI 187)) = true := by decide +kernel
set_option maxRecDepth 100000 in
theorem zk_188_0 : (((zt_X12_ahead.drop 0).take 60).all (zokI 188)) = true := by decide +kernel
set_option maxRecDepth 100000 in
theorem zk_189_0 : (((zt_X12_rowsOf.drop 0).take 60).all (zokI 189)) = true := by decide +kernel
set_option maxRecDepth 100000 in
theorem zk_189_60 : (((zt_X12_rowsOf.drop 60).take 60).all (zokI 189)) = true := by decide +kernel
set_option maxRecDepth 100000 in
theorem zk_190_0 : (((zt_X12_lowest.drop 0).take 60).all (zokI 190)) = true := by decide +kernel
set_option maxRecDepth 100000 in
theorem zk_191_0 : (((zt_X12_leftOf.drop 0).take 60).all (zokI 191)) = true := by decide +kernel
set_option maxRecDepth 100000 in
theorem zk_192_0 : (((zt_X12_conditions.drop 0).take 60).all (zokI 192)) = true := by decide +kernel
set_option maxRecDepth 100000 in
theorem zk_192_60 : (((zt_X12_conditions.drop 60).take 60).all (zokI 192)) = true := by decide +kernel
set_option maxRecDepth 100000 in
theorem zk_193_0 : (((zt_X12_row.drop 0).take 60).all (zokI 193)) = true := by decide +kernel
set_option maxRecDepth 100000 in
theorem zk_194_0 : (((zt_X12_work.drop 0).take 60).all (zokI 194)) = true := by decide +kernel
set_option maxRecDepth 100000 in
theorem zk_195_0 : (((zt_X12_isMet.drop 0).take 60).all (zokI 195)) = true := by decide +kernel
set_option maxRecDepth 100000 in
theorem zk_196_0 : (((zt_X12_judgedOf.drop 0).take 60).all (zokI 196)) = true := by decide +kernel
set_option maxRecDepth 100000 in
theorem zk_196_60 : (((zt_X12_judgedOf.drop 60).take 60).all (zokI 196)) = true := by decide +kernel
set_option maxRecDepth 100000 in
theorem zk_197_0 : (((zt_X12_judged.drop 0).take 60).all (zokI 197)) = true := by decide +kernel
set_option maxRecDepth 100000 in
theorem zk_198_0 : (((zt_X12_grantOf.drop 0).take 60).all (zokI 198)) = true := by decide +kernel
set_option maxRecDepth 100000 in
theorem zk_199_0 : (((zt_X12_grant.drop 0).take 60).all (zokI 199)) = true := by decide +kernel
set_option maxRecDepth 100000 in
theorem zk_200_0 : (((zt_X12_sumOf.drop 0).take 60).all (zokI 200)) = true := by decide +kernel
set_option maxRecDepth 100000 in
theorem zk_201_0 : (((zt_X12_fund.drop 0).take 60).all (zokI 201)) = true := by decide +kernel
set_option maxRecDepth 100000 in
theorem zk_201_60 : (((zt_X12_fund.drop 60).take 60).all (zokI 201)) = true := by decide +kernel
set_option maxRecDepth 100000 in
theorem zk_202_0 : (((zt_X12_use.drop 0).take 60).all (zokI 202)) = true := by decide +kernel
set_option maxRecDepth 100000 in
theorem zk_202_60 : (((zt_X12_use.drop 60).take 60).all (zokI 202)) = true := by decide +kernel
set_option maxRecDepth 100000 in
theorem zk_202_120 : (((zt_X12_use.drop 120).take 60).all (zokI 202)) = true := by decide +kernel
set_option maxRecDepth 100000 in
theorem zk_203_0 : (((zt_X12_isMarks.drop 0).take 60).all (zokI 203)) = true := by decide +kernel
set_option maxRecDepth 100000 in
theorem zk_204_0 : (((zt_X12_enter.drop 0).take 60).all (zokI 204)) = true := by decide +kernel
set_option maxRecDepth 100000 in
theorem zk_205_0 : (((zt_X12_weight.drop 0).take 60).all (zokI 205)) = true := by decide +kernel
set_option maxRecDepth 100000 in
theorem zk_206_0 : (((zt_X12_farOf.drop 0).take 60).all (zokI 206)) = true := by decide +kernel
set_option maxRecDepth 100000 in
theorem zk_207_0 : (((zt_X12_isLiker.drop 0).take 60).all (zokI 207)) = true := by decide +kernel
set_option maxRecDepth 100000 in
theorem zk_208_0 : (((zt_X12_likeCase.drop 0).take 60).all (zokI 208)) = true := by decide +kernel
set_option maxRecDepth 100000 in
theorem zk_208_60 : (((zt_X12_likeCase.drop 60).take 60).all (zokI 208)) = true := by decide +kernel
set_option maxRecDepth 100000 in
theorem zk_209_0 : (((zt_X12_like.drop 0).take 60).all (zokI 209)) = true := by decide +kernel
set_option maxRecDepth 100000 in
theorem zk_210_0 : (((zt_X12_binds.drop 0).take 60).all (zokI 210)) = true := by decide +kernel
set_option maxRecDepth 100000 in
theorem zk_210_60 : (((zt_X12_binds.drop 60).take 60).all (zokI 210)) = true := by decide +kernel
set_option maxRecDepth 100000 in
theorem zk_211_0 : (((zt_X12_down.drop 0).take 60).all (zokI 211)) = true := by decide +kernel
set_option maxRecDepth 100000 in
theorem zk_212_0 : (((zt_X12_size.drop 0).take 60).all (zokI 212)) = true := by decide +kernel
set_option maxRecDepth 100000 in
theorem zk_213_0 : (((zt_X12_sight.drop 0).take 60).all (zokI 213)) = true := by decide +kernel
set_option maxRecDepth 100000 in
theorem zk_213_60 : (((zt_X12_sight.drop 60).take 60).all (zokI 213)) = true := by decide +kernel
set_option maxRecDepth 100000 in
theorem zk_213_120 : (((zt_X12_sight.drop 120).take 60).all (zokI 213)) = true := by decide +kernel
set_option maxRecDepth 100000 in
theorem zk_213_180 : (((zt_X12_sight.drop 180).take 60).all (zokI 213)) = true := by decide +kernel
set_option maxRecDepth 100000 in
theorem zk_214_0 : (((zt_X12_day.drop 0).take 60).all (zokI 214)) = true := by decide +kernel
set_option maxRecDepth 100000 in
theorem zk_215_0 : (((zt_X12_isOf.drop 0).take 60).all (zokI 215)) = true := by decide +kernel
set_option maxRecDepth 100000 in
theorem zk_216_0 : (((zt_X12_kind.drop 0).take 60).all (zokI 216)) = true := by decide +kernel
set_option maxRecDepth 100000 in
theorem zk_217_0 : (((zt_X12_as.drop 0).take 60).all (zokI 217)) = true := by decide +kernel
set_option maxRecDepth 100000 in
theorem zk_218_0 : (((zt_X12_began.drop 0).take 60).all (zokI 218)) = true := by decide +kernel
set_option maxRecDepth 100000 in
theorem zk_219_0 : (((zt_X12_sizeOf.drop 0).take 60).all (zokI 219)) = true := by decide +kernel
set_option maxRecDepth 100000 in
theorem zk_220_0 : (((zt_X12_markOf.drop 0).take 60).all (zokI 220)) = true := by decide +kernel
set_option maxRecDepth 100000 in
theorem zk_221_0 : (((zt_X12_ask.drop 0).take 60).all (zokI 221)) = true := by decide +kernel
set_option maxRecDepth 100000 in
theorem zk_222_0 : (((zt_X12_trace.drop 0).take 60).all (zokI 222)) = true := by decide +kernel
set_option maxRecDepth 100000 in
theorem zk_223_0 : (((zt_X12_count.drop 0).take 60).all (zokI 223)) = true := by decide +kernel
set_option maxRecDepth 100000 in
theorem zk_223_60 : (((zt_X12_count.drop 60).take 60).all (zokI 223)) = true := by decide +kernel
set_option maxRecDepth 100000 in
theorem zk_224_0 : (((zt_X12_status.drop 0).take 60).all (zokI 224)) = true := by decide +kernel
set_option maxRecDepth 100000 in
theorem zk_225_0 : (((zt_J6_bitCount_0f7a4.drop 0).take 60).all (zokI 225)) = true := by decide +kernel
set_option maxRecDepth 100000 in
theorem zk_226_0 : (((zt_J9_floorDiv_7cf53.drop 0).take 60).all (zokI 226)) = true := by decide +kernel
set_option maxRecDepth 100000 in
theorem zk_227_0 : (((zt_J9_abs_0f7a4.drop 0).take 60).all (zokI 227)) = true := by decide +kernel
set_option maxRecDepth 100000 in
theorem zk_228_0 : (((zt_J9_max_7cf53.drop 0).take 60).all (zokI 228)) = true := by decide +kernel
set_option maxRecDepth 100000 in
theorem zk_229_0 : (((zt_J9_min_7cf53.drop 0).take 60).all (zokI 229)) = true := by decide +kernel
set_option maxRecDepth 100000 in
theorem zk_230_0 : (((zt_J0_length_8abf5.drop 0).take 60).all (zokI 230)) = true := by decide +kernel
set_option maxRecDepth 100000 in
theorem zk_231_0 : (((zt_J0_charAt_5068e.drop 0).take 60).all (zokI 231)) = true := by decide +kernel
set_option maxRecDepth 100000 in
theorem zk_232_0 : (((zt_J0_coder_7d493.drop 0).take 60).all (zokI 232)) = true := by decide +kernel
set_option maxRecDepth 100000 in
theorem zk_233_0 : (((zt_J0_isLatin1_aae02.drop 0).take 60).all (zokI 233)) = true := by decide +kernel
set_option maxRecDepth 100000 in
theorem zk_234_0 : (((zt_J0_checkIndex_df160.drop 0).take 60).all (zokI 234)) = true := by decide +kernel
set_option maxRecDepth 100000 in
theorem zk_235_0 : (((zt_J1_charAt_3b067.drop 0).take 60).all (zokI 235)) = true := by decide +kernel
set_option maxRecDepth 100000 in
theorem zk_236_0 : (((zt_J2_getChar_3b067.drop 0).take 60).all (zokI 236)) = true := by decide +kernel
set_option maxRecDepth 100000 in
theorem zk_237_0 : (((zt_J2_length_9d52b.drop 0).take 60).all (zokI 237)) = true := by decide +kernel
set_option maxRecDepth 100000 in
theorem zk_238_0 : (((zt_J2_charAt_3b067.drop 0).take 60).all (zokI 238)) = true := by decide +kernel
set_option maxRecDepth 100000 in
theorem zk_239_0 : (((zt_J2_checkIndex_2214a.drop 0).take 60).all (zokI 239)) = true := by decide +kernel
set_option maxRecDepth 100000 in
theorem zk_240_0 : (((zt_J7_fill_53178.drop 0).take 60).all (zokI 240)) = true := by decide +kernel
set_option maxRecDepth 100000 in
theorem zk_241_0 : (((zt_J3_checkIndex_8e157.drop 0).take 60).all (zokI 241)) = true := by decide +kernel
set_option maxRecDepth 100000 in
theorem zk_242_0 : (((zt_L_law.drop 0).take 60).all (zokI 242)) = true := by decide +kernel
set_option maxRecDepth 100000 in
theorem zk_242_60 : (((zt_L_law.drop 60).take 60).all (zokI 242)) = true := by decide +kernel
set_option maxRecDepth 100000 in
theorem zk_242_120 : (((zt_L_law.drop 120).take 60).all (zokI 242)) = true := by decide +kernel
set_option maxRecDepth 100000 in
theorem zk_242_180 : (((zt_L_law.drop 180).take 60).all (zokI 242)) = true := by decide +kernel
set_option maxRecDepth 100000 in
theorem zk_242_240 : (((zt_L_law.drop 240).take 60).all (zokI 242)) = true := by decide +kernel
set_option maxRecDepth 100000 in
theorem zk_242_300 : (((zt_L_law.drop 300).take 60).all (zokI 242)) = true := by decide +kernel
set_option maxRecDepth 100000 in
theorem zk_242_360 : (((zt_L_law.drop 360).take 60).all (zokI 242)) = true := by decide +kernel
set_option maxRecDepth 100000 in
theorem zk_242_420 : (((zt_L_law.drop 420).take 60).all (zokI 242)) = true := by decide +kernel
set_option maxRecDepth 100000 in
theorem zk_242_480 : (((zt_L_law.drop 480).take 60).all (zokI 242)) = true := by decide +kernel
set_option maxRecDepth 100000 in
theorem zk_242_540 : (((zt_L_law.drop 540).take 60).all (zokI 242)) = true := by decide +kernel
set_option maxRecDepth 100000 in
theorem zk_242_600 : (((zt_L_law.drop 600).take 60).all (zokI 242)) = true := by decide +kernel
set_option maxRecDepth 100000 in
theorem zk_242_660 : (((zt_L_law.drop 660).take 60).all (zokI 242)) = true := by decide +kernel
set_option maxRecDepth 100000 in
theorem zk_242_720 : (((zt_L_law.drop 720).take 60).all (zokI 242)) = true := by decide +kernel
set_option maxRecDepth 100000 in
theorem zk_242_780 : (((zt_L_law.drop 780).take 60).all (zokI 242)) = true := by decide +kernel
set_option maxRecDepth 100000 in
theorem zk_242_840 : (((zt_L_law.drop 840).take 60).all (zokI 242)) = true := by decide +kernel
set_option maxRecDepth 100000 in
theorem zk_242_900 : (((zt_L_law.drop 900).take 60).all (zokI 242)) = true := by decide +kernel
set_option maxRecDepth 100000 in
theorem zk_242_960 : (((zt_L_law.drop 960).take 60).all (zokI 242)) = true := by decide +kernel
set_option maxRecDepth 100000 in
theorem zk_242_1020 : (((zt_L_law.drop 1020).take 60).all (zokI 242)) = true := by decide +kernel
set_option maxRecDepth 100000 in
theorem zk_242_1080 : (((zt_L_law.drop 1080).take 60).all (zokI 242)) = true := by decide +kernel
set_option maxRecDepth 100000 in
theorem zk_242_1140 : (((zt_L_law.drop 1140).take 60).all (zokI 242)) = true := by decide +kernel
theorem zall_step {α : Type} {f : α → Bool} {L : List α} (n : Nat) (h1 : (L.take n).all f = true) (h2 : (L.drop n).all f = true) : L.all f = true := by
  have h : (L.take n ++ L.drop n).all f = true := by rw [List.all_append, h1, h2]; rfl
  rwa [List.take_append_drop] at h
theorem zkm_0 : (zt_X0_init.all (zokI 0)) = true := zall_step 60 zk_0_0 (by decide +kernel)
theorem zkm_1 : (zt_X0_fits.all (zokI 1)) = true := zall_step 60 zk_1_0 (by decide +kernel)
theorem zkm_2 : (zt_X1_init.all (zokI 2)) = true := zall_step 60 zk_2_0 (by decide +kernel)
theorem zkm_3 : (zt_X2_init.all (zokI 3)) = true := zall_step 60 zk_3_0 (by decide +kernel)
theorem zkm_4 : (zt_X2_keep.all (zokI 4)) = true := zall_step 60 zk_4_0 (by decide +kernel)
theorem zkm_5 : (zt_X2_weigh.all (zokI 5)) = true := zall_step 60 zk_5_0 (by decide +kernel)
theorem zkm_6 : (zt_X2_caseAt.all (zokI 6)) = true := zall_step 60 zk_6_0 (by decide +kernel)
theorem zkm_7 : (zt_X2_measure.all (zokI 7)) = true := zall_step 60 zk_7_0 (by decide +kernel)
theorem zkm_8 : (zt_X2_weightOf.all (zokI 8)) = true := zall_step 60 zk_8_0 (by decide +kernel)
theorem zkm_9 : (zt_X2_ranked.all (zokI 9)) = true := zall_step 60 zk_9_0 (by decide +kernel)
theorem zkm_10 : (zt_X2_liker.all (zokI 10)) = true := zall_step 60 zk_10_0 (by decide +kernel)
theorem zkm_11 : (zt_X2_isLiker.all (zokI 11)) = true := zall_step 60 zk_11_0 (by decide +kernel)
theorem zkm_12 : (zt_X2_binding.all (zokI 12)) = true := zall_step 60 zk_12_0 (by decide +kernel)
theorem zkm_13 : (zt_X3_init.all (zokI 13)) = true := zall_step 60 zk_13_0 (by decide +kernel)
theorem zkm_14 : (zt_X3_has.all (zokI 14)) = true := zall_step 60 zk_14_0 (by decide +kernel)
theorem zkm_15 : (zt_X3_build.all (zokI 15)) = true := zall_step 60 zk_15_0 (by decide +kernel)
theorem zkm_16 : (zt_X3_enlist.all (zokI 16)) = true := zall_step 60 zk_16_0 (by decide +kernel)
theorem zkm_17 : (zt_X3_gradeOf.all (zokI 17)) = true := zall_step 60 zk_17_0 (by decide +kernel)
theorem zkm_18 : (zt_X4_init.all (zokI 18)) = true := zall_step 60 zk_18_0 (by decide +kernel)
theorem zkm_19 : (zt_X4_bringProof.all (zokI 19)) = true := zall_step 60 zk_19_0 (by decide +kernel)
theorem zkm_20 : (zt_X4_isMetBy.all (zokI 20)) = true := zall_step 60 zk_20_0 (by decide +kernel)
theorem zkm_21 : (zt_X4_verdictFor.all (zokI 21)) = true := zall_step 60 zk_21_0 (by decide +kernel)
theorem zkm_22 : (zt_X5_init.all (zokI 22)) = true := zall_step 60 zk_22_0 (by decide +kernel)
theorem zkm_23 : (zt_X6_init.all (zokI 23)) = true := zall_step 60 zk_23_0 (by decide +kernel)
theorem zkm_24 : (zt_X6_rule.all (zokI 24)) = true := zall_step 60 zk_24_0 (by decide +kernel)
theorem zkm_25 : (zt_X6_mayComeNext.all (zokI 25)) = true := zall_step 60 zk_25_0 (by decide +kernel)
theorem zkm_26 : (zt_X6_leastNext.all (zokI 26)) = true := zall_step 60 zk_26_0 (by decide +kernel)
theorem zkm_27 : (zt_X6_leftOver.all (zokI 27)) = true := zall_step 60 zk_27_0 (by decide +kernel)
theorem zkm_28 : (zt_X6_bar.all (zokI 28)) = true := zall_step 60 zk_28_0 (by decide +kernel)
theorem zkm_29 : (zt_X6_rows.all (zokI 29)) = true := zall_step 60 zk_29_0 (by decide +kernel)
theorem zkm_30 : (zt_X6_ordersOf.all (zokI 30)) = true := zall_step 60 zk_30_0 (by decide +kernel)
theorem zkm_31 : (zt_X6_placed.all (zokI 31)) = true := zall_step 60 zk_31_0 (by decide +kernel)
theorem zkm_32 : (zt_X7_init.all (zokI 32)) = true := zall_step 60 zk_32_0 (by decide +kernel)
theorem zkm_33 : (zt_X7_ageOn.all (zokI 33)) = true := zall_step 60 zk_33_0 (by decide +kernel)
theorem zkm_34 : (zt_X8_init.all (zokI 34)) = true := zall_step 60 zk_34_0 (by decide +kernel)
theorem zkm_35 : (zt_X8_lay.all (zokI 35)) = true := zall_step 60 zk_35_0 (by decide +kernel)
theorem zkm_36 : (zt_X8_holds.all (zokI 36)) = true := zall_step 60 zk_36_0 (by decide +kernel)
theorem zkm_37 : (zt_X8_item.all (zokI 37)) = true := zall_step 60 zk_37_0 (by decide +kernel)
theorem zkm_38 : (zt_X8_write.all (zokI 38)) = true := zall_step 60 zk_38_0 (by decide +kernel)
theorem zkm_39 : (zt_X8_narrowed.all (zokI 39)) = true := zall_step 60 zk_39_0 (by decide +kernel)
theorem zkm_40 : (zt_X8_hasPairs.all (zokI 40)) = true := zall_step 60 zk_40_0 (by decide +kernel)
theorem zkm_41 : (zt_X8_sumOver.all (zokI 41)) = true := zall_step 60 zk_41_0 (by decide +kernel)
theorem zkm_42 : (zt_X8_hasHeights.all (zokI 42)) = true := zall_step 60 zk_42_0 (by decide +kernel)
theorem zkm_43 : (zt_X8_height.all (zokI 43)) = true := zall_step 60 zk_43_0 (by decide +kernel)
theorem zkm_44 : (zt_X9_init.all (zokI 44)) = true := zall_step 60 zk_44_0 (by decide +kernel)
theorem zkm_45 : (zt_X9_append.all (zokI 45)) = true := zall_step 60 zk_45_0 (by decide +kernel)
theorem zkm_46 : (zt_X9_begin.all (zokI 46)) = true := zall_step 60 zk_46_0 (by decide +kernel)
theorem zkm_47 : (zt_X9_isOver.all (zokI 47)) = true := zall_step 60 zk_47_0 (by decide +kernel)
theorem zkm_48 : (zt_X9_byteAt.all (zokI 48)) = true := zall_step 60 zk_48_0 (by decide +kernel)
theorem zkm_49 : (zt_X9_isLetter.all (zokI 49)) = true := zall_step 60 zk_49_0 (by decide +kernel)
theorem zkm_50 : (zt_X9_isFigure.all (zokI 50)) = true := zall_step 60 zk_50_0 (by decide +kernel)
theorem zkm_51 : (zt_X9_advance.all (zokI 51)) = true := zall_step 60 zk_51_0 (zall_step 60 zk_51_60 (by rw [List.drop_drop]; decide +kernel))
theorem zkm_52 : (zt_X9_scanName.all (zokI 52)) = true := zall_step 60 zk_52_0 (by decide +kernel)
theorem zkm_53 : (zt_X9_scanNumber.all (zokI 53)) = true := zall_step 60 zk_53_0 (by decide +kernel)
theorem zkm_54 : (zt_X9_refuse.all (zokI 54)) = true := zall_step 60 zk_54_0 (by decide +kernel)
theorem zkm_55 : (zt_X9_placeAmong.all (zokI 55)) = true := zall_step 60 zk_55_0 (by decide +kernel)
theorem zkm_56 : (zt_X9_isName.all (zokI 56)) = true := zall_step 60 zk_56_0 (by decide +kernel)
theorem zkm_57 : (zt_X9_seesWord.all (zokI 57)) = true := zall_step 60 zk_57_0 (by decide +kernel)
theorem zkm_58 : (zt_X9_takeWord.all (zokI 58)) = true := zall_step 60 zk_58_0 (by decide +kernel)
theorem zkm_59 : (zt_X9_refuseWord.all (zokI 59)) = true := zall_step 60 zk_59_0 (by decide +kernel)
theorem zkm_60 : (zt_X9_takeNumber.all (zokI 60)) = true := zall_step 60 zk_60_0 (by decide +kernel)
theorem zkm_61 : (zt_X9_value.all (zokI 61)) = true := zall_step 60 zk_61_0 (by decide +kernel)
theorem zkm_62 : (zt_X9_takeSign.all (zokI 62)) = true := zall_step 60 zk_62_0 (by decide +kernel)
theorem zkm_63 : (zt_X10_init.all (zokI 63)) = true := zall_step 60 zk_63_0 (by decide +kernel)
theorem zkm_64 : (zt_X11_init.all (zokI 64)) = true := zall_step 60 zk_64_0 (zall_step 60 zk_64_60 (by rw [List.drop_drop]; decide +kernel))
theorem zkm_65 : (zt_X11_sheet.all (zokI 65)) = true := zall_step 60 zk_65_0 (by decide +kernel)
theorem zkm_66 : (zt_X11_set.all (zokI 66)) = true := zall_step 60 zk_66_0 (by decide +kernel)
theorem zkm_67 : (zt_X11_copy.all (zokI 67)) = true := zall_step 60 zk_67_0 (by decide +kernel)
theorem zkm_68 : (zt_X11_drop.all (zokI 68)) = true := zall_step 60 zk_68_0 (by decide +kernel)
theorem zkm_69 : (zt_X11_house.all (zokI 69)) = true := zall_step 60 zk_69_0 (by decide +kernel)
theorem zkm_70 : (zt_X11_list.all (zokI 70)) = true := zall_step 60 zk_70_0 (by decide +kernel)
theorem zkm_71 : (zt_X11_grade.all (zokI 71)) = true := zall_step 60 zk_71_0 (by decide +kernel)
theorem zkm_72 : (zt_X11_part.all (zokI 72)) = true := zall_step 60 zk_72_0 (by decide +kernel)
theorem zkm_73 : (zt_X11_told.all (zokI 73)) = true := zall_step 60 zk_73_0 (by decide +kernel)
theorem zkm_74 : (zt_X11_feed.all (zokI 74)) = true := zall_step 60 zk_74_0 (by decide +kernel)
theorem zkm_75 : (zt_X11_acts.all (zokI 75)) = true := zall_step 60 zk_75_0 (by decide +kernel)
theorem zkm_76 : (zt_X11_fault.all (zokI 76)) = true := zall_step 60 zk_76_0 (by decide +kernel)
theorem zkm_77 : (zt_X11_needs.all (zokI 77)) = true := zall_step 60 zk_77_0 (by decide +kernel)
theorem zkm_78 : (zt_X11_leave.all (zokI 78)) = true := zall_step 60 zk_78_0 (by decide +kernel)
theorem zkm_79 : (zt_X11_prove.all (zokI 79)) = true := zall_step 60 zk_79_0 (by decide +kernel)
theorem zkm_80 : (zt_X11_ahead.all (zokI 80)) = true := zall_step 60 zk_80_0 (by decide +kernel)
theorem zkm_81 : (zt_X11_conditions.all (zokI 81)) = true := zall_step 60 zk_81_0 (by decide +kernel)
theorem zkm_82 : (zt_X11_row.all (zokI 82)) = true := zall_step 60 zk_82_0 (by decide +kernel)
theorem zkm_83 : (zt_X11_work.all (zokI 83)) = true := zall_step 60 zk_83_0 (by decide +kernel)
theorem zkm_84 : (zt_X11_judged.all (zokI 84)) = true := zall_step 60 zk_84_0 (by decide +kernel)
theorem zkm_85 : (zt_X11_grant.all (zokI 85)) = true := zall_step 60 zk_85_0 (by decide +kernel)
theorem zkm_86 : (zt_X11_fund.all (zokI 86)) = true := zall_step 60 zk_86_0 (zall_step 60 zk_86_60 (by rw [List.drop_drop]; decide +kernel))
theorem zkm_87 : (zt_X11_use.all (zokI 87)) = true := zall_step 60 zk_87_0 (zall_step 60 zk_87_60 (by rw [List.drop_drop]; decide +kernel))
theorem zkm_88 : (zt_X11_enter.all (zokI 88)) = true := zall_step 60 zk_88_0 (by decide +kernel)
theorem zkm_89 : (zt_X11_weight.all (zokI 89)) = true := zall_step 60 zk_89_0 (by decide +kernel)
theorem zkm_90 : (zt_X11_like.all (zokI 90)) = true := zall_step 60 zk_90_0 (by decide +kernel)
theorem zkm_91 : (zt_X11_binds.all (zokI 91)) = true := zall_step 60 zk_91_0 (by decide +kernel)
theorem zkm_92 : (zt_X11_sight.all (zokI 92)) = true := zall_step 60 zk_92_0 (by decide +kernel)
theorem zkm_93 : (zt_X11_day.all (zokI 93)) = true := zall_step 60 zk_93_0 (by decide +kernel)
theorem zkm_94 : (zt_X11_kind.all (zokI 94)) = true := zall_step 60 zk_94_0 (by decide +kernel)
theorem zkm_95 : (zt_X11_as.all (zokI 95)) = true := zall_step 60 zk_95_0 (by decide +kernel)
theorem zkm_96 : (zt_X11_ask.all (zokI 96)) = true := zall_step 60 zk_96_0 (by decide +kernel)
theorem zkm_97 : (zt_X11_trace.all (zokI 97)) = true := zall_step 60 zk_97_0 (by decide +kernel)
theorem zkm_98 : (zt_X11_count.all (zokI 98)) = true := zall_step 60 zk_98_0 (by decide +kernel)
theorem zkm_99 : (zt_X11_status.all (zokI 99)) = true := zall_step 60 zk_99_0 (by decide +kernel)
theorem zkm_100 : (zt_X11_within.all (zokI 100)) = true := zall_step 60 zk_100_0 (by decide +kernel)
theorem zkm_101 : (zt_X11_isDay.all (zokI 101)) = true := zall_step 60 zk_101_0 (by decide +kernel)
theorem zkm_102 : (zt_X11_isGrade.all (zokI 102)) = true := zall_step 60 zk_102_0 (by decide +kernel)
theorem zkm_103 : (zt_X11_isWork.all (zokI 103)) = true := zall_step 60 zk_103_0 (by decide +kernel)
theorem zkm_104 : (zt_X11_isCondition.all (zokI 104)) = true := zall_step 60 zk_104_0 (by decide +kernel)
theorem zkm_105 : (zt_X11_isMarks.all (zokI 105)) = true := zall_step 60 zk_105_0 (by decide +kernel)
theorem zkm_106 : (zt_X11_isPlace.all (zokI 106)) = true := zall_step 60 zk_106_0 (by decide +kernel)
theorem zkm_107 : (zt_X11_holdsBit.all (zokI 107)) = true := zall_step 60 zk_107_0 (by decide +kernel)
theorem zkm_108 : (zt_X11_oneIf.all (zokI 108)) = true := zall_step 60 zk_108_0 (by decide +kernel)
theorem zkm_109 : (zt_X11_yearOf.all (zokI 109)) = true := zall_step 60 zk_109_0 (by decide +kernel)
theorem zkm_110 : (zt_X11_sheetAt.all (zokI 110)) = true := zall_step 60 zk_110_0 (by decide +kernel)
theorem zkm_111 : (zt_X11_partAt.all (zokI 111)) = true := zall_step 60 zk_111_0 (by decide +kernel)
theorem zkm_112 : (zt_X11_leaveAt.all (zokI 112)) = true := zall_step 60 zk_112_0 (by decide +kernel)
theorem zkm_113 : (zt_X11_workAt.all (zokI 113)) = true := zall_step 60 zk_113_0 (by decide +kernel)
theorem zkm_114 : (zt_X11_found.all (zokI 114)) = true := zall_step 60 zk_114_0 (by decide +kernel)
theorem zkm_115 : (zt_X11_fine.all (zokI 115)) = true := zall_step 60 zk_115_0 (by decide +kernel)
theorem zkm_116 : (zt_X11_gradeOn.all (zokI 116)) = true := zall_step 60 zk_116_0 (by decide +kernel)
theorem zkm_117 : (zt_X11_kindOn.all (zokI 117)) = true := zall_step 60 zk_117_0 (by decide +kernel)
theorem zkm_118 : (zt_X11_isOfKind.all (zokI 118)) = true := zall_step 60 zk_118_0 (by decide +kernel)
theorem zkm_119 : (zt_X11_partsOfKind.all (zokI 119)) = true := zall_step 60 zk_119_0 (by decide +kernel)
theorem zkm_120 : (zt_X11_presentSheets.all (zokI 120)) = true := zall_step 60 zk_120_0 (by decide +kernel)
theorem zkm_121 : (zt_X11_readActs.all (zokI 121)) = true := zall_step 60 zk_121_0 (by decide +kernel)
theorem zkm_122 : (zt_X11_readAct.all (zokI 122)) = true := zall_step 60 zk_122_0 (zall_step 60 zk_122_60 (by rw [List.drop_drop]; decide +kernel))
theorem zkm_123 : (zt_X11_decidingAct.all (zokI 123)) = true := zall_step 60 zk_123_0 (by decide +kernel)
theorem zkm_124 : (zt_X11_needsLeave.all (zokI 124)) = true := zall_step 60 zk_124_0 (by decide +kernel)
theorem zkm_125 : (zt_X11_verdictOn.all (zokI 125)) = true := zall_step 60 zk_125_0 (by decide +kernel)
theorem zkm_126 : (zt_X11_isPutBackDue.all (zokI 126)) = true := zall_step 60 zk_126_0 (by decide +kernel)
theorem zkm_127 : (zt_X11_grantFor.all (zokI 127)) = true := zall_step 60 zk_127_0 (by decide +kernel)
theorem zkm_128 : (zt_X11_hardship.all (zokI 128)) = true := zall_step 60 zk_128_0 (by decide +kernel)
theorem zkm_129 : (zt_X11_laySteps.all (zokI 129)) = true := zall_step 60 zk_129_0 (by decide +kernel)
theorem zkm_130 : (zt_X11_leastMember.all (zokI 130)) = true := zall_step 60 zk_130_0 (by decide +kernel)
theorem zkm_131 : (zt_X11_worthiestSet.all (zokI 131)) = true := zall_step 60 zk_131_0 (by decide +kernel)
theorem zkm_132 : (zt_X11_cheapestSet.all (zokI 132)) = true := zall_step 60 zk_132_0 (by decide +kernel)
theorem zkm_133 : (zt_X11_isSeen.all (zokI 133)) = true := zall_step 60 zk_133_0 (zall_step 60 zk_133_60 (by rw [List.drop_drop]; decide +kernel))
theorem zkm_134 : (zt_X11_rounded.all (zokI 134)) = true := zall_step 60 zk_134_0 (by decide +kernel)
theorem zkm_135 : (zt_X11_begin.all (zokI 135)) = true := zall_step 60 zk_135_0 (by decide +kernel)
theorem zkm_136 : (zt_X11_askSize.all (zokI 136)) = true := zall_step 60 zk_136_0 (by decide +kernel)
theorem zkm_137 : (zt_X11_lentSize.all (zokI 137)) = true := zall_step 60 zk_137_0 (by decide +kernel)
theorem zkm_138 : (zt_X11_keptSize.all (zokI 138)) = true := zall_step 60 zk_138_0 (by decide +kernel)
theorem zkm_139 : (zt_X11_primeSize.all (zokI 139)) = true := zall_step 60 zk_139_0 (by decide +kernel)
theorem zkm_140 : (zt_X11_youngSize.all (zokI 140)) = true := zall_step 60 zk_140_0 (by decide +kernel)
theorem zkm_141 : (zt_X11_askMark.all (zokI 141)) = true := zall_step 60 zk_141_0 (by decide +kernel)
theorem zkm_142 : (zt_X11_lentMark.all (zokI 142)) = true := zall_step 60 zk_142_0 (by decide +kernel)
theorem zkm_143 : (zt_X11_keptMark.all (zokI 143)) = true := zall_step 60 zk_143_0 (by decide +kernel)
theorem zkm_144 : (zt_X11_primeMark.all (zokI 144)) = true := zall_step 60 zk_144_0 (by decide +kernel)
theorem zkm_145 : (zt_X11_youngMark.all (zokI 145)) = true := zall_step 60 zk_145_0 (by decide +kernel)
theorem zkm_146 : (zt_X12_in.all (zokI 146)) = true := zall_step 60 zk_146_0 (by decide +kernel)
theorem zkm_147 : (zt_X12_found.all (zokI 147)) = true := zall_step 60 zk_147_0 (by decide +kernel)
theorem zkm_148 : (zt_X12_init.all (zokI 148)) = true := zall_step 60 zk_148_0 (zall_step 60 zk_148_60 (by rw [List.drop_drop]; exact (zall_step 60 zk_148_120 (by rw [List.drop_drop]; decide +kernel))))
theorem zkm_149 : (zt_X12_isSheet.all (zokI 149)) = true := zall_step 60 zk_149_0 (by decide +kernel)
theorem zkm_150 : (zt_X12_sheet.all (zokI 150)) = true := zall_step 60 zk_150_0 (by decide +kernel)
theorem zkm_151 : (zt_X12_set.all (zokI 151)) = true := zall_step 60 zk_151_0 (zall_step 60 zk_151_60 (by rw [List.drop_drop]; decide +kernel))
theorem zkm_152 : (zt_X12_copy.all (zokI 152)) = true := zall_step 60 zk_152_0 (zall_step 60 zk_152_60 (by rw [List.drop_drop]; exact (zall_step 60 zk_152_120 (by rw [List.drop_drop]; decide +kernel))))
theorem zkm_153 : (zt_X12_drop.all (zokI 153)) = true := zall_step 60 zk_153_0 (by decide +kernel)
theorem zkm_154 : (zt_X12_lookPairs.all (zokI 154)) = true := zall_step 60 zk_154_0 (zall_step 60 zk_154_60 (by rw [List.drop_drop]; decide +kernel))
theorem zkm_155 : (zt_X12_isDay.all (zokI 155)) = true := zall_step 60 zk_155_0 (by decide +kernel)
theorem zkm_156 : (zt_X12_isHouse.all (zokI 156)) = true := zall_step 60 zk_156_0 (by decide +kernel)
theorem zkm_157 : (zt_X12_house.all (zokI 157)) = true := zall_step 60 zk_157_0 (by decide +kernel)
theorem zkm_158 : (zt_X12_list.all (zokI 158)) = true := zall_step 60 zk_158_0 (zall_step 60 zk_158_60 (by rw [List.drop_drop]; decide +kernel))
theorem zkm_159 : (zt_X12_gradeOf.all (zokI 159)) = true := zall_step 60 zk_159_0 (by decide +kernel)
theorem zkm_160 : (zt_X12_grade.all (zokI 160)) = true := zall_step 60 zk_160_0 (by decide +kernel)
theorem zkm_161 : (zt_X12_part.all (zokI 161)) = true := zall_step 60 zk_161_0 (zall_step 60 zk_161_60 (by rw [List.drop_drop]; decide +kernel))
theorem zkm_162 : (zt_X12_isPart.all (zokI 162)) = true := zall_step 60 zk_162_0 (by decide +kernel)
theorem zkm_163 : (zt_X12_ageOn.all (zokI 163)) = true := zall_step 60 zk_163_0 (by decide +kernel)
theorem zkm_164 : (zt_X12_gradeOn.all (zokI 164)) = true := zall_step 60 zk_164_0 (by decide +kernel)
theorem zkm_165 : (zt_X12_told.all (zokI 165)) = true := zall_step 60 zk_165_0 (zall_step 60 zk_165_60 (by rw [List.drop_drop]; decide +kernel))
theorem zkm_166 : (zt_X12_kindOn.all (zokI 166)) = true := zall_step 60 zk_166_0 (by decide +kernel)
theorem zkm_167 : (zt_X12_feed.all (zokI 167)) = true := zall_step 60 zk_167_0 (by decide +kernel)
theorem zkm_168 : (zt_X12_byteAt.all (zokI 168)) = true := zall_step 60 zk_168_0 (by decide +kernel)
theorem zkm_169 : (zt_X12_isLetter.all (zokI 169)) = true := zall_step 60 zk_169_0 (by decide +kernel)
theorem zkm_170 : (zt_X12_isFigure.all (zokI 170)) = true := zall_step 60 zk_170_0 (by decide +kernel)
theorem zkm_171 : (zt_X12_step.all (zokI 171)) = true := zall_step 60 zk_171_0 (zall_step 60 zk_171_60 (by rw [List.drop_drop]; decide +kernel))
theorem zkm_172 : (zt_X12_bad.all (zokI 172)) = true := zall_step 60 zk_172_0 (by decide +kernel)
theorem zkm_173 : (zt_X12_need.all (zokI 173)) = true := zall_step 60 zk_173_0 (by decide +kernel)
theorem zkm_174 : (zt_X12_word.all (zokI 174)) = true := zall_step 60 zk_174_0 (by decide +kernel)
theorem zkm_175 : (zt_X12_numberIn.all (zokI 175)) = true := zall_step 60 zk_175_0 (by decide +kernel)
theorem zkm_176 : (zt_X12_sortOfWord.all (zokI 176)) = true := zall_step 60 zk_176_0 (by decide +kernel)
theorem zkm_177 : (zt_X12_workOfWord.all (zokI 177)) = true := zall_step 60 zk_177_0 (by decide +kernel)
theorem zkm_178 : (zt_X12_readAct.all (zokI 178)) = true := zall_step 60 zk_178_0 (zall_step 60 zk_178_60 (by rw [List.drop_drop]; exact (zall_step 60 zk_178_120 (by rw [List.drop_drop]; exact (zall_step 60 zk_178_180 (by rw [List.drop_drop]; decide +kernel))))))
theorem zkm_179 : (zt_X12_acts.all (zokI 179)) = true := zall_step 60 zk_179_0 (by decide +kernel)
theorem zkm_180 : (zt_X12_fault.all (zokI 180)) = true := zall_step 60 zk_180_0 (by decide +kernel)
theorem zkm_181 : (zt_X12_actFor.all (zokI 181)) = true := zall_step 60 zk_181_0 (zall_step 60 zk_181_60 (by rw [List.drop_drop]; decide +kernel))
theorem zkm_182 : (zt_X12_isWork.all (zokI 182)) = true := zall_step 60 zk_182_0 (by decide +kernel)
theorem zkm_183 : (zt_X12_isNeeded.all (zokI 183)) = true := zall_step 60 zk_183_0 (by decide +kernel)
theorem zkm_184 : (zt_X12_needs.all (zokI 184)) = true := zall_step 60 zk_184_0 (by decide +kernel)
theorem zkm_185 : (zt_X12_leave.all (zokI 185)) = true := zall_step 60 zk_185_0 (zall_step 60 zk_185_60 (by rw [List.drop_drop]; decide +kernel))
theorem zkm_186 : (zt_X12_isLeave.all (zokI 186)) = true := zall_step 60 zk_186_0 (by decide +kernel)
theorem zkm_187 : (zt_X12_prove.all (zokI 187)) = true := zall_step 60 zk_187_0 (by decide +kernel)
theorem zkm_188 : (zt_X12_ahead.all (zokI 188)) = true := zall_step 60 zk_188_0 (by decide +kernel)
theorem zkm_189 : (zt_X12_rowsOf.all (zokI 189)) = true := zall_step 60 zk_189_0 (zall_step 60 zk_189_60 (by rw [List.drop_drop]; decide +kernel))
theorem zkm_190 : (zt_X12_lowest.all (zokI 190)) = true := zall_step 60 zk_190_0 (by decide +kernel)
theorem zkm_191 : (zt_X12_leftOf.all (zokI 191)) = true := zall_step 60 zk_191_0 (by decide +kernel)
theorem zkm_192 : (zt_X12_conditions.all (zokI 192)) = true := zall_step 60 zk_192_0 (zall_step 60 zk_192_60 (by rw [List.drop_drop]; decide +kernel))
theorem zkm_193 : (zt_X12_row.all (zokI 193)) = true := zall_step 60 zk_193_0 (by decide +kernel)
theorem zkm_194 : (zt_X12_work.all (zokI 194)) = true := zall_step 60 zk_194_0 (by decide +kernel)
theorem zkm_195 : (zt_X12_isMet.all (zokI 195)) = true := zall_step 60 zk_195_0 (by decide +kernel)
theorem zkm_196 : (zt_X12_judgedOf.all (zokI 196)) = true := zall_step 60 zk_196_0 (zall_step 60 zk_196_60 (by rw [List.drop_drop]; decide +kernel))
theorem zkm_197 : (zt_X12_judged.all (zokI 197)) = true := zall_step 60 zk_197_0 (by decide +kernel)
theorem zkm_198 : (zt_X12_grantOf.all (zokI 198)) = true := zall_step 60 zk_198_0 (by decide +kernel)
theorem zkm_199 : (zt_X12_grant.all (zokI 199)) = true := zall_step 60 zk_199_0 (by decide +kernel)
theorem zkm_200 : (zt_X12_sumOf.all (zokI 200)) = true := zall_step 60 zk_200_0 (by decide +kernel)
theorem zkm_201 : (zt_X12_fund.all (zokI 201)) = true := zall_step 60 zk_201_0 (zall_step 60 zk_201_60 (by rw [List.drop_drop]; decide +kernel))
theorem zkm_202 : (zt_X12_use.all (zokI 202)) = true := zall_step 60 zk_202_0 (zall_step 60 zk_202_60 (by rw [List.drop_drop]; exact (zall_step 60 zk_202_120 (by rw [List.drop_drop]; decide +kernel))))
theorem zkm_203 : (zt_X12_isMarks.all (zokI 203)) = true := zall_step 60 zk_203_0 (by decide +kernel)
theorem zkm_204 : (zt_X12_enter.all (zokI 204)) = true := zall_step 60 zk_204_0 (by decide +kernel)
theorem zkm_205 : (zt_X12_weight.all (zokI 205)) = true := zall_step 60 zk_205_0 (by decide +kernel)
theorem zkm_206 : (zt_X12_farOf.all (zokI 206)) = true := zall_step 60 zk_206_0 (by decide +kernel)
theorem zkm_207 : (zt_X12_isLiker.all (zokI 207)) = true := zall_step 60 zk_207_0 (by decide +kernel)
theorem zkm_208 : (zt_X12_likeCase.all (zokI 208)) = true := zall_step 60 zk_208_0 (zall_step 60 zk_208_60 (by rw [List.drop_drop]; decide +kernel))
theorem zkm_209 : (zt_X12_like.all (zokI 209)) = true := zall_step 60 zk_209_0 (by decide +kernel)
theorem zkm_210 : (zt_X12_binds.all (zokI 210)) = true := zall_step 60 zk_210_0 (zall_step 60 zk_210_60 (by rw [List.drop_drop]; decide +kernel))
theorem zkm_211 : (zt_X12_down.all (zokI 211)) = true := zall_step 60 zk_211_0 (by decide +kernel)
theorem zkm_212 : (zt_X12_size.all (zokI 212)) = true := zall_step 60 zk_212_0 (by decide +kernel)
theorem zkm_213 : (zt_X12_sight.all (zokI 213)) = true := zall_step 60 zk_213_0 (zall_step 60 zk_213_60 (by rw [List.drop_drop]; exact (zall_step 60 zk_213_120 (by rw [List.drop_drop]; exact (zall_step 60 zk_213_180 (by rw [List.drop_drop]; decide +kernel))))))
theorem zkm_214 : (zt_X12_day.all (zokI 214)) = true := zall_step 60 zk_214_0 (by decide +kernel)
theorem zkm_215 : (zt_X12_isOf.all (zokI 215)) = true := zall_step 60 zk_215_0 (by decide +kernel)
theorem zkm_216 : (zt_X12_kind.all (zokI 216)) = true := zall_step 60 zk_216_0 (by decide +kernel)
theorem zkm_217 : (zt_X12_as.all (zokI 217)) = true := zall_step 60 zk_217_0 (by decide +kernel)
theorem zkm_218 : (zt_X12_began.all (zokI 218)) = true := zall_step 60 zk_218_0 (by decide +kernel)
theorem zkm_219 : (zt_X12_sizeOf.all (zokI 219)) = true := zall_step 60 zk_219_0 (by decide +kernel)
theorem zkm_220 : (zt_X12_markOf.all (zokI 220)) = true := zall_step 60 zk_220_0 (by decide +kernel)
theorem zkm_221 : (zt_X12_ask.all (zokI 221)) = true := zall_step 60 zk_221_0 (by decide +kernel)
theorem zkm_222 : (zt_X12_trace.all (zokI 222)) = true := zall_step 60 zk_222_0 (by decide +kernel)
theorem zkm_223 : (zt_X12_count.all (zokI 223)) = true := zall_step 60 zk_223_0 (zall_step 60 zk_223_60 (by rw [List.drop_drop]; decide +kernel))
theorem zkm_224 : (zt_X12_status.all (zokI 224)) = true := zall_step 60 zk_224_0 (by decide +kernel)
theorem zkm_225 : (zt_J6_bitCount_0f7a4.all (zokI 225)) = true := zall_step 60 zk_225_0 (by decide +kernel)
theorem zkm_226 : (zt_J9_floorDiv_7cf53.all (zokI 226)) = true := zall_step 60 zk_226_0 (by decide +kernel)
theorem zkm_227 : (zt_J9_abs_0f7a4.all (zokI 227)) = true := zall_step 60 zk_227_0 (by decide +kernel)
theorem zkm_228 : (zt_J9_max_7cf53.all (zokI 228)) = true := zall_step 60 zk_228_0 (by decide +kernel)
theorem zkm_229 : (zt_J9_min_7cf53.all (zokI 229)) = true := zall_step 60 zk_229_0 (by decide +kernel)
theorem zkm_230 : (zt_J0_length_8abf5.all (zokI 230)) = true := zall_step 60 zk_230_0 (by decide +kernel)
theorem zkm_231 : (zt_J0_charAt_5068e.all (zokI 231)) = true := zall_step 60 zk_231_0 (by decide +kernel)
theorem zkm_232 : (zt_J0_coder_7d493.all (zokI 232)) = true := zall_step 60 zk_232_0 (by decide +kernel)
theorem zkm_233 : (zt_J0_isLatin1_aae02.all (zokI 233)) = true := zall_step 60 zk_233_0 (by decide +kernel)
theorem zkm_234 : (zt_J0_checkIndex_df160.all (zokI 234)) = true := zall_step 60 zk_234_0 (by decide +kernel)
theorem zkm_235 : (zt_J1_charAt_3b067.all (zokI 235)) = true := zall_step 60 zk_235_0 (by decide +kernel)
theorem zkm_236 : (zt_J2_getChar_3b067.all (zokI 236)) = true := zall_step 60 zk_236_0 (by decide +kernel)
theorem zkm_237 : (zt_J2_length_9d52b.all (zokI 237)) = true := zall_step 60 zk_237_0 (by decide +kernel)
theorem zkm_238 : (zt_J2_charAt_3b067.all (zokI 238)) = true := zall_step 60 zk_238_0 (by decide +kernel)
theorem zkm_239 : (zt_J2_checkIndex_2214a.all (zokI 239)) = true := zall_step 60 zk_239_0 (by decide +kernel)
theorem zkm_240 : (zt_J7_fill_53178.all (zokI 240)) = true := zall_step 60 zk_240_0 (by decide +kernel)
theorem zkm_241 : (zt_J3_checkIndex_8e157.all (zokI 241)) = true := zall_step 60 zk_241_0 (by decide +kernel)
theorem zkm_242 : (zt_L_law.all (zokI 242)) = true := zall_step 60 zk_242_0 (zall_step 60 zk_242_60 (by rw [List.drop_drop]; exact (zall_step 60 zk_242_120 (by rw [List.drop_drop]; exact (zall_step 60 zk_242_180 (by rw [List.drop_drop]; exact (zall_step 60 zk_242_240 (by rw [List.drop_drop]; exact (zall_step 60 zk_242_300 (by rw [List.drop_drop]; exact (zall_step 60 zk_242_360 (by rw [List.drop_drop]; exact (zall_step 60 zk_242_420 (by rw [List.drop_drop]; exact (zall_step 60 zk_242_480 (by rw [List.drop_drop]; exact (zall_step 60 zk_242_540 (by rw [List.drop_drop]; exact (zall_step 60 zk_242_600 (by rw [List.drop_drop]; exact (zall_step 60 zk_242_660 (by rw [List.drop_drop]; exact (zall_step 60 zk_242_720 (by rw [List.drop_drop]; exact (zall_step 60 zk_242_780 (by rw [List.drop_drop]; exact (zall_step 60 zk_242_840 (by rw [List.drop_drop]; exact (zall_step 60 zk_242_900 (by rw [List.drop_drop]; exact (zall_step 60 zk_242_960 (by rw [List.drop_drop]; exact (zall_step 60 zk_242_1020 (by rw [List.drop_drop]; exact (zall_step 60 zk_242_1080 (by rw [List.drop_drop]; exact (zall_step 60 zk_242_1140 (by rw [List.drop_drop]; decide +kernel))))))))))))))))))))))))))))))))))))))
