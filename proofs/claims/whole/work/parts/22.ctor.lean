/-! Constructors -/
theorem fn_0 : Fn 0 RX0 TX0 6 := ⟨iwX0, rfl, rfl, iqX0, inX0, tyX0, tyX0_ok, fun k hk => by
  match k, hk with
  | 0, _ => rfl
  | 1, _ => rfl
  | 2, _ => rfl
  | 3, _ => rfl
  | 4, _ => rfl
  | 5, _ => rfl
  | k + 6, hk => exact absurd hk (by omega)⟩
theorem fw_0_0 : Fw 0 0 RX0 TX0 6 "bodies" "[I" (.array .int) := ⟨iwX0, ⟨tyX0, tyX0_ok⟩, nmX0, rfl, by decide, rfl, rfl, by decide +kernel⟩
theorem fw_0_1 : Fw 0 1 RX0 TX0 6 "ran" "I" .int := ⟨iwX0, ⟨tyX0, tyX0_ok⟩, nmX0, rfl, by decide, rfl, rfl, by decide +kernel⟩
theorem fw_0_2 : Fw 0 2 RX0 TX0 6 "kind" "I" .int := ⟨iwX0, ⟨tyX0, tyX0_ok⟩, nmX0, rfl, by decide, rfl, rfl, by decide +kernel⟩
theorem fw_0_3 : Fw 0 3 RX0 TX0 6 "number" "I" .int := ⟨iwX0, ⟨tyX0, tyX0_ok⟩, nmX0, rfl, by decide, rfl, rfl, by decide +kernel⟩
theorem fw_0_4 : Fw 0 4 RX0 TX0 6 "board" "I" .int := ⟨iwX0, ⟨tyX0, tyX0_ok⟩, nmX0, rfl, by decide, rfl, rfl, by decide +kernel⟩
theorem fw_0_5 : Fw 0 5 RX0 TX0 6 "parted" "Z" .boolean := ⟨iwX0, ⟨tyX0, tyX0_ok⟩, nmX0, rfl, by decide, rfl, rfl, by decide +kernel⟩
theorem fn_1 : Fn 1 RX1 TX1 10 := ⟨iwX1, rfl, rfl, iqX1, inX1, tyX1, tyX1_ok, fun k hk => by
  match k, hk with
  | 0, _ => rfl
  | 1, _ => rfl
  | 2, _ => rfl
  | 3, _ => rfl
  | 4, _ => rfl
  | 5, _ => rfl
  | 6, _ => rfl
  | 7, _ => rfl
  | 8, _ => rfl
  | 9, _ => rfl
  | k + 10, hk => exact absurd hk (by omega)⟩
theorem fw_1_0 : Fw 1 0 RX1 TX1 10 "load" "LIronedFlat$Load;" (.object "IronedFlat$Load") := ⟨iwX1, ⟨tyX1, tyX1_ok⟩, nmX1, rfl, by decide, rfl, rfl, by decide +kernel⟩
theorem fw_1_1 : Fw 1 1 RX1 TX1 10 "end" "I" .int := ⟨iwX1, ⟨tyX1, tyX1_ok⟩, nmX1, rfl, by decide, rfl, rfl, by decide +kernel⟩
theorem fw_1_2 : Fw 1 2 RX1 TX1 10 "score" "I" .int := ⟨iwX1, ⟨tyX1, tyX1_ok⟩, nmX1, rfl, by decide, rfl, rfl, by decide +kernel⟩
theorem fw_1_3 : Fw 1 3 RX1 TX1 10 "z" "I" .int := ⟨iwX1, ⟨tyX1, tyX1_ok⟩, nmX1, rfl, by decide, rfl, rfl, by decide +kernel⟩
theorem fw_1_4 : Fw 1 4 RX1 TX1 10 "iron" "[I" (.array .int) := ⟨iwX1, ⟨tyX1, tyX1_ok⟩, nmX1, rfl, by decide, rfl, rfl, by decide +kernel⟩
theorem fw_1_5 : Fw 1 5 RX1 TX1 10 "weight" "[I" (.array .int) := ⟨iwX1, ⟨tyX1, tyX1_ok⟩, nmX1, rfl, by decide, rfl, rfl, by decide +kernel⟩
theorem fw_1_6 : Fw 1 6 RX1 TX1 10 "rope" "[I" (.array .int) := ⟨iwX1, ⟨tyX1, tyX1_ok⟩, nmX1, rfl, by decide, rfl, rfl, by decide +kernel⟩
theorem fw_1_7 : Fw 1 7 RX1 TX1 10 "rules" "[LIronedFlat$Rule;" (.array (.object "IronedFlat$Rule")) := ⟨iwX1, ⟨tyX1, tyX1_ok⟩, nmX1, rfl, by decide, rfl, rfl, by decide +kernel⟩
theorem fw_1_8 : Fw 1 8 RX1 TX1 10 "ruleCount" "I" .int := ⟨iwX1, ⟨tyX1, tyX1_ok⟩, nmX1, rfl, by decide, rfl, rfl, by decide +kernel⟩
theorem fw_1_9 : Fw 1 9 RX1 TX1 10 "reports" "LIronedFlat$Reports;" (.object "IronedFlat$Reports") := ⟨iwX1, ⟨tyX1, tyX1_ok⟩, nmX1, rfl, by decide, rfl, rfl, by decide +kernel⟩
theorem fn_2 : Fn 2 RX2 TX2 7 := ⟨iwX2, rfl, rfl, iqX2, inX2, tyX2, tyX2_ok, fun k hk => by
  match k, hk with
  | 0, _ => rfl
  | 1, _ => rfl
  | 2, _ => rfl
  | 3, _ => rfl
  | 4, _ => rfl
  | 5, _ => rfl
  | 6, _ => rfl
  | k + 7, hk => exact absurd hk (by omega)⟩
theorem fw_2_0 : Fw 2 0 RX2 TX2 7 "wash" "I" .int := ⟨iwX2, ⟨tyX2, tyX2_ok⟩, nmX2, rfl, by decide, rfl, rfl, by decide +kernel⟩
theorem fw_2_1 : Fw 2 1 RX2 TX2 7 "count" "I" .int := ⟨iwX2, ⟨tyX2, tyX2_ok⟩, nmX2, rfl, by decide, rfl, rfl, by decide +kernel⟩
theorem fw_2_2 : Fw 2 2 RX2 TX2 7 "flat" "I" .int := ⟨iwX2, ⟨tyX2, tyX2_ok⟩, nmX2, rfl, by decide, rfl, rfl, by decide +kernel⟩
theorem fw_2_3 : Fw 2 3 RX2 TX2 7 "kind" "[I" (.array .int) := ⟨iwX2, ⟨tyX2, tyX2_ok⟩, nmX2, rfl, by decide, rfl, rfl, by decide +kernel⟩
theorem fw_2_4 : Fw 2 4 RX2 TX2 7 "bulk" "[I" (.array .int) := ⟨iwX2, ⟨tyX2, tyX2_ok⟩, nmX2, rfl, by decide, rfl, rfl, by decide +kernel⟩
theorem fw_2_5 : Fw 2 5 RX2 TX2 7 "crease" "[I" (.array .int) := ⟨iwX2, ⟨tyX2, tyX2_ok⟩, nmX2, rfl, by decide, rfl, rfl, by decide +kernel⟩
theorem fw_2_6 : Fw 2 6 RX2 TX2 7 "board" "[I" (.array .int) := ⟨iwX2, ⟨tyX2, tyX2_ok⟩, nmX2, rfl, by decide, rfl, rfl, by decide +kernel⟩
theorem fn_3 : Fn 3 RX3 TX3 10 := ⟨iwX3, rfl, rfl, iqX3, inX3, tyX3, tyX3_ok, fun k hk => by
  match k, hk with
  | 0, _ => rfl
  | 1, _ => rfl
  | 2, _ => rfl
  | 3, _ => rfl
  | 4, _ => rfl
  | 5, _ => rfl
  | 6, _ => rfl
  | 7, _ => rfl
  | 8, _ => rfl
  | 9, _ => rfl
  | k + 10, hk => exact absurd hk (by omega)⟩
theorem fw_3_0 : Fw 3 0 RX3 TX3 10 "count" "I" .int := ⟨iwX3, ⟨tyX3, tyX3_ok⟩, nmX3, rfl, by decide, rfl, rfl, by decide +kernel⟩
theorem fw_3_1 : Fw 3 1 RX3 TX3 10 "behind" "[I" (.array .int) := ⟨iwX3, ⟨tyX3, tyX3_ok⟩, nmX3, rfl, by decide, rfl, rfl, by decide +kernel⟩
theorem fw_3_2 : Fw 3 2 RX3 TX3 10 "asked" "[I" (.array .int) := ⟨iwX3, ⟨tyX3, tyX3_ok⟩, nmX3, rfl, by decide, rfl, rfl, by decide +kernel⟩
theorem fw_3_3 : Fw 3 3 RX3 TX3 10 "lowest" "[I" (.array .int) := ⟨iwX3, ⟨tyX3, tyX3_ok⟩, nmX3, rfl, by decide, rfl, rfl, by decide +kernel⟩
theorem fw_3_4 : Fw 3 4 RX3 TX3 10 "highest" "[I" (.array .int) := ⟨iwX3, ⟨tyX3, tyX3_ok⟩, nmX3, rfl, by decide, rfl, rfl, by decide +kernel⟩
theorem fw_3_5 : Fw 3 5 RX3 TX3 10 "fitting" "I" .int := ⟨iwX3, ⟨tyX3, tyX3_ok⟩, nmX3, rfl, by decide, rfl, rfl, by decide +kernel⟩
theorem fw_3_6 : Fw 3 6 RX3 TX3 10 "firstKind" "I" .int := ⟨iwX3, ⟨tyX3, tyX3_ok⟩, nmX3, rfl, by decide, rfl, rfl, by decide +kernel⟩
theorem fw_3_7 : Fw 3 7 RX3 TX3 10 "firstCrease" "I" .int := ⟨iwX3, ⟨tyX3, tyX3_ok⟩, nmX3, rfl, by decide, rfl, rfl, by decide +kernel⟩
theorem fw_3_8 : Fw 3 8 RX3 TX3 10 "firstBulk" "I" .int := ⟨iwX3, ⟨tyX3, tyX3_ok⟩, nmX3, rfl, by decide, rfl, rfl, by decide +kernel⟩
theorem fw_3_9 : Fw 3 9 RX3 TX3 10 "soleWrong" "I" .int := ⟨iwX3, ⟨tyX3, tyX3_ok⟩, nmX3, rfl, by decide, rfl, rfl, by decide +kernel⟩
theorem fn_4 : Fn 4 RX4 TX4 3 := ⟨iwX4, rfl, rfl, iqX4, inX4, tyX4, tyX4_ok, fun k hk => by
  match k, hk with
  | 0, _ => rfl
  | 1, _ => rfl
  | 2, _ => rfl
  | k + 3, hk => exact absurd hk (by omega)⟩
theorem fw_4_0 : Fw 4 0 RX4 TX4 3 "kind" "I" .int := ⟨iwX4, ⟨tyX4, tyX4_ok⟩, nmX4, rfl, by decide, rfl, rfl, by decide +kernel⟩
theorem fw_4_1 : Fw 4 1 RX4 TX4 3 "will" "I" .int := ⟨iwX4, ⟨tyX4, tyX4_ok⟩, nmX4, rfl, by decide, rfl, rfl, by decide +kernel⟩
theorem fw_4_2 : Fw 4 2 RX4 TX4 3 "steps" "[I" (.array .int) := ⟨iwX4, ⟨tyX4, tyX4_ok⟩, nmX4, rfl, by decide, rfl, rfl, by decide +kernel⟩
theorem fn_5 : Fn 5 RX5 TX5 10 := ⟨iwX5, rfl, rfl, iqX5, inX5, tyX5, tyX5_ok, fun k hk => by
  match k, hk with
  | 0, _ => rfl
  | 1, _ => rfl
  | 2, _ => rfl
  | 3, _ => rfl
  | 4, _ => rfl
  | 5, _ => rfl
  | 6, _ => rfl
  | 7, _ => rfl
  | 8, _ => rfl
  | 9, _ => rfl
  | k + 10, hk => exact absurd hk (by omega)⟩
theorem fw_5_0 : Fw 5 0 RX5 TX5 10 "tape" "[I" (.array .int) := ⟨iwX5, ⟨tyX5, tyX5_ok⟩, nmX5, rfl, by decide, rfl, rfl, by decide +kernel⟩
theorem fw_5_1 : Fw 5 1 RX5 TX5 10 "size" "I" .int := ⟨iwX5, ⟨tyX5, tyX5_ok⟩, nmX5, rfl, by decide, rfl, rfl, by decide +kernel⟩
theorem fw_5_2 : Fw 5 2 RX5 TX5 10 "start" "I" .int := ⟨iwX5, ⟨tyX5, tyX5_ok⟩, nmX5, rfl, by decide, rfl, rfl, by decide +kernel⟩
theorem fw_5_3 : Fw 5 3 RX5 TX5 10 "stop" "I" .int := ⟨iwX5, ⟨tyX5, tyX5_ok⟩, nmX5, rfl, by decide, rfl, rfl, by decide +kernel⟩
theorem fw_5_4 : Fw 5 4 RX5 TX5 10 "sort" "I" .int := ⟨iwX5, ⟨tyX5, tyX5_ok⟩, nmX5, rfl, by decide, rfl, rfl, by decide +kernel⟩
theorem fw_5_5 : Fw 5 5 RX5 TX5 10 "word" "I" .int := ⟨iwX5, ⟨tyX5, tyX5_ok⟩, nmX5, rfl, by decide, rfl, rfl, by decide +kernel⟩
theorem fw_5_6 : Fw 5 6 RX5 TX5 10 "steps" "[I" (.array .int) := ⟨iwX5, ⟨tyX5, tyX5_ok⟩, nmX5, rfl, by decide, rfl, rfl, by decide +kernel⟩
theorem fw_5_7 : Fw 5 7 RX5 TX5 10 "stepsUsed" "I" .int := ⟨iwX5, ⟨tyX5, tyX5_ok⟩, nmX5, rfl, by decide, rfl, rfl, by decide +kernel⟩
theorem fw_5_8 : Fw 5 8 RX5 TX5 10 "made" "[LIronedFlat$Rule;" (.array (.object "IronedFlat$Rule")) := ⟨iwX5, ⟨tyX5, tyX5_ok⟩, nmX5, rfl, by decide, rfl, rfl, by decide +kernel⟩
theorem fw_5_9 : Fw 5 9 RX5 TX5 10 "count" "I" .int := ⟨iwX5, ⟨tyX5, tyX5_ok⟩, nmX5, rfl, by decide, rfl, rfl, by decide +kernel⟩
theorem fn_6 : Fn 6 RX6 TX6 10 := ⟨iwX6, rfl, rfl, iqX6, inX6, tyX6, tyX6_ok, fun k hk => by
  match k, hk with
  | 0, _ => rfl
  | 1, _ => rfl
  | 2, _ => rfl
  | 3, _ => rfl
  | 4, _ => rfl
  | 5, _ => rfl
  | 6, _ => rfl
  | 7, _ => rfl
  | 8, _ => rfl
  | 9, _ => rfl
  | k + 10, hk => exact absurd hk (by omega)⟩
theorem fw_6_0 : Fw 6 0 RX6 TX6 10 "behind" "[LIronedFlat$Load;" (.array (.object "IronedFlat$Load")) := ⟨iwX6, ⟨tyX6, tyX6_ok⟩, nmX6, rfl, by decide, rfl, rfl, by decide +kernel⟩
theorem fw_6_1 : Fw 6 1 RX6 TX6 10 "acts" "[I" (.array .int) := ⟨iwX6, ⟨tyX6, tyX6_ok⟩, nmX6, rfl, by decide, rfl, rfl, by decide +kernel⟩
theorem fw_6_2 : Fw 6 2 RX6 TX6 10 "wanted" "I" .int := ⟨iwX6, ⟨tyX6, tyX6_ok⟩, nmX6, rfl, by decide, rfl, rfl, by decide +kernel⟩
theorem fw_6_3 : Fw 6 3 RX6 TX6 10 "first" "[I" (.array .int) := ⟨iwX6, ⟨tyX6, tyX6_ok⟩, nmX6, rfl, by decide, rfl, rfl, by decide +kernel⟩
theorem fw_6_4 : Fw 6 4 RX6 TX6 10 "length" "I" .int := ⟨iwX6, ⟨tyX6, tyX6_ok⟩, nmX6, rfl, by decide, rfl, rfl, by decide +kernel⟩
theorem fw_6_5 : Fw 6 5 RX6 TX6 10 "most" "I" .int := ⟨iwX6, ⟨tyX6, tyX6_ok⟩, nmX6, rfl, by decide, rfl, rfl, by decide +kernel⟩
theorem fw_6_6 : Fw 6 6 RX6 TX6 10 "bestPlans" "I" .int := ⟨iwX6, ⟨tyX6, tyX6_ok⟩, nmX6, rfl, by decide, rfl, rfl, by decide +kernel⟩
theorem fw_6_7 : Fw 6 7 RX6 TX6 10 "fewest" "I" .int := ⟨iwX6, ⟨tyX6, tyX6_ok⟩, nmX6, rfl, by decide, rfl, rfl, by decide +kernel⟩
theorem fw_6_8 : Fw 6 8 RX6 TX6 10 "everFlat" "I" .int := ⟨iwX6, ⟨tyX6, tyX6_ok⟩, nmX6, rfl, by decide, rfl, rfl, by decide +kernel⟩
theorem fw_6_9 : Fw 6 9 RX6 TX6 10 "opening" "I" .int := ⟨iwX6, ⟨tyX6, tyX6_ok⟩, nmX6, rfl, by decide, rfl, rfl, by decide +kernel⟩
theorem fn_7 : Fn 7 RX7 TX7 2 := ⟨iwX7, rfl, rfl, iqX7, inX7, tyX7, tyX7_ok, fun k hk => by
  match k, hk with
  | 0, _ => rfl
  | 1, _ => rfl
  | k + 2, hk => exact absurd hk (by omega)⟩
theorem fw_7_0 : Fw 7 0 RX7 TX7 2 "sort" "I" .int := ⟨iwX7, ⟨tyX7, tyX7_ok⟩, nmX7, rfl, by decide, rfl, rfl, by decide +kernel⟩
theorem fw_7_1 : Fw 7 1 RX7 TX7 2 "items" "[I" (.array .int) := ⟨iwX7, ⟨tyX7, tyX7_ok⟩, nmX7, rfl, by decide, rfl, rfl, by decide +kernel⟩
theorem fn_8 : Fn 8 RX8 TX8 12 := ⟨iwX8, rfl, rfl, iqX8, inX8, tyX8, tyX8_ok, fun k hk => by
  match k, hk with
  | 0, _ => rfl
  | 1, _ => rfl
  | 2, _ => rfl
  | 3, _ => rfl
  | 4, _ => rfl
  | 5, _ => rfl
  | 6, _ => rfl
  | 7, _ => rfl
  | 8, _ => rfl
  | 9, _ => rfl
  | 10, _ => rfl
  | 11, _ => rfl
  | k + 12, hk => exact absurd hk (by omega)⟩
theorem fw_8_0 : Fw 8 0 RX8 TX8 12 "now" "LIronedFlat$Laundry;" (.object "IronedFlat$Laundry") := ⟨iwX8, ⟨tyX8, tyX8_ok⟩, nmX8, rfl, by decide, rfl, rfl, by decide +kernel⟩
theorem fw_8_1 : Fw 8 1 RX8 TX8 12 "kept" "LIronedFlat$Laundry;" (.object "IronedFlat$Laundry") := ⟨iwX8, ⟨tyX8, tyX8_ok⟩, nmX8, rfl, by decide, rfl, rfl, by decide +kernel⟩
theorem fw_8_2 : Fw 8 2 RX8 TX8 12 "anyKept" "Z" .boolean := ⟨iwX8, ⟨tyX8, tyX8_ok⟩, nmX8, rfl, by decide, rfl, rfl, by decide +kernel⟩
theorem fw_8_3 : Fw 8 3 RX8 TX8 12 "trial" "LIronedFlat$Load;" (.object "IronedFlat$Load") := ⟨iwX8, ⟨tyX8, tyX8_ok⟩, nmX8, rfl, by decide, rfl, rfl, by decide +kernel⟩
theorem fw_8_4 : Fw 8 4 RX8 TX8 12 "search" "LIronedFlat$Search;" (.object "IronedFlat$Search") := ⟨iwX8, ⟨tyX8, tyX8_ok⟩, nmX8, rfl, by decide, rfl, rfl, by decide +kernel⟩
theorem fw_8_5 : Fw 8 5 RX8 TX8 12 "reader" "LIronedFlat$RuleReader;" (.object "IronedFlat$RuleReader") := ⟨iwX8, ⟨tyX8, tyX8_ok⟩, nmX8, rfl, by decide, rfl, rfl, by decide +kernel⟩
theorem fw_8_6 : Fw 8 6 RX8 TX8 12 "rows" "[I" (.array .int) := ⟨iwX8, ⟨tyX8, tyX8_ok⟩, nmX8, rfl, by decide, rfl, rfl, by decide +kernel⟩
theorem fw_8_7 : Fw 8 7 RX8 TX8 12 "rowCount" "I" .int := ⟨iwX8, ⟨tyX8, tyX8_ok⟩, nmX8, rfl, by decide, rfl, rfl, by decide +kernel⟩
theorem fw_8_8 : Fw 8 8 RX8 TX8 12 "sheets" "[LIronedFlat$SheetRow;" (.array (.object "IronedFlat$SheetRow")) := ⟨iwX8, ⟨tyX8, tyX8_ok⟩, nmX8, rfl, by decide, rfl, rfl, by decide +kernel⟩
theorem fw_8_9 : Fw 8 9 RX8 TX8 12 "shelfThing" "[I" (.array .int) := ⟨iwX8, ⟨tyX8, tyX8_ok⟩, nmX8, rfl, by decide, rfl, rfl, by decide +kernel⟩
theorem fw_8_10 : Fw 8 10 RX8 TX8 12 "shelfRow" "[LIronedFlat$SheetRow;" (.array (.object "IronedFlat$SheetRow")) := ⟨iwX8, ⟨tyX8, tyX8_ok⟩, nmX8, rfl, by decide, rfl, rfl, by decide +kernel⟩
theorem fw_8_11 : Fw 8 11 RX8 TX8 12 "actor" "LIronedFlat$Actor;" (.object "IronedFlat$Actor") := ⟨iwX8, ⟨tyX8, tyX8_ok⟩, nmX8, rfl, by decide, rfl, rfl, by decide +kernel⟩
theorem fn_9 : Fn 9 RX9 TX9 40 := ⟨iwX9, rfl, rfl, iqX9, inX9, tyX9, tyX9_ok, fun k hk => by
  match k, hk with
  | 0, _ => rfl
  | 1, _ => rfl
  | 2, _ => rfl
  | 3, _ => rfl
  | 4, _ => rfl
  | 5, _ => rfl
  | 6, _ => rfl
  | 7, _ => rfl
  | 8, _ => rfl
  | 9, _ => rfl
  | 10, _ => rfl
  | 11, _ => rfl
  | 12, _ => rfl
  | 13, _ => rfl
  | 14, _ => rfl
  | 15, _ => rfl
  | 16, _ => rfl
  | 17, _ => rfl
  | 18, _ => rfl
  | 19, _ => rfl
  | 20, _ => rfl
  | 21, _ => rfl
  | 22, _ => rfl
  | 23, _ => rfl
  | 24, _ => rfl
  | 25, _ => rfl
  | 26, _ => rfl
  | 27, _ => rfl
  | 28, _ => rfl
  | 29, _ => rfl
  | 30, _ => rfl
  | 31, _ => rfl
  | 32, _ => rfl
  | 33, _ => rfl
  | 34, _ => rfl
  | 35, _ => rfl
  | 36, _ => rfl
  | 37, _ => rfl
  | 38, _ => rfl
  | 39, _ => rfl
  | k + 40, hk => exact absurd hk (by omega)⟩
theorem fw_9_0 : Fw 9 0 RX9 TX9 40 "s" "[I" (.array .int) := ⟨iwX9, ⟨tyX9, tyX9_ok⟩, nmX9, rfl, by decide, rfl, rfl, by decide +kernel⟩
theorem fw_9_1 : Fw 9 1 RX9 TX9 40 "held" "[I" (.array .int) := ⟨iwX9, ⟨tyX9, tyX9_ok⟩, nmX9, rfl, by decide, rfl, rfl, by decide +kernel⟩
theorem fw_9_2 : Fw 9 2 RX9 TX9 40 "isHeld" "Z" .boolean := ⟨iwX9, ⟨tyX9, tyX9_ok⟩, nmX9, rfl, by decide, rfl, rfl, by decide +kernel⟩
theorem fw_9_3 : Fw 9 3 RX9 TX9 40 "aside" "[I" (.array .int) := ⟨iwX9, ⟨tyX9, tyX9_ok⟩, nmX9, rfl, by decide, rfl, rfl, by decide +kernel⟩
theorem fw_9_4 : Fw 9 4 RX9 TX9 40 "tape" "[I" (.array .int) := ⟨iwX9, ⟨tyX9, tyX9_ok⟩, nmX9, rfl, by decide, rfl, rfl, by decide +kernel⟩
theorem fw_9_5 : Fw 9 5 RX9 TX9 40 "taped" "I" .int := ⟨iwX9, ⟨tyX9, tyX9_ok⟩, nmX9, rfl, by decide, rfl, rfl, by decide +kernel⟩
theorem fw_9_6 : Fw 9 6 RX9 TX9 40 "token" "I" .int := ⟨iwX9, ⟨tyX9, tyX9_ok⟩, nmX9, rfl, by decide, rfl, rfl, by decide +kernel⟩
theorem fw_9_7 : Fw 9 7 RX9 TX9 40 "from" "I" .int := ⟨iwX9, ⟨tyX9, tyX9_ok⟩, nmX9, rfl, by decide, rfl, rfl, by decide +kernel⟩
theorem fw_9_8 : Fw 9 8 RX9 TX9 40 "to" "I" .int := ⟨iwX9, ⟨tyX9, tyX9_ok⟩, nmX9, rfl, by decide, rfl, rfl, by decide +kernel⟩
theorem fw_9_9 : Fw 9 9 RX9 TX9 40 "value" "I" .int := ⟨iwX9, ⟨tyX9, tyX9_ok⟩, nmX9, rfl, by decide, rfl, rfl, by decide +kernel⟩
theorem fw_9_10 : Fw 9 10 RX9 TX9 40 "isWrong" "Z" .boolean := ⟨iwX9, ⟨tyX9, tyX9_ok⟩, nmX9, rfl, by decide, rfl, rfl, by decide +kernel⟩
theorem fw_9_11 : Fw 9 11 RX9 TX9 40 "open" "I" .int := ⟨iwX9, ⟨tyX9, tyX9_ok⟩, nmX9, rfl, by decide, rfl, rfl, by decide +kernel⟩
theorem fw_9_12 : Fw 9 12 RX9 TX9 40 "before" "[I" (.array .int) := ⟨iwX9, ⟨tyX9, tyX9_ok⟩, nmX9, rfl, by decide, rfl, rfl, by decide +kernel⟩
theorem fw_9_13 : Fw 9 13 RX9 TX9 40 "acts" "[I" (.array .int) := ⟨iwX9, ⟨tyX9, tyX9_ok⟩, nmX9, rfl, by decide, rfl, rfl, by decide +kernel⟩
theorem fw_9_14 : Fw 9 14 RX9 TX9 40 "firstActs" "[I" (.array .int) := ⟨iwX9, ⟨tyX9, tyX9_ok⟩, nmX9, rfl, by decide, rfl, rfl, by decide +kernel⟩
theorem fw_9_15 : Fw 9 15 RX9 TX9 40 "bestWorth" "I" .int := ⟨iwX9, ⟨tyX9, tyX9_ok⟩, nmX9, rfl, by decide, rfl, rfl, by decide +kernel⟩
theorem fw_9_16 : Fw 9 16 RX9 TX9 40 "bestMany" "I" .int := ⟨iwX9, ⟨tyX9, tyX9_ok⟩, nmX9, rfl, by decide, rfl, rfl, by decide +kernel⟩
theorem fw_9_17 : Fw 9 17 RX9 TX9 40 "firstLong" "I" .int := ⟨iwX9, ⟨tyX9, tyX9_ok⟩, nmX9, rfl, by decide, rfl, rfl, by decide +kernel⟩
theorem fw_9_18 : Fw 9 18 RX9 TX9 40 "wanted" "I" .int := ⟨iwX9, ⟨tyX9, tyX9_ok⟩, nmX9, rfl, by decide, rfl, rfl, by decide +kernel⟩
theorem fw_9_19 : Fw 9 19 RX9 TX9 40 "fewestActs" "I" .int := ⟨iwX9, ⟨tyX9, tyX9_ok⟩, nmX9, rfl, by decide, rfl, rfl, by decide +kernel⟩
theorem fw_9_20 : Fw 9 20 RX9 TX9 40 "flatEver" "I" .int := ⟨iwX9, ⟨tyX9, tyX9_ok⟩, nmX9, rfl, by decide, rfl, rfl, by decide +kernel⟩
theorem fw_9_21 : Fw 9 21 RX9 TX9 40 "firstAct" "I" .int := ⟨iwX9, ⟨tyX9, tyX9_ok⟩, nmX9, rfl, by decide, rfl, rfl, by decide +kernel⟩
theorem fw_9_22 : Fw 9 22 RX9 TX9 40 "bulks" "[I" (.array .int) := ⟨iwX9, ⟨tyX9, tyX9_ok⟩, nmX9, rfl, by decide, rfl, rfl, by decide +kernel⟩
theorem fw_9_23 : Fw 9 23 RX9 TX9 40 "paids" "[I" (.array .int) := ⟨iwX9, ⟨tyX9, tyX9_ok⟩, nmX9, rfl, by decide, rfl, rfl, by decide +kernel⟩
theorem fw_9_24 : Fw 9 24 RX9 TX9 40 "fits" "I" .int := ⟨iwX9, ⟨tyX9, tyX9_ok⟩, nmX9, rfl, by decide, rfl, rfl, by decide +kernel⟩
theorem fw_9_25 : Fw 9 25 RX9 TX9 40 "firstFit" "I" .int := ⟨iwX9, ⟨tyX9, tyX9_ok⟩, nmX9, rfl, by decide, rfl, rfl, by decide +kernel⟩
theorem fw_9_26 : Fw 9 26 RX9 TX9 40 "rows" "[I" (.array .int) := ⟨iwX9, ⟨tyX9, tyX9_ok⟩, nmX9, rfl, by decide, rfl, rfl, by decide +kernel⟩
theorem fw_9_27 : Fw 9 27 RX9 TX9 40 "rowN" "I" .int := ⟨iwX9, ⟨tyX9, tyX9_ok⟩, nmX9, rfl, by decide, rfl, rfl, by decide +kernel⟩
theorem fw_9_28 : Fw 9 28 RX9 TX9 40 "sortOf" "[I" (.array .int) := ⟨iwX9, ⟨tyX9, tyX9_ok⟩, nmX9, rfl, by decide, rfl, rfl, by decide +kernel⟩
theorem fw_9_29 : Fw 9 29 RX9 TX9 40 "sizeOf" "[I" (.array .int) := ⟨iwX9, ⟨tyX9, tyX9_ok⟩, nmX9, rfl, by decide, rfl, rfl, by decide +kernel⟩
theorem fw_9_30 : Fw 9 30 RX9 TX9 40 "numbers" "[I" (.array .int) := ⟨iwX9, ⟨tyX9, tyX9_ok⟩, nmX9, rfl, by decide, rfl, rfl, by decide +kernel⟩
theorem fw_9_31 : Fw 9 31 RX9 TX9 40 "holdsWhat" "[I" (.array .int) := ⟨iwX9, ⟨tyX9, tyX9_ok⟩, nmX9, rfl, by decide, rfl, rfl, by decide +kernel⟩
theorem fw_9_32 : Fw 9 32 RX9 TX9 40 "holdsWhich" "[I" (.array .int) := ⟨iwX9, ⟨tyX9, tyX9_ok⟩, nmX9, rfl, by decide, rfl, rfl, by decide +kernel⟩
theorem fw_9_33 : Fw 9 33 RX9 TX9 40 "holdsMany" "[I" (.array .int) := ⟨iwX9, ⟨tyX9, tyX9_ok⟩, nmX9, rfl, by decide, rfl, rfl, by decide +kernel⟩
theorem fw_9_34 : Fw 9 34 RX9 TX9 40 "bodies" "[I" (.array .int) := ⟨iwX9, ⟨tyX9, tyX9_ok⟩, nmX9, rfl, by decide, rfl, rfl, by decide +kernel⟩
theorem fw_9_35 : Fw 9 35 RX9 TX9 40 "ran" "I" .int := ⟨iwX9, ⟨tyX9, tyX9_ok⟩, nmX9, rfl, by decide, rfl, rfl, by decide +kernel⟩
theorem fw_9_36 : Fw 9 36 RX9 TX9 40 "actKind" "I" .int := ⟨iwX9, ⟨tyX9, tyX9_ok⟩, nmX9, rfl, by decide, rfl, rfl, by decide +kernel⟩
theorem fw_9_37 : Fw 9 37 RX9 TX9 40 "actN" "I" .int := ⟨iwX9, ⟨tyX9, tyX9_ok⟩, nmX9, rfl, by decide, rfl, rfl, by decide +kernel⟩
theorem fw_9_38 : Fw 9 38 RX9 TX9 40 "actA" "I" .int := ⟨iwX9, ⟨tyX9, tyX9_ok⟩, nmX9, rfl, by decide, rfl, rfl, by decide +kernel⟩
theorem fw_9_39 : Fw 9 39 RX9 TX9 40 "isParted" "Z" .boolean := ⟨iwX9, ⟨tyX9, tyX9_ok⟩, nmX9, rfl, by decide, rfl, rfl, by decide +kernel⟩
theorem ao_2 : Cond.arrayOver (.object "IronedFlat$Rule") ∈ lw_tbl := tb1 (List.mem_of_getElem? (i := 83) rfl)
theorem ao_3 : Cond.arrayOver (.object "IronedFlat$SheetRow") ∈ lw_tbl := tb2 (List.mem_of_getElem? (i := 23) rfl)
theorem ao_4 : Cond.arrayOver (.object "IronedFlat$Load") ∈ lw_tbl := tb1 (List.mem_of_getElem? (i := 181) rfl)
theorem ac_i : Cond.arrayClass .int ∈ lw_gd := lw_gd_in (tb1 (List.mem_of_getElem? (i := 81) rfl)) rfl
def fillV (V : V2) (a m : Nat) (v : Int32) : V2 := va_up V a (fun j => if j < m then v else V a j)
theorem stI_n {m : Nat} {V : V2} {x k : Nat} {v : Int32} (hk : k < m) (hm : m < 2 ^ 31) : stI m V x (nI k) v = some (up2 V x k v) := by
  have : inb (nI k) m = true := inb_iff.mpr (vp_in_nI hk hm)
  simp only [stI, this, if_true, nI_clamp (Nat.lt_trans hk hm)]
theorem ldI_n {m : Nat} {f : Nat → Int32} {k : Nat} (hk : k < m) (hm : m < 2 ^ 31) : ldI m f (nI k) = some (f k) := by
  have : inb (nI k) m = true := inb_iff.mpr (vp_in_nI hk hm)
  simp only [ldI, this, if_true, nI_clamp (Nat.lt_trans hk hm)]
theorem fill_l {G : G2} {a m : Nat} {v : Int32} (hm : G.2.2.1 a = m) (hm2 : m < 2 ^ 31) : ∀ (f k : Nat) (V : V2), k ≤ m → m < k + f → lJ7_fill_53178_5 G a v (nI m) f V (nI k) = some (va_up V a (fun j => if k ≤ j ∧ j < m then v else V a j)) := by
  intro f
  induction f with
  | zero => intro k V h1 h2; omega
  | succ f ih =>
    intro k V h1 h2
    unfold lJ7_fill_53178_5
    by_cases hk : k < m
    · rw [if_neg (nI_ge hk hm2), hm, stI_n hk hm2]
      simp only [Option.bind_some, letv, nI_1]
      rw [ih (k + 1) _ hk (by omega)]
      congr 1
      funext y j
      by_cases hy : y = a
      · subst hy
        simp only [va_up_self, up2_self]
        by_cases hj : j = k
        · subst hj
          rw [if_neg (by omega), if_pos ⟨by omega, hk⟩, va_up_self]
        · rw [va_up_ne _ _ hj]
          by_cases h3 : k + 1 ≤ j ∧ j < m
          · rw [if_pos h3, if_pos (by omega)]
          · rw [if_neg h3, if_neg (by omega)]
      · rw [va_up_ne _ _ hy, va_up_ne _ _ hy, up2_ne _ hy]
    · rw [if_pos (nI_le (by omega) (by omega))]
      congr 1
      funext y j
      by_cases hy : y = a
      · subst hy
        rw [va_up_self, if_neg (by omega)]
      · rw [va_up_ne _ _ hy]
theorem fill_p {G : G2} {V : V2} {a m n : Nat} {v : Int32} (hm : G.2.2.1 a = m) (hm2 : m < 2 ^ 31) (hn : m < n) : pJ7_fill_53178 n G V a v = some (fillV V a m v) := by
  unfold pJ7_fill_53178
  simp only [letv]
  rw [hm, show (0 : Int32) = nI 0 from nI_0.symm, fill_l hm hm2 n 0 V (Nat.zero_le _) (by omega)]
  simp only [Option.bind_some, fillV, Nat.zero_le, true_and]
theorem ge_fin {G0 G : G2} {a t : Nat} (h : GE G0 G) : GE G0 (finG G a t) := h
section GB
variable {C : Cx} {cc : ByteArray} {ow : String} {ret : Option FieldType} {pc pc' tgt : Nat} {lv : List (Nat × Value)} {st : List Value} {V : V2} {R : R2} {G : G2} {kc ks : Nat} {P : Prop}
theorem g_cgeF (h : CxOK C cc ow ret) {x y : Int32} {off : Int} (hd : Dj cc pc (.if_icmp .ge off) off tgt pc') (hx : ¬ y ≤ x) (kk : P → Go C pc' lv st V R G kc ks) : P → Go C pc lv (.int y :: .int x :: st) V R G kc ks := by
  obtain ⟨hd, ht, rfl⟩ := hd
  exact fun hP H locs ls h1 h2 h3 h4 => lv_icmp_ge h.1 h.2.1 hd ht (fun q => absurd q hx) (fun _ => kk hP H locs ls h1 h2 h3 h4)
theorem g_cgeT (h : CxOK C cc ow ret) {x y : Int32} {off : Int} (hd : Dj cc pc (.if_icmp .ge off) off tgt pc') (hx : y ≤ x) (kk : P → Go C tgt lv st V R G kc ks) : P → Go C pc lv (.int y :: .int x :: st) V R G kc ks := by
  obtain ⟨hd, ht, rfl⟩ := hd
  exact fun hP H locs ls h1 h2 h3 h4 => lv_icmp_ge h.1 h.2.1 hd ht (fun _ => kk hP H locs ls h1 h2 h3 h4) (fun q => absurd hx q)
theorem g_iastK (h : CxOK C cc ow ret) {a n i0 : Nat} {i x : Int32} (ho : own G a 1) (hl : G.2.2.1 a = n) (hi : inb i n = true) (hi0 : i.toNatClampNeg = i0) (hd : Dc cc pc (.iastore) 1 pc') (kk : P → Go C pc' lv st (up2 V a i0 x) R G kc ks) : P → Go C pc lv (.int x :: .int i :: .ref a :: st) V R G kc ks := by
  subst hi0
  intro hP
  refine g_iastV (K := some) (o := up2 V a i.toNatClampNeg x) h ho hl hd (fun W hW => ?_) ?_
  · cases hW; exact kk hP
  · simp [stI, hi]
theorem g_aastK (h : CxOK C cc ow ret) {a n t ci v i0 : Nat} {rq : vw_C} {i : Int32} (ht : 1 < t ∧ t < 10) (hty : (tysW C.2.2.2.1)[t - 1]? = some (C.2.2.2.1.2.2.1 t, .object rq.1)) (hc : vwCl[ci]? = some rq) (hcn : ci < 20) (hv : own G v (ci + 10)) (ho : own G a t) (hl : G.2.2.1 a = n) (hi : inb i n = true) (hi0 : i.toNatClampNeg = i0) (hd : Dc cc pc (.aastore) 1 pc') (kk : P → Go C pc' lv st V (up2 R a i0 (some v)) G kc ks) : P → Go C pc lv (.ref v :: .int i :: .ref a :: st) V R G kc ks := by
  subst hi0
  intro hP
  refine g_aastV (x := some v) (K := some) (o := up2 R a i.toNatClampNeg (some v)) h ht hty hc hcn (ownB_iff.mpr hv) ho hl hd (fun W hW => ?_) ?_
  · cases hW; exact kk hP
  · simp [stR, hi]
theorem g_alenR (h : CxOK C cc ow ret) {a n t : Nat} {Cn : String} (ht : 1 < t ∧ t < 10) (hty : (tysW C.2.2.2.1)[t - 1]? = some (C.2.2.2.1.2.2.1 t, .object Cn)) (ho : own G a t) (hl : G.2.2.1 a = n) (hd : Dc cc pc (.arraylength) 1 pc') (kk : P → Go C pc' lv (.int (nI n) :: st) V R G kc ks) : P → Go C pc lv (.ref a :: st) V R G kc ks := by
  obtain ⟨hd, rfl⟩ := hd
  intro hP H locs ls h1 h2 h3 h4
  obtain ⟨q0, hq0⟩ := wd_get (D := C.2.2.2.1) (V := V) (R := R) ho
  rw [cellE_ref ho.2 ht.1 ht.2, hl] at hq0
  exact va_alen h.1 h.2.1 h.2.2.2.2.2.1.1 h2.1 q0 (t - 1) hq0 hty rfl hd (kk hP H locs ls h1 h2 h3 h4)
end GB
def vX2_init (V : V2) (b : Nat) : V2 := (zV (zV (zV (zV (up2 (up2 (up2 V b 0 0) b 1 0) b 2 0) (b + 1)) (b + 2)) (b + 3)) (b + 4))
def rX2_init (R : R2) (b : Nat) : R2 := (up2 (up2 (up2 (up2 R b 3 (some (b + 1))) b 4 (some (b + 2))) b 5 (some (b + 3))) b 6 (some (b + 4)))
def gX2_init (G : G2) (b : Nat) : G2 := (finG (nwG (nwG (nwG (nwG G 1 6) 1 6) 1 6) 1 6) b 12)
theorem geX2_init (G : G2) (b : Nat) : GE G (gX2_init G b) := by
  simp only [gX2_init]
  exact ge_fin (ge_nw (ge_nw (ge_nw (ge_nw (GE.rf G)))))
theorem olX2_init {G : G2} {b x t m : Nat} (hb : G.2.2.2 = b + 1) (hx : x < b) (h : ownL G x t m) : ownL (gX2_init G b) x t m := by
  obtain ⟨L, kd, ln, n⟩ := G
  cases hb
  exact ol_fin (by omega) (ol_old (a := b + 4) rfl (by omega) (ol_old (a := b + 3) rfl (by omega) (ol_old (a := b + 2) rfl (by omega) (ol_old (a := b + 1) rfl (by omega) (h)))))
theorem odX2_init {G : G2} {b t m : Nat} (hb : G.2.2.2 = b + 1) (h : ownL G b t m) : ownL (gX2_init G b) b 12 m := by
  obtain ⟨L, kd, ln, n⟩ := G
  cases hb
  exact ol_done (ol_old (a := b + 4) rfl (by omega) (ol_old (a := b + 3) rfl (by omega) (ol_old (a := b + 2) rfl (by omega) (ol_old (a := b + 1) rfl (by omega) (h)))))
theorem rnX2_init {R : R2} {b x : Nat} (hx : x < b) : rX2_init R b x = R x := by
  unfold rX2_init
  exact (up2_ne _ (by omega)).trans ((up2_ne _ (by omega)).trans ((up2_ne _ (by omega)).trans ((up2_ne _ (by omega)).trans (rfl))))
theorem vnX2_init {V : V2} {b x : Nat} (hx : x < b) : vX2_init V b x = V x := by
  unfold vX2_init
  exact (va_up_ne _ _ (by omega)).trans ((va_up_ne _ _ (by omega)).trans ((va_up_ne _ _ (by omega)).trans ((va_up_ne _ _ (by omega)).trans ((up2_ne _ (by omega)).trans ((up2_ne _ (by omega)).trans ((up2_ne _ (by omega)).trans (rfl)))))))
set_option maxHeartbeats 8000000 in
set_option maxRecDepth 100000 in
theorem kX2_init {l : Launch} {D : Dx} {L : List Nat} {kd ln : Nat → Nat} {V : V2} {R : R2} {b : Nat} (ho : own (L, kd, ln, b + 1) b 32) : Con l yX2_init cX2_init 1 none (rmN 1 4 24) D (L, kd, ln, b + 1) V R [.ref b] (none, vX2_init V b, rX2_init R b, gX2_init (L, kd, ln, b + 1) b, 4, 24) := by
  refine Con.mk RX2 (by decide) rfl (Nat.le_of_ble_eq_true rfl) (fun C _ hR hT _ _ hL hC hin => ?_)
  have h0 : ownL (L, kd, ln, b + 1) b 32 (ln b) := ⟨ho, rfl⟩
  have hb0 : R b = R b := rfl
  refine id (α := True → _) ?_ trivial
  refine g_aload_n hC dX2_init_0 (j := 0) rfl rfl ?_
  refine g_objI hC hR (Nat.le_of_ble_eq_true rfl) dX2_init_1 mlX2_3 (Nat.le_of_ble_eq_true rfl) ?_
  refine g_aload_n hC dX2_init_4 (j := 0) rfl rfl ?_
  refine g_iconst hC dX2_init_5 ic_0 ?_
  refine g_prI hC hin fw_2_0 rfl rfl (vp_nar_int _) rfl h0.1 dX2_init_6 flX2_9 ?_
  refine g_aload_n hC dX2_init_9 (j := 0) rfl rfl ?_
  refine g_iconst hC dX2_init_10 ic_0 ?_
  refine g_prI hC hin fw_2_1 rfl rfl (vp_nar_int _) rfl h0.1 dX2_init_11 flX2_15 ?_
  refine g_aload_n hC dX2_init_14 (j := 0) rfl rfl ?_
  refine g_iconst hC dX2_init_15 ic_0 ?_
  refine g_prI hC hin fw_2_2 rfl rfl (vp_nar_int _) rfl h0.1 dX2_init_16 flX2_18 ?_
  refine g_aload_n hC dX2_init_19 (j := 0) rfl rfl ?_
  refine g_bipush hC dX2_init_20 bc_6 ?_
  refine g_newI hC hR (m0 := 6) (by decide) (by decide) (Nat.le_of_ble_eq_true rfl) (Nat.le_of_ble_eq_true rfl) (Nat.le_of_ble_eq_true rfl) dX2_init_22 ac_i (a0 := (b + 1)) rfl ?_
  have h1 := ol_old (t := 1) (m := 6) (a := (b + 1)) rfl (by omega) h0
  have h2 := ol_new (G := (L, kd, ln, b + 1)) (t := 1) (m := 6) (a := (b + 1)) rfl
  refine g_prR hC hin fw_2_3 (by decide) rfl rfl rfl h1.1 dX2_init_24 flX2_21 ?_
  have hb3 := (up2_self (x := b) (k := 3) (v := some (b + 1))).trans (congrArg (fun r => va_up r 3 (some (b + 1))) hb0)
  refine g_aload_n hC dX2_init_27 (j := 0) rfl rfl ?_
  refine g_bipush hC dX2_init_28 bc_6 ?_
  refine g_newI hC hR (m0 := 6) (by decide) (by decide) (Nat.le_of_ble_eq_true rfl) (Nat.le_of_ble_eq_true rfl) (Nat.le_of_ble_eq_true rfl) dX2_init_30 ac_i (a0 := (b + 2)) rfl ?_
  have h4 := ol_old (t := 1) (m := 6) (a := (b + 2)) rfl (by omega) h1
  have h5 := ol_old (t := 1) (m := 6) (a := (b + 2)) rfl (by omega) h2
  have h6 := ol_new (G := (nwG (L, kd, ln, b + 1) 1 6)) (t := 1) (m := 6) (a := (b + 2)) rfl
  refine g_prR hC hin fw_2_4 (by decide) rfl rfl rfl h4.1 dX2_init_32 flX2_25 ?_
  have hb7 := (up2_self (x := b) (k := 4) (v := some (b + 2))).trans (congrArg (fun r => va_up r 4 (some (b + 2))) hb3)
  refine g_aload_n hC dX2_init_35 (j := 0) rfl rfl ?_
  refine g_bipush hC dX2_init_36 bc_6 ?_
  refine g_newI hC hR (m0 := 6) (by decide) (by decide) (Nat.le_of_ble_eq_true rfl) (Nat.le_of_ble_eq_true rfl) (Nat.le_of_ble_eq_true rfl) dX2_init_38 ac_i (a0 := (b + 3)) rfl ?_
  have h8 := ol_old (t := 1) (m := 6) (a := (b + 3)) rfl (by omega) h4
  have h9 := ol_old (t := 1) (m := 6) (a := (b + 3)) rfl (by omega) h5
  have h10 := ol_old (t := 1) (m := 6) (a := (b + 3)) rfl (by omega) h6
  have h11 := ol_new (G := (nwG (nwG (L, kd, ln, b + 1) 1 6) 1 6)) (t := 1) (m := 6) (a := (b + 3)) rfl
  refine g_prR hC hin fw_2_5 (by decide) rfl rfl rfl h8.1 dX2_init_40 flX2_28 ?_
  have hb12 := (up2_self (x := b) (k := 5) (v := some (b + 3))).trans (congrArg (fun r => va_up r 5 (some (b + 3))) hb7)
  refine g_aload_n hC dX2_init_43 (j := 0) rfl rfl ?_
  refine g_bipush hC dX2_init_44 bc_6 ?_
  refine g_newI hC hR (m0 := 6) (by decide) (by decide) (Nat.le_of_ble_eq_true rfl) (Nat.le_of_ble_eq_true rfl) (Nat.le_of_ble_eq_true rfl) dX2_init_46 ac_i (a0 := (b + 4)) rfl ?_
  have h13 := ol_old (t := 1) (m := 6) (a := (b + 4)) rfl (by omega) h8
  have h14 := ol_old (t := 1) (m := 6) (a := (b + 4)) rfl (by omega) h9
  have h15 := ol_old (t := 1) (m := 6) (a := (b + 4)) rfl (by omega) h10
  have h16 := ol_old (t := 1) (m := 6) (a := (b + 4)) rfl (by omega) h11
  have h17 := ol_new (G := (nwG (nwG (nwG (L, kd, ln, b + 1) 1 6) 1 6) 1 6)) (t := 1) (m := 6) (a := (b + 4)) rfl
  refine g_prR hC hin fw_2_6 (by decide) rfl rfl rfl h13.1 dX2_init_48 flX2_31 ?_
  have hb18 := (up2_self (x := b) (k := 6) (v := some (b + 4))).trans (congrArg (fun r => va_up r 6 (some (b + 4))) hb12)
  refine g_fin (a := b) (ci := 2) h13.1 (by decide) (fun k hk hne => ?_) ?_
  · refine (congrFun hb18 k).trans ?_
    match k, hk, hne with
    | 0, _, hne => exact absurd rfl hne
    | 1, _, hne => exact absurd rfl hne
    | 2, _, hne => exact absurd rfl hne
    | 3, _, _ => simp [va_up, offT]
    | 4, _, _ => simp [va_up, offT]
    | 5, _, _ => simp [va_up, offT]
    | 6, _, _ => simp [va_up, offT]
    | k + 7, hk, _ => exact absurd hk (by simp [nfs])
  exact g_vretA hC hT (Nat.le_refl _) (Nat.le_refl _) dX2_init_51
def vX3_init (V : V2) (b : Nat) : V2 := (up2 (up2 (up2 (up2 (up2 (zV (zV (zV (zV (up2 V b 0 0) (b + 1)) (b + 2)) (b + 3)) (b + 4)) b 5 0) b 6 0) b 7 0) b 8 0) b 9 0)
def rX3_init (R : R2) (b : Nat) : R2 := (up2 (up2 (up2 (up2 R b 1 (some (b + 1))) b 2 (some (b + 2))) b 3 (some (b + 3))) b 4 (some (b + 4)))
def gX3_init (G : G2) (b : Nat) : G2 := (finG (nwG (nwG (nwG (nwG G 1 6) 1 6) 1 6) 1 6) b 13)
theorem geX3_init (G : G2) (b : Nat) : GE G (gX3_init G b) := by
  simp only [gX3_init]
  exact ge_fin (ge_nw (ge_nw (ge_nw (ge_nw (GE.rf G)))))
theorem olX3_init {G : G2} {b x t m : Nat} (hb : G.2.2.2 = b + 1) (hx : x < b) (h : ownL G x t m) : ownL (gX3_init G b) x t m := by
  obtain ⟨L, kd, ln, n⟩ := G
  cases hb
  exact ol_fin (by omega) (ol_old (a := b + 4) rfl (by omega) (ol_old (a := b + 3) rfl (by omega) (ol_old (a := b + 2) rfl (by omega) (ol_old (a := b + 1) rfl (by omega) (h)))))
theorem odX3_init {G : G2} {b t m : Nat} (hb : G.2.2.2 = b + 1) (h : ownL G b t m) : ownL (gX3_init G b) b 13 m := by
  obtain ⟨L, kd, ln, n⟩ := G
  cases hb
  exact ol_done (ol_old (a := b + 4) rfl (by omega) (ol_old (a := b + 3) rfl (by omega) (ol_old (a := b + 2) rfl (by omega) (ol_old (a := b + 1) rfl (by omega) (h)))))
theorem rnX3_init {R : R2} {b x : Nat} (hx : x < b) : rX3_init R b x = R x := by
  unfold rX3_init
  exact (up2_ne _ (by omega)).trans ((up2_ne _ (by omega)).trans ((up2_ne _ (by omega)).trans ((up2_ne _ (by omega)).trans (rfl))))
theorem vnX3_init {V : V2} {b x : Nat} (hx : x < b) : vX3_init V b x = V x := by
  unfold vX3_init
  exact (up2_ne _ (by omega)).trans ((up2_ne _ (by omega)).trans ((up2_ne _ (by omega)).trans ((up2_ne _ (by omega)).trans ((up2_ne _ (by omega)).trans ((va_up_ne _ _ (by omega)).trans ((va_up_ne _ _ (by omega)).trans ((va_up_ne _ _ (by omega)).trans ((va_up_ne _ _ (by omega)).trans ((up2_ne _ (by omega)).trans (rfl))))))))))
set_option maxHeartbeats 8000000 in
set_option maxRecDepth 100000 in
theorem kX3_init {l : Launch} {D : Dx} {L : List Nat} {kd ln : Nat → Nat} {V : V2} {R : R2} {b : Nat} (ho : own (L, kd, ln, b + 1) b 33) : Con l yX3_init cX3_init 1 none (rmN 1 4 24) D (L, kd, ln, b + 1) V R [.ref b] (none, vX3_init V b, rX3_init R b, gX3_init (L, kd, ln, b + 1) b, 4, 24) := by
  refine Con.mk RX3 (by decide) rfl (Nat.le_of_ble_eq_true rfl) (fun C _ hR hT _ _ hL hC hin => ?_)
  have h0 : ownL (L, kd, ln, b + 1) b 33 (ln b) := ⟨ho, rfl⟩
  have hb0 : R b = R b := rfl
  refine id (α := True → _) ?_ trivial
  refine g_aload_n hC dX3_init_0 (j := 0) rfl rfl ?_
  refine g_objI hC hR (Nat.le_of_ble_eq_true rfl) dX3_init_1 mlX3_3 (Nat.le_of_ble_eq_true rfl) ?_
  refine g_aload_n hC dX3_init_4 (j := 0) rfl rfl ?_
  refine g_iconst hC dX3_init_5 ic_0 ?_
  refine g_prI hC hin fw_3_0 rfl rfl (vp_nar_int _) rfl h0.1 dX3_init_6 flX3_9 ?_
  refine g_aload_n hC dX3_init_9 (j := 0) rfl rfl ?_
  refine g_bipush hC dX3_init_10 bc_6 ?_
  refine g_newI hC hR (m0 := 6) (by decide) (by decide) (Nat.le_of_ble_eq_true rfl) (Nat.le_of_ble_eq_true rfl) (Nat.le_of_ble_eq_true rfl) dX3_init_12 ac_i (a0 := (b + 1)) rfl ?_
  have h1 := ol_old (t := 1) (m := 6) (a := (b + 1)) rfl (by omega) h0
  have h2 := ol_new (G := (L, kd, ln, b + 1)) (t := 1) (m := 6) (a := (b + 1)) rfl
  refine g_prR hC hin fw_3_1 (by decide) rfl rfl rfl h1.1 dX3_init_14 flX3_15 ?_
  have hb3 := (up2_self (x := b) (k := 1) (v := some (b + 1))).trans (congrArg (fun r => va_up r 1 (some (b + 1))) hb0)
  refine g_aload_n hC dX3_init_17 (j := 0) rfl rfl ?_
  refine g_bipush hC dX3_init_18 bc_6 ?_
  refine g_newI hC hR (m0 := 6) (by decide) (by decide) (Nat.le_of_ble_eq_true rfl) (Nat.le_of_ble_eq_true rfl) (Nat.le_of_ble_eq_true rfl) dX3_init_20 ac_i (a0 := (b + 2)) rfl ?_
  have h4 := ol_old (t := 1) (m := 6) (a := (b + 2)) rfl (by omega) h1
  have h5 := ol_old (t := 1) (m := 6) (a := (b + 2)) rfl (by omega) h2
  have h6 := ol_new (G := (nwG (L, kd, ln, b + 1) 1 6)) (t := 1) (m := 6) (a := (b + 2)) rfl
  refine g_prR hC hin fw_3_2 (by decide) rfl rfl rfl h4.1 dX3_init_22 flX3_19 ?_
  have hb7 := (up2_self (x := b) (k := 2) (v := some (b + 2))).trans (congrArg (fun r => va_up r 2 (some (b + 2))) hb3)
  refine g_aload_n hC dX3_init_25 (j := 0) rfl rfl ?_
  refine g_bipush hC dX3_init_26 bc_6 ?_
  refine g_newI hC hR (m0 := 6) (by decide) (by decide) (Nat.le_of_ble_eq_true rfl) (Nat.le_of_ble_eq_true rfl) (Nat.le_of_ble_eq_true rfl) dX3_init_28 ac_i (a0 := (b + 3)) rfl ?_
  have h8 := ol_old (t := 1) (m := 6) (a := (b + 3)) rfl (by omega) h4
  have h9 := ol_old (t := 1) (m := 6) (a := (b + 3)) rfl (by omega) h5
  have h10 := ol_old (t := 1) (m := 6) (a := (b + 3)) rfl (by omega) h6
  have h11 := ol_new (G := (nwG (nwG (L, kd, ln, b + 1) 1 6) 1 6)) (t := 1) (m := 6) (a := (b + 3)) rfl
  refine g_prR hC hin fw_3_3 (by decide) rfl rfl rfl h8.1 dX3_init_30 flX3_22 ?_
  have hb12 := (up2_self (x := b) (k := 3) (v := some (b + 3))).trans (congrArg (fun r => va_up r 3 (some (b + 3))) hb7)
  refine g_aload_n hC dX3_init_33 (j := 0) rfl rfl ?_
  refine g_bipush hC dX3_init_34 bc_6 ?_
  refine g_newI hC hR (m0 := 6) (by decide) (by decide) (Nat.le_of_ble_eq_true rfl) (Nat.le_of_ble_eq_true rfl) (Nat.le_of_ble_eq_true rfl) dX3_init_36 ac_i (a0 := (b + 4)) rfl ?_
  have h13 := ol_old (t := 1) (m := 6) (a := (b + 4)) rfl (by omega) h8
  have h14 := ol_old (t := 1) (m := 6) (a := (b + 4)) rfl (by omega) h9
  have h15 := ol_old (t := 1) (m := 6) (a := (b + 4)) rfl (by omega) h10
  have h16 := ol_old (t := 1) (m := 6) (a := (b + 4)) rfl (by omega) h11
  have h17 := ol_new (G := (nwG (nwG (nwG (L, kd, ln, b + 1) 1 6) 1 6) 1 6)) (t := 1) (m := 6) (a := (b + 4)) rfl
  refine g_prR hC hin fw_3_4 (by decide) rfl rfl rfl h13.1 dX3_init_38 flX3_25 ?_
  have hb18 := (up2_self (x := b) (k := 4) (v := some (b + 4))).trans (congrArg (fun r => va_up r 4 (some (b + 4))) hb12)
  refine g_aload_n hC dX3_init_41 (j := 0) rfl rfl ?_
  refine g_iconst hC dX3_init_42 ic_0 ?_
  refine g_prI hC hin fw_3_5 rfl rfl (vp_nar_int _) rfl h13.1 dX3_init_43 flX3_28 ?_
  refine g_aload_n hC dX3_init_46 (j := 0) rfl rfl ?_
  refine g_iconst hC dX3_init_47 ic_0 ?_
  refine g_prI hC hin fw_3_6 rfl rfl (vp_nar_int _) rfl h13.1 dX3_init_48 flX3_31 ?_
  refine g_aload_n hC dX3_init_51 (j := 0) rfl rfl ?_
  refine g_iconst hC dX3_init_52 ic_0 ?_
  refine g_prI hC hin fw_3_7 rfl rfl (vp_nar_int _) rfl h13.1 dX3_init_53 flX3_34 ?_
  refine g_aload_n hC dX3_init_56 (j := 0) rfl rfl ?_
  refine g_iconst hC dX3_init_57 ic_0 ?_
  refine g_prI hC hin fw_3_8 rfl rfl (vp_nar_int _) rfl h13.1 dX3_init_58 flX3_37 ?_
  refine g_aload_n hC dX3_init_61 (j := 0) rfl rfl ?_
  refine g_iconst hC dX3_init_62 ic_0 ?_
  refine g_prI hC hin fw_3_9 rfl rfl (vp_nar_int _) rfl h13.1 dX3_init_63 flX3_40 ?_
  refine g_fin (a := b) (ci := 3) h13.1 (by decide) (fun k hk hne => ?_) ?_
  · refine (congrFun hb18 k).trans ?_
    match k, hk, hne with
    | 0, _, hne => exact absurd rfl hne
    | 1, _, _ => simp [va_up, offT]
    | 2, _, _ => simp [va_up, offT]
    | 3, _, _ => simp [va_up, offT]
    | 4, _, _ => simp [va_up, offT]
    | 5, _, hne => exact absurd rfl hne
    | 6, _, hne => exact absurd rfl hne
    | 7, _, hne => exact absurd rfl hne
    | 8, _, hne => exact absurd rfl hne
    | 9, _, hne => exact absurd rfl hne
    | k + 10, hk, _ => exact absurd hk (by simp [nfs])
  exact g_vretA hC hT (Nat.le_refl _) (Nat.le_refl _) dX3_init_66
def vX1_init (V : V2) (b : Nat) : V2 := (fillV (vX3_init (zV (up2 (zV (zV (zV (up2 (up2 (up2 (vX2_init (zV V (b + 1)) (b + 1)) b 1 12) b 2 0) b 3 1) (b + 6)) (b + 7)) (b + 8)) b 8 0) (b + 10)) (b + 10)) (b + 6) 16 9)
def rX1_init (R : R2) (b : Nat) : R2 := (up2 (rX3_init (zR (up2 (zR (up2 (up2 (up2 (up2 (rX2_init (zR R (b + 1)) (b + 1)) b 0 (some (b + 1))) b 4 (some (b + 6))) b 5 (some (b + 7))) b 6 (some (b + 8))) (b + 9)) b 7 (some (b + 9))) (b + 10)) (b + 10)) b 9 (some (b + 10)))
def gX1_init (G : G2) (b : Nat) : G2 := (finG (gX3_init (nwG (nwG (nwG (nwG (nwG (gX2_init (nwG G 32 0) (b + 1)) 1 16) 1 6) 1 6) 2 8) 33 0) (b + 10)) b 11)
theorem geX1_init (G : G2) (b : Nat) : GE G (gX1_init G b) := by
  simp only [gX1_init]
  exact ge_fin (GE.tr (ge_nw (ge_nw (ge_nw (ge_nw (ge_nw (GE.tr (ge_nw (GE.rf G)) (geX2_init _ _))))))) (geX3_init _ _))
theorem olX1_init {G : G2} {b x t m : Nat} (hb : G.2.2.2 = b + 1) (hx : x < b) (h : ownL G x t m) : ownL (gX1_init G b) x t m := by
  obtain ⟨L, kd, ln, n⟩ := G
  cases hb
  exact ol_fin (by omega) (olX3_init (b := (b + 10)) rfl (by omega) (ol_old (a := b + 10) rfl (by omega) (ol_old (a := b + 9) rfl (by omega) (ol_old (a := b + 8) rfl (by omega) (ol_old (a := b + 7) rfl (by omega) (ol_old (a := b + 6) rfl (by omega) (olX2_init (b := (b + 1)) rfl (by omega) (ol_old (a := b + 1) rfl (by omega) (h)))))))))
theorem odX1_init {G : G2} {b t m : Nat} (hb : G.2.2.2 = b + 1) (h : ownL G b t m) : ownL (gX1_init G b) b 11 m := by
  obtain ⟨L, kd, ln, n⟩ := G
  cases hb
  exact ol_done (olX3_init (b := (b + 10)) rfl (by omega) (ol_old (a := b + 10) rfl (by omega) (ol_old (a := b + 9) rfl (by omega) (ol_old (a := b + 8) rfl (by omega) (ol_old (a := b + 7) rfl (by omega) (ol_old (a := b + 6) rfl (by omega) (olX2_init (b := (b + 1)) rfl (by omega) (ol_old (a := b + 1) rfl (by omega) (h)))))))))
theorem rnX1_init {R : R2} {b x : Nat} (hx : x < b) : rX1_init R b x = R x := by
  unfold rX1_init
  exact (up2_ne _ (by omega)).trans ((rnX3_init (by omega)).trans ((va_up_ne _ _ (by omega)).trans ((up2_ne _ (by omega)).trans ((va_up_ne _ _ (by omega)).trans ((up2_ne _ (by omega)).trans ((up2_ne _ (by omega)).trans ((up2_ne _ (by omega)).trans ((up2_ne _ (by omega)).trans ((rnX2_init (by omega)).trans ((va_up_ne _ _ (by omega)).trans (rfl)))))))))))
theorem vnX1_init {V : V2} {b x : Nat} (hx : x < b) : vX1_init V b x = V x := by
  unfold vX1_init
  exact (va_up_ne _ _ (by omega)).trans ((vnX3_init (by omega)).trans ((va_up_ne _ _ (by omega)).trans ((up2_ne _ (by omega)).trans ((va_up_ne _ _ (by omega)).trans ((va_up_ne _ _ (by omega)).trans ((va_up_ne _ _ (by omega)).trans ((up2_ne _ (by omega)).trans ((up2_ne _ (by omega)).trans ((up2_ne _ (by omega)).trans ((vnX2_init (by omega)).trans ((va_up_ne _ _ (by omega)).trans (rfl))))))))))))
set_option maxHeartbeats 8000000 in
set_option maxRecDepth 100000 in
theorem kX1_init {l : Launch} {D : Dx} {L : List Nat} {kd ln : Nat → Nat} {V : V2} {R : R2} {b : Nat} (ho : own (L, kd, ln, b + 1) b 31) : Con l yX1_init cX1_init 1 none (rmN 2 14 101) D (L, kd, ln, b + 1) V R [.ref b] (none, vX1_init V b, rX1_init R b, gX1_init (L, kd, ln, b + 1) b, 14, 101) := by
  refine Con.mk RX1 (by decide) rfl (Nat.le_of_ble_eq_true rfl) (fun C _ hR hT _ _ hL hC hin => ?_)
  have h0 : ownL (L, kd, ln, b + 1) b 31 (ln b) := ⟨ho, rfl⟩
  have hb0 : R b = R b := rfl
  refine id (α := True → _) ?_ trivial
  refine g_aload_n hC dX1_init_0 (j := 0) rfl rfl ?_
  refine g_objI hC hR (Nat.le_of_ble_eq_true rfl) dX1_init_1 mlX1_3 (Nat.le_of_ble_eq_true rfl) ?_
  refine g_aload_n hC dX1_init_4 (j := 0) rfl rfl ?_
  refine g_new hC hR fn_2 (Nat.le_of_ble_eq_true rfl) (Nat.le_of_ble_eq_true rfl) dX1_init_5 klX1_9 (a0 := (b + 1)) rfl ?_
  have h1 := ol_old (t := 32) (m := 0) (a := (b + 1)) rfl (by omega) h0
  have h2 := ol_new (G := (L, kd, ln, b + 1)) (t := 32) (m := 0) (a := (b + 1)) rfl
  have hb3 := (va_up_ne (k := (b + 1)) _ (fun _ => (none : Option Nat)) (by omega)).trans hb0
  refine g_dup hC dX1_init_8 rfl ?_
  refine g_runIN hC hR ⟨Nat.le_of_ble_eq_true rfl, Nat.le_of_ble_eq_true rfl⟩ mwX2_init rfl miX2_init mlX1_11 (kX2_init (b := (b + 1)) h2.1) (Nat.le_of_ble_eq_true rfl) rfl (av := []) (st := [.ref (b + 1), .ref b]) rfl (Nat.le_of_ble_eq_true rfl) rfl rfl (geX2_init _ _) dX1_init_9 ?_
  have h4 := olX2_init (b := (b + 1)) rfl (by omega) h1
  have h5 := odX2_init (b := (b + 1)) rfl h2
  have hb6 := (rnX2_init (b := (b + 1)) (by omega)).trans hb3
  refine g_prR hC hin fw_1_0 (by decide) rfl rfl rfl h4.1 dX1_init_12 flX1_12 ?_
  have hb7 := (up2_self (x := b) (k := 0) (v := some (b + 1))).trans (congrArg (fun r => va_up r 0 (some (b + 1))) hb6)
  refine g_aload_n hC dX1_init_15 (j := 0) rfl rfl ?_
  refine g_bipush hC dX1_init_16 bc_12 ?_
  refine g_prI hC hin fw_1_1 rfl rfl (vp_nar_int _) rfl h4.1 dX1_init_18 flX1_18 ?_
  refine g_aload_n hC dX1_init_21 (j := 0) rfl rfl ?_
  refine g_iconst hC dX1_init_22 ic_0 ?_
  refine g_prI hC hin fw_1_2 rfl rfl (vp_nar_int _) rfl h4.1 dX1_init_23 flX1_22 ?_
  refine g_aload_n hC dX1_init_26 (j := 0) rfl rfl ?_
  refine g_iconst hC dX1_init_27 ic_1 ?_
  refine g_prI hC hin fw_1_3 rfl rfl (vp_nar_int _) rfl h4.1 dX1_init_28 flX1_25 ?_
  refine g_aload_n hC dX1_init_31 (j := 0) rfl rfl ?_
  refine g_bipush hC dX1_init_32 bc_16 ?_
  refine g_newI hC hR (m0 := 16) (by decide) (by decide) (Nat.le_of_ble_eq_true rfl) (Nat.le_of_ble_eq_true rfl) (Nat.le_of_ble_eq_true rfl) dX1_init_34 ac_i (a0 := (b + 6)) rfl ?_
  have h8 := ol_old (t := 1) (m := 16) (a := (b + 6)) rfl (by omega) h4
  have h9 := ol_old (t := 1) (m := 16) (a := (b + 6)) rfl (by omega) h5
  have h10 := ol_new (G := (gX2_init (nwG (L, kd, ln, b + 1) 32 0) (b + 1))) (t := 1) (m := 16) (a := (b + 6)) rfl
  refine g_prR hC hin fw_1_4 (by decide) rfl rfl rfl h8.1 dX1_init_36 flX1_28 ?_
  have hb11 := (up2_self (x := b) (k := 4) (v := some (b + 6))).trans (congrArg (fun r => va_up r 4 (some (b + 6))) hb7)
  refine g_aload_n hC dX1_init_39 (j := 0) rfl rfl ?_
  refine g_bipush hC dX1_init_40 bc_6 ?_
  refine g_newI hC hR (m0 := 6) (by decide) (by decide) (Nat.le_of_ble_eq_true rfl) (Nat.le_of_ble_eq_true rfl) (Nat.le_of_ble_eq_true rfl) dX1_init_42 ac_i (a0 := (b + 7)) rfl ?_
  have h12 := ol_old (t := 1) (m := 6) (a := (b + 7)) rfl (by omega) h8
  have h13 := ol_old (t := 1) (m := 6) (a := (b + 7)) rfl (by omega) h9
  have h14 := ol_old (t := 1) (m := 6) (a := (b + 7)) rfl (by omega) h10
  have h15 := ol_new (G := (nwG (gX2_init (nwG (L, kd, ln, b + 1) 32 0) (b + 1)) 1 16)) (t := 1) (m := 6) (a := (b + 7)) rfl
  refine g_prR hC hin fw_1_5 (by decide) rfl rfl rfl h12.1 dX1_init_44 flX1_32 ?_
  have hb16 := (up2_self (x := b) (k := 5) (v := some (b + 7))).trans (congrArg (fun r => va_up r 5 (some (b + 7))) hb11)
  refine g_aload_n hC dX1_init_47 (j := 0) rfl rfl ?_
  refine g_bipush hC dX1_init_48 bc_6 ?_
  refine g_newI hC hR (m0 := 6) (by decide) (by decide) (Nat.le_of_ble_eq_true rfl) (Nat.le_of_ble_eq_true rfl) (Nat.le_of_ble_eq_true rfl) dX1_init_50 ac_i (a0 := (b + 8)) rfl ?_
  have h17 := ol_old (t := 1) (m := 6) (a := (b + 8)) rfl (by omega) h12
  have h18 := ol_old (t := 1) (m := 6) (a := (b + 8)) rfl (by omega) h13
  have h19 := ol_old (t := 1) (m := 6) (a := (b + 8)) rfl (by omega) h14
  have h20 := ol_old (t := 1) (m := 6) (a := (b + 8)) rfl (by omega) h15
  have h21 := ol_new (G := (nwG (nwG (gX2_init (nwG (L, kd, ln, b + 1) 32 0) (b + 1)) 1 16) 1 6)) (t := 1) (m := 6) (a := (b + 8)) rfl
  refine g_prR hC hin fw_1_6 (by decide) rfl rfl rfl h17.1 dX1_init_52 flX1_35 ?_
  have hb22 := (up2_self (x := b) (k := 6) (v := some (b + 8))).trans (congrArg (fun r => va_up r 6 (some (b + 8))) hb16)
  refine g_aload_n hC dX1_init_55 (j := 0) rfl rfl ?_
  refine g_bipush hC dX1_init_56 bc_8 ?_
  refine g_newR hC hR (t := 2) (m0 := 8) ⟨by decide, by decide⟩ rfl (by decide) (by decide) (Nat.le_of_ble_eq_true rfl) (Nat.le_of_ble_eq_true rfl) (Nat.le_of_ble_eq_true rfl) dX1_init_58 klX1_38 ao_2 (a0 := (b + 9)) rfl ?_
  have h23 := ol_old (t := 2) (m := 8) (a := (b + 9)) rfl (by omega) h17
  have h24 := ol_old (t := 2) (m := 8) (a := (b + 9)) rfl (by omega) h18
  have h25 := ol_old (t := 2) (m := 8) (a := (b + 9)) rfl (by omega) h19
  have h26 := ol_old (t := 2) (m := 8) (a := (b + 9)) rfl (by omega) h20
  have h27 := ol_old (t := 2) (m := 8) (a := (b + 9)) rfl (by omega) h21
  have h28 := ol_new (G := (nwG (nwG (nwG (gX2_init (nwG (L, kd, ln, b + 1) 32 0) (b + 1)) 1 16) 1 6) 1 6)) (t := 2) (m := 8) (a := (b + 9)) rfl
  have hb29 := (va_up_ne (k := (b + 9)) _ (fun _ => (none : Option Nat)) (by omega)).trans hb22
  refine g_prR hC hin fw_1_7 (by decide) rfl rfl rfl h23.1 dX1_init_61 flX1_40 ?_
  have hb30 := (up2_self (x := b) (k := 7) (v := some (b + 9))).trans (congrArg (fun r => va_up r 7 (some (b + 9))) hb29)
  refine g_aload_n hC dX1_init_64 (j := 0) rfl rfl ?_
  refine g_iconst hC dX1_init_65 ic_0 ?_
  refine g_prI hC hin fw_1_8 rfl rfl (vp_nar_int _) rfl h23.1 dX1_init_66 flX1_44 ?_
  refine g_aload_n hC dX1_init_69 (j := 0) rfl rfl ?_
  refine g_new hC hR fn_3 (Nat.le_of_ble_eq_true rfl) (Nat.le_of_ble_eq_true rfl) dX1_init_70 klX1_47 (a0 := (b + 10)) rfl ?_
  have h31 := ol_old (t := 33) (m := 0) (a := (b + 10)) rfl (by omega) h23
  have h32 := ol_old (t := 33) (m := 0) (a := (b + 10)) rfl (by omega) h24
  have h33 := ol_old (t := 33) (m := 0) (a := (b + 10)) rfl (by omega) h25
  have h34 := ol_old (t := 33) (m := 0) (a := (b + 10)) rfl (by omega) h26
  have h35 := ol_old (t := 33) (m := 0) (a := (b + 10)) rfl (by omega) h27
  have h36 := ol_old (t := 33) (m := 0) (a := (b + 10)) rfl (by omega) h28
  have h37 := ol_new (G := (nwG (nwG (nwG (nwG (gX2_init (nwG (L, kd, ln, b + 1) 32 0) (b + 1)) 1 16) 1 6) 1 6) 2 8)) (t := 33) (m := 0) (a := (b + 10)) rfl
  have hb38 := (va_up_ne (k := (b + 10)) _ (fun _ => (none : Option Nat)) (by omega)).trans hb30
  refine g_dup hC dX1_init_73 rfl ?_
  refine g_runIN hC hR ⟨Nat.le_of_ble_eq_true rfl, Nat.le_of_ble_eq_true rfl⟩ mwX3_init rfl miX3_init mlX1_49 (kX3_init (b := (b + 10)) h37.1) (Nat.le_of_ble_eq_true rfl) rfl (av := []) (st := [.ref (b + 10), .ref b]) rfl (Nat.le_of_ble_eq_true rfl) rfl rfl (geX3_init _ _) dX1_init_74 ?_
  have h39 := olX3_init (b := (b + 10)) rfl (by omega) h31
  have h40 := olX3_init (b := (b + 10)) rfl (by omega) h32
  have h41 := olX3_init (b := (b + 10)) rfl (by omega) h33
  have h42 := olX3_init (b := (b + 10)) rfl (by omega) h34
  have h43 := olX3_init (b := (b + 10)) rfl (by omega) h35
  have h44 := olX3_init (b := (b + 10)) rfl (by omega) h36
  have h45 := odX3_init (b := (b + 10)) rfl h37
  have hb46 := (rnX3_init (b := (b + 10)) (by omega)).trans hb38
  refine g_prR hC hin fw_1_9 (by decide) rfl rfl rfl h39.1 dX1_init_77 flX1_50 ?_
  have hb47 := (up2_self (x := b) (k := 9) (v := some (b + 10))).trans (congrArg (fun r => va_up r 9 (some (b + 10))) hb46)
  refine g_aload_n hC dX1_init_80 (j := 0) rfl rfl ?_
  refine g_getW hC fr_1_4 h39.1 (b := (b + 6)) ((congrFun hb47 4).trans (by simp [va_up])) dX1_init_81 flX1_28 ?_
  refine g_bipush hC dX1_init_84 bc_9 ?_
  refine fun _ => g_runS hC hR ⟨Nat.le_of_ble_eq_true rfl, Nat.le_of_ble_eq_true rfl⟩ mwJ7_fill_53178 ms_J7_fill_53178 mlX1_54 (kJ7_fill_53178 (n := 100) h41.1 (fill_p (m := 16) h41.2 (by decide) (by decide))) (Nat.le_of_ble_eq_true rfl) rfl (st := []) rfl (Nat.le_of_ble_eq_true rfl) rfl (GE.rf _) dX1_init_86 ?_
  refine id (α := True → _) ?_ trivial
  refine g_fin (a := b) (ci := 1) h39.1 (by decide) (fun k hk hne => ?_) ?_
  · refine (congrFun hb47 k).trans ?_
    match k, hk, hne with
    | 0, _, _ => simp [va_up, offT]
    | 1, _, hne => exact absurd rfl hne
    | 2, _, hne => exact absurd rfl hne
    | 3, _, hne => exact absurd rfl hne
    | 4, _, _ => simp [va_up, offT]
    | 5, _, _ => simp [va_up, offT]
    | 6, _, _ => simp [va_up, offT]
    | 7, _, _ => simp [va_up, offT]
    | 8, _, hne => exact absurd rfl hne
    | 9, _, _ => simp [va_up, offT]
    | k + 10, hk, _ => exact absurd hk (by simp [nfs])
  exact g_vretA hC hT (Nat.le_refl _) (Nat.le_refl _) dX1_init_89
def vX0_init (V : V2) (b : Nat) : V2 := (up2 (up2 (up2 (up2 (up2 (zV V (b + 1)) b 1 0) b 2 0) b 3 0) b 4 0) b 5 0)
def rX0_init (R : R2) (b : Nat) : R2 := (up2 R b 0 (some (b + 1)))
def gX0_init (G : G2) (b : Nat) : G2 := (finG (nwG G 1 30) b 10)
theorem geX0_init (G : G2) (b : Nat) : GE G (gX0_init G b) := by
  simp only [gX0_init]
  exact ge_fin (ge_nw (GE.rf G))
theorem olX0_init {G : G2} {b x t m : Nat} (hb : G.2.2.2 = b + 1) (hx : x < b) (h : ownL G x t m) : ownL (gX0_init G b) x t m := by
  obtain ⟨L, kd, ln, n⟩ := G
  cases hb
  exact ol_fin (by omega) (ol_old (a := b + 1) rfl (by omega) (h))
theorem odX0_init {G : G2} {b t m : Nat} (hb : G.2.2.2 = b + 1) (h : ownL G b t m) : ownL (gX0_init G b) b 10 m := by
  obtain ⟨L, kd, ln, n⟩ := G
  cases hb
  exact ol_done (ol_old (a := b + 1) rfl (by omega) (h))
theorem rnX0_init {R : R2} {b x : Nat} (hx : x < b) : rX0_init R b x = R x := by
  unfold rX0_init
  exact (up2_ne _ (by omega)).trans (rfl)
theorem vnX0_init {V : V2} {b x : Nat} (hx : x < b) : vX0_init V b x = V x := by
  unfold vX0_init
  exact (up2_ne _ (by omega)).trans ((up2_ne _ (by omega)).trans ((up2_ne _ (by omega)).trans ((up2_ne _ (by omega)).trans ((up2_ne _ (by omega)).trans ((va_up_ne _ _ (by omega)).trans (rfl))))))
set_option maxHeartbeats 8000000 in
set_option maxRecDepth 100000 in
theorem kX0_init {l : Launch} {D : Dx} {L : List Nat} {kd ln : Nat → Nat} {V : V2} {R : R2} {b : Nat} (ho : own (L, kd, ln, b + 1) b 30) : Con l yX0_init cX0_init 1 none (rmN 1 1 30) D (L, kd, ln, b + 1) V R [.ref b] (none, vX0_init V b, rX0_init R b, gX0_init (L, kd, ln, b + 1) b, 1, 30) := by
  refine Con.mk RX0 (by decide) rfl (Nat.le_of_ble_eq_true rfl) (fun C _ hR hT _ _ hL hC hin => ?_)
  have h0 : ownL (L, kd, ln, b + 1) b 30 (ln b) := ⟨ho, rfl⟩
  have hb0 : R b = R b := rfl
  refine id (α := True → _) ?_ trivial
  refine g_aload_n hC dX0_init_0 (j := 0) rfl rfl ?_
  refine g_objI hC hR (Nat.le_of_ble_eq_true rfl) dX0_init_1 mlX0_3 (Nat.le_of_ble_eq_true rfl) ?_
  refine g_aload_n hC dX0_init_4 (j := 0) rfl rfl ?_
  refine g_bipush hC dX0_init_5 bc_30 ?_
  refine g_newI hC hR (m0 := 30) (by decide) (by decide) (Nat.le_of_ble_eq_true rfl) (Nat.le_of_ble_eq_true rfl) (Nat.le_of_ble_eq_true rfl) dX0_init_7 ac_i (a0 := (b + 1)) rfl ?_
  have h1 := ol_old (t := 1) (m := 30) (a := (b + 1)) rfl (by omega) h0
  have h2 := ol_new (G := (L, kd, ln, b + 1)) (t := 1) (m := 30) (a := (b + 1)) rfl
  refine g_prR hC hin fw_0_0 (by decide) rfl rfl rfl h1.1 dX0_init_9 flX0_9 ?_
  have hb3 := (up2_self (x := b) (k := 0) (v := some (b + 1))).trans (congrArg (fun r => va_up r 0 (some (b + 1))) hb0)
  refine g_aload_n hC dX0_init_12 (j := 0) rfl rfl ?_
  refine g_iconst hC dX0_init_13 ic_0 ?_
  refine g_prI hC hin fw_0_1 rfl rfl (vp_nar_int _) rfl h1.1 dX0_init_14 flX0_15 ?_
  refine g_aload_n hC dX0_init_17 (j := 0) rfl rfl ?_
  refine g_iconst hC dX0_init_18 ic_0 ?_
  refine g_prI hC hin fw_0_2 rfl rfl (vp_nar_int _) rfl h1.1 dX0_init_19 flX0_19 ?_
  refine g_aload_n hC dX0_init_22 (j := 0) rfl rfl ?_
  refine g_iconst hC dX0_init_23 ic_0 ?_
  refine g_prI hC hin fw_0_3 rfl rfl (vp_nar_int _) rfl h1.1 dX0_init_24 flX0_22 ?_
  refine g_aload_n hC dX0_init_27 (j := 0) rfl rfl ?_
  refine g_iconst hC dX0_init_28 ic_0 ?_
  refine g_prI hC hin fw_0_4 rfl rfl (vp_nar_int _) rfl h1.1 dX0_init_29 flX0_25 ?_
  refine g_aload_n hC dX0_init_32 (j := 0) rfl rfl ?_
  refine g_iconst hC dX0_init_33 ic_0 ?_
  refine g_prI hC hin fw_0_5 rfl rfl rfl rfl h1.1 dX0_init_34 flX0_28 ?_
  refine g_fin (a := b) (ci := 0) h1.1 (by decide) (fun k hk hne => ?_) ?_
  · refine (congrFun hb3 k).trans ?_
    match k, hk, hne with
    | 0, _, _ => simp [va_up, offT]
    | 1, _, hne => exact absurd rfl hne
    | 2, _, hne => exact absurd rfl hne
    | 3, _, hne => exact absurd rfl hne
    | 4, _, hne => exact absurd rfl hne
    | 5, _, hne => exact absurd rfl hne
    | k + 6, hk, _ => exact absurd hk (by simp [nfs])
  exact g_vretA hC hT (Nat.le_refl _) (Nat.le_refl _) dX0_init_37
def vX5_init (V : V2) (b : Nat) : V2 := (up2 (up2 (zV (up2 (up2 (up2 (up2 (up2 (zV V (b + 1)) b 1 0) b 2 0) b 3 0) b 4 0) b 5 (-1)) (b + 2)) b 7 0) b 9 0)
def rX5_init (R : R2) (b : Nat) : R2 := (up2 (zR (up2 (up2 R b 0 (some (b + 1))) b 6 (some (b + 2))) (b + 3)) b 8 (some (b + 3)))
def gX5_init (G : G2) (b : Nat) : G2 := (finG (nwG (nwG (nwG G 1 200) 1 300) 2 8) b 15)
theorem geX5_init (G : G2) (b : Nat) : GE G (gX5_init G b) := by
  simp only [gX5_init]
  exact ge_fin (ge_nw (ge_nw (ge_nw (GE.rf G))))
theorem olX5_init {G : G2} {b x t m : Nat} (hb : G.2.2.2 = b + 1) (hx : x < b) (h : ownL G x t m) : ownL (gX5_init G b) x t m := by
  obtain ⟨L, kd, ln, n⟩ := G
  cases hb
  exact ol_fin (by omega) (ol_old (a := b + 3) rfl (by omega) (ol_old (a := b + 2) rfl (by omega) (ol_old (a := b + 1) rfl (by omega) (h))))
theorem odX5_init {G : G2} {b t m : Nat} (hb : G.2.2.2 = b + 1) (h : ownL G b t m) : ownL (gX5_init G b) b 15 m := by
  obtain ⟨L, kd, ln, n⟩ := G
  cases hb
  exact ol_done (ol_old (a := b + 3) rfl (by omega) (ol_old (a := b + 2) rfl (by omega) (ol_old (a := b + 1) rfl (by omega) (h))))
theorem rnX5_init {R : R2} {b x : Nat} (hx : x < b) : rX5_init R b x = R x := by
  unfold rX5_init
  exact (up2_ne _ (by omega)).trans ((va_up_ne _ _ (by omega)).trans ((up2_ne _ (by omega)).trans ((up2_ne _ (by omega)).trans (rfl))))
theorem vnX5_init {V : V2} {b x : Nat} (hx : x < b) : vX5_init V b x = V x := by
  unfold vX5_init
  exact (up2_ne _ (by omega)).trans ((up2_ne _ (by omega)).trans ((va_up_ne _ _ (by omega)).trans ((up2_ne _ (by omega)).trans ((up2_ne _ (by omega)).trans ((up2_ne _ (by omega)).trans ((up2_ne _ (by omega)).trans ((up2_ne _ (by omega)).trans ((va_up_ne _ _ (by omega)).trans (rfl)))))))))
set_option maxHeartbeats 8000000 in
set_option maxRecDepth 100000 in
theorem kX5_init {l : Launch} {D : Dx} {L : List Nat} {kd ln : Nat → Nat} {V : V2} {R : R2} {b : Nat} (ho : own (L, kd, ln, b + 1) b 35) : Con l yX5_init cX5_init 1 none (rmN 1 3 508) D (L, kd, ln, b + 1) V R [.ref b] (none, vX5_init V b, rX5_init R b, gX5_init (L, kd, ln, b + 1) b, 3, 508) := by
  refine Con.mk RX5 (by decide) rfl (Nat.le_of_ble_eq_true rfl) (fun C _ hR hT _ _ hL hC hin => ?_)
  have h0 : ownL (L, kd, ln, b + 1) b 35 (ln b) := ⟨ho, rfl⟩
  have hb0 : R b = R b := rfl
  refine id (α := True → _) ?_ trivial
  refine g_aload_n hC dX5_init_0 (j := 0) rfl rfl ?_
  refine g_objI hC hR (Nat.le_of_ble_eq_true rfl) dX5_init_1 mlX5_3 (Nat.le_of_ble_eq_true rfl) ?_
  refine g_aload_n hC dX5_init_4 (j := 0) rfl rfl ?_
  refine g_sipush hC dX5_init_5 sc_200 ?_
  refine g_newI hC hR (m0 := 200) (by decide) (by decide) (Nat.le_of_ble_eq_true rfl) (Nat.le_of_ble_eq_true rfl) (Nat.le_of_ble_eq_true rfl) dX5_init_8 ac_i (a0 := (b + 1)) rfl ?_
  have h1 := ol_old (t := 1) (m := 200) (a := (b + 1)) rfl (by omega) h0
  have h2 := ol_new (G := (L, kd, ln, b + 1)) (t := 1) (m := 200) (a := (b + 1)) rfl
  refine g_prR hC hin fw_5_0 (by decide) rfl rfl rfl h1.1 dX5_init_10 flX5_9 ?_
  have hb3 := (up2_self (x := b) (k := 0) (v := some (b + 1))).trans (congrArg (fun r => va_up r 0 (some (b + 1))) hb0)
  refine g_aload_n hC dX5_init_13 (j := 0) rfl rfl ?_
  refine g_iconst hC dX5_init_14 ic_0 ?_
  refine g_prI hC hin fw_5_1 rfl rfl (vp_nar_int _) rfl h1.1 dX5_init_15 flX5_15 ?_
  refine g_aload_n hC dX5_init_18 (j := 0) rfl rfl ?_
  refine g_iconst hC dX5_init_19 ic_0 ?_
  refine g_prI hC hin fw_5_2 rfl rfl (vp_nar_int _) rfl h1.1 dX5_init_20 flX5_19 ?_
  refine g_aload_n hC dX5_init_23 (j := 0) rfl rfl ?_
  refine g_iconst hC dX5_init_24 ic_0 ?_
  refine g_prI hC hin fw_5_3 rfl rfl (vp_nar_int _) rfl h1.1 dX5_init_25 flX5_22 ?_
  refine g_aload_n hC dX5_init_28 (j := 0) rfl rfl ?_
  refine g_iconst hC dX5_init_29 ic_0 ?_
  refine g_prI hC hin fw_5_4 rfl rfl (vp_nar_int _) rfl h1.1 dX5_init_30 flX5_25 ?_
  refine g_aload_n hC dX5_init_33 (j := 0) rfl rfl ?_
  refine g_iconst hC dX5_init_34 ic_m1 ?_
  refine g_prI hC hin fw_5_5 rfl rfl (vp_nar_int _) rfl h1.1 dX5_init_35 flX5_28 ?_
  refine g_aload_n hC dX5_init_38 (j := 0) rfl rfl ?_
  refine g_sipush hC dX5_init_39 sc_300 ?_
  refine g_newI hC hR (m0 := 300) (by decide) (by decide) (Nat.le_of_ble_eq_true rfl) (Nat.le_of_ble_eq_true rfl) (Nat.le_of_ble_eq_true rfl) dX5_init_42 ac_i (a0 := (b + 2)) rfl ?_
  have h4 := ol_old (t := 1) (m := 300) (a := (b + 2)) rfl (by omega) h1
  have h5 := ol_old (t := 1) (m := 300) (a := (b + 2)) rfl (by omega) h2
  have h6 := ol_new (G := (nwG (L, kd, ln, b + 1) 1 200)) (t := 1) (m := 300) (a := (b + 2)) rfl
  refine g_prR hC hin fw_5_6 (by decide) rfl rfl rfl h4.1 dX5_init_44 flX5_33 ?_
  have hb7 := (up2_self (x := b) (k := 6) (v := some (b + 2))).trans (congrArg (fun r => va_up r 6 (some (b + 2))) hb3)
  refine g_aload_n hC dX5_init_47 (j := 0) rfl rfl ?_
  refine g_iconst hC dX5_init_48 ic_0 ?_
  refine g_prI hC hin fw_5_7 rfl rfl (vp_nar_int _) rfl h4.1 dX5_init_49 flX5_36 ?_
  refine g_aload_n hC dX5_init_52 (j := 0) rfl rfl ?_
  refine g_bipush hC dX5_init_53 bc_8 ?_
  refine g_newR hC hR (t := 2) (m0 := 8) ⟨by decide, by decide⟩ rfl (by decide) (by decide) (Nat.le_of_ble_eq_true rfl) (Nat.le_of_ble_eq_true rfl) (Nat.le_of_ble_eq_true rfl) dX5_init_55 klX5_31 ao_2 (a0 := (b + 3)) rfl ?_
  have h8 := ol_old (t := 2) (m := 8) (a := (b + 3)) rfl (by omega) h4
  have h9 := ol_old (t := 2) (m := 8) (a := (b + 3)) rfl (by omega) h5
  have h10 := ol_old (t := 2) (m := 8) (a := (b + 3)) rfl (by omega) h6
  have h11 := ol_new (G := (nwG (nwG (L, kd, ln, b + 1) 1 200) 1 300)) (t := 2) (m := 8) (a := (b + 3)) rfl
  have hb12 := (va_up_ne (k := (b + 3)) _ (fun _ => (none : Option Nat)) (by omega)).trans hb7
  refine g_prR hC hin fw_5_8 (by decide) rfl rfl rfl h8.1 dX5_init_58 flX5_39 ?_
  have hb13 := (up2_self (x := b) (k := 8) (v := some (b + 3))).trans (congrArg (fun r => va_up r 8 (some (b + 3))) hb12)
  refine g_aload_n hC dX5_init_61 (j := 0) rfl rfl ?_
  refine g_iconst hC dX5_init_62 ic_0 ?_
  refine g_prI hC hin fw_5_9 rfl rfl (vp_nar_int _) rfl h8.1 dX5_init_63 flX5_43 ?_
  refine g_fin (a := b) (ci := 5) h8.1 (by decide) (fun k hk hne => ?_) ?_
  · refine (congrFun hb13 k).trans ?_
    match k, hk, hne with
    | 0, _, _ => simp [va_up, offT]
    | 1, _, hne => exact absurd rfl hne
    | 2, _, hne => exact absurd rfl hne
    | 3, _, hne => exact absurd rfl hne
    | 4, _, hne => exact absurd rfl hne
    | 5, _, hne => exact absurd rfl hne
    | 6, _, _ => simp [va_up, offT]
    | 7, _, hne => exact absurd rfl hne
    | 8, _, _ => simp [va_up, offT]
    | 9, _, hne => exact absurd rfl hne
    | k + 10, hk, _ => exact absurd hk (by simp [nfs])
  exact g_vretA hC hT (Nat.le_refl _) (Nat.le_refl _) dX5_init_66
def vX6_init (V : V2) (b : Nat) : V2 := (vX2_init (zV (vX2_init (zV (vX2_init (zV (vX2_init (zV (vX2_init (zV (up2 (up2 (up2 (up2 (up2 (up2 (zV (up2 (zV V (b + 2)) b 2 0) (b + 3)) b 4 0) b 5 0) b 6 0) b 7 (-3)) b 8 0) b 9 0) (b + 4)) (b + 4)) (b + 9)) (b + 9)) (b + 14)) (b + 14)) (b + 19)) (b + 19)) (b + 24)) (b + 24))
def rX6_init (R : R2) (b : Nat) : R2 := (up2 (rX2_init (zR (up2 (rX2_init (zR (up2 (rX2_init (zR (up2 (rX2_init (zR (up2 (rX2_init (zR (up2 (up2 (up2 (zR R (b + 1)) b 0 (some (b + 1))) b 1 (some (b + 2))) b 3 (some (b + 3))) (b + 4)) (b + 4)) (b + 1) 0 (some (b + 4))) (b + 9)) (b + 9)) (b + 1) 1 (some (b + 9))) (b + 14)) (b + 14)) (b + 1) 2 (some (b + 14))) (b + 19)) (b + 19)) (b + 1) 3 (some (b + 19))) (b + 24)) (b + 24)) (b + 1) 4 (some (b + 24)))
def gX6_init (G : G2) (b : Nat) : G2 := (finG (gX2_init (nwG (gX2_init (nwG (gX2_init (nwG (gX2_init (nwG (gX2_init (nwG (nwG (nwG (nwG G 4 5) 1 4) 1 4) 32 0) (b + 4)) 32 0) (b + 9)) 32 0) (b + 14)) 32 0) (b + 19)) 32 0) (b + 24)) b 16)
theorem geX6_init (G : G2) (b : Nat) : GE G (gX6_init G b) := by
  simp only [gX6_init]
  exact ge_fin (GE.tr (ge_nw (GE.tr (ge_nw (GE.tr (ge_nw (GE.tr (ge_nw (GE.tr (ge_nw (ge_nw (ge_nw (ge_nw (GE.rf G))))) (geX2_init _ _))) (geX2_init _ _))) (geX2_init _ _))) (geX2_init _ _))) (geX2_init _ _))
theorem olX6_init {G : G2} {b x t m : Nat} (hb : G.2.2.2 = b + 1) (hx : x < b) (h : ownL G x t m) : ownL (gX6_init G b) x t m := by
  obtain ⟨L, kd, ln, n⟩ := G
  cases hb
  exact ol_fin (by omega) (olX2_init (b := (b + 24)) rfl (by omega) (ol_old (a := b + 24) rfl (by omega) (olX2_init (b := (b + 19)) rfl (by omega) (ol_old (a := b + 19) rfl (by omega) (olX2_init (b := (b + 14)) rfl (by omega) (ol_old (a := b + 14) rfl (by omega) (olX2_init (b := (b + 9)) rfl (by omega) (ol_old (a := b + 9) rfl (by omega) (olX2_init (b := (b + 4)) rfl (by omega) (ol_old (a := b + 4) rfl (by omega) (ol_old (a := b + 3) rfl (by omega) (ol_old (a := b + 2) rfl (by omega) (ol_old (a := b + 1) rfl (by omega) (h))))))))))))))
theorem odX6_init {G : G2} {b t m : Nat} (hb : G.2.2.2 = b + 1) (h : ownL G b t m) : ownL (gX6_init G b) b 16 m := by
  obtain ⟨L, kd, ln, n⟩ := G
  cases hb
  exact ol_done (olX2_init (b := (b + 24)) rfl (by omega) (ol_old (a := b + 24) rfl (by omega) (olX2_init (b := (b + 19)) rfl (by omega) (ol_old (a := b + 19) rfl (by omega) (olX2_init (b := (b + 14)) rfl (by omega) (ol_old (a := b + 14) rfl (by omega) (olX2_init (b := (b + 9)) rfl (by omega) (ol_old (a := b + 9) rfl (by omega) (olX2_init (b := (b + 4)) rfl (by omega) (ol_old (a := b + 4) rfl (by omega) (ol_old (a := b + 3) rfl (by omega) (ol_old (a := b + 2) rfl (by omega) (ol_old (a := b + 1) rfl (by omega) (h))))))))))))))
theorem rnX6_init {R : R2} {b x : Nat} (hx : x < b) : rX6_init R b x = R x := by
  unfold rX6_init
  exact (up2_ne _ (by omega)).trans ((rnX2_init (by omega)).trans ((va_up_ne _ _ (by omega)).trans ((up2_ne _ (by omega)).trans ((rnX2_init (by omega)).trans ((va_up_ne _ _ (by omega)).trans ((up2_ne _ (by omega)).trans ((rnX2_init (by omega)).trans ((va_up_ne _ _ (by omega)).trans ((up2_ne _ (by omega)).trans ((rnX2_init (by omega)).trans ((va_up_ne _ _ (by omega)).trans ((up2_ne _ (by omega)).trans ((rnX2_init (by omega)).trans ((va_up_ne _ _ (by omega)).trans ((up2_ne _ (by omega)).trans ((up2_ne _ (by omega)).trans ((up2_ne _ (by omega)).trans ((va_up_ne _ _ (by omega)).trans (rfl)))))))))))))))))))
theorem vnX6_init {V : V2} {b x : Nat} (hx : x < b) : vX6_init V b x = V x := by
  unfold vX6_init
  exact (vnX2_init (by omega)).trans ((va_up_ne _ _ (by omega)).trans ((vnX2_init (by omega)).trans ((va_up_ne _ _ (by omega)).trans ((vnX2_init (by omega)).trans ((va_up_ne _ _ (by omega)).trans ((vnX2_init (by omega)).trans ((va_up_ne _ _ (by omega)).trans ((vnX2_init (by omega)).trans ((va_up_ne _ _ (by omega)).trans ((up2_ne _ (by omega)).trans ((up2_ne _ (by omega)).trans ((up2_ne _ (by omega)).trans ((up2_ne _ (by omega)).trans ((up2_ne _ (by omega)).trans ((up2_ne _ (by omega)).trans ((va_up_ne _ _ (by omega)).trans ((up2_ne _ (by omega)).trans ((va_up_ne _ _ (by omega)).trans (rfl)))))))))))))))))))
set_option maxHeartbeats 8000000 in
set_option maxRecDepth 100000 in
theorem kX6_init {l : Launch} {D : Dx} {L : List Nat} {kd ln : Nat → Nat} {V : V2} {R : R2} {b : Nat} (ho : own (L, kd, ln, b + 1) b 36) : Con l yX6_init cX6_init 2 none (rmN 2 28 168) D (L, kd, ln, b + 1) V R [.ref b] (none, vX6_init V b, rX6_init R b, gX6_init (L, kd, ln, b + 1) b, 28, 168) := by
  refine Con.mk RX6 (by decide) rfl (Nat.le_of_ble_eq_true rfl) (fun C _ hR hT _ _ hL hC hin => ?_)
  have h0 : ownL (L, kd, ln, b + 1) b 36 (ln b) := ⟨ho, rfl⟩
  have hb0 : R b = R b := rfl
  refine id (α := True → _) ?_ trivial
  refine g_aload_n hC dX6_init_0 (j := 0) rfl rfl ?_
  refine g_objI hC hR (Nat.le_of_ble_eq_true rfl) dX6_init_1 mlX6_3 (Nat.le_of_ble_eq_true rfl) ?_
  refine g_aload_n hC dX6_init_4 (j := 0) rfl rfl ?_
  refine g_iconst hC dX6_init_5 ic_5 ?_
  refine g_newR hC hR (t := 4) (m0 := 5) ⟨by decide, by decide⟩ rfl (by decide) (by decide) (Nat.le_of_ble_eq_true rfl) (Nat.le_of_ble_eq_true rfl) (Nat.le_of_ble_eq_true rfl) dX6_init_6 klX6_9 ao_4 (a0 := (b + 1)) rfl ?_
  have h1 := ol_old (t := 4) (m := 5) (a := (b + 1)) rfl (by omega) h0
  have h2 := ol_new (G := (L, kd, ln, b + 1)) (t := 4) (m := 5) (a := (b + 1)) rfl
  have hb3 := (va_up_ne (k := (b + 1)) _ (fun _ => (none : Option Nat)) (by omega)).trans hb0
  refine g_prR hC hin fw_6_0 (by decide) rfl rfl rfl h1.1 dX6_init_9 flX6_11 ?_
  have hb4 := (up2_self (x := b) (k := 0) (v := some (b + 1))).trans (congrArg (fun r => va_up r 0 (some (b + 1))) hb3)
  refine g_aload_n hC dX6_init_12 (j := 0) rfl rfl ?_
  refine g_iconst hC dX6_init_13 ic_4 ?_
  refine g_newI hC hR (m0 := 4) (by decide) (by decide) (Nat.le_of_ble_eq_true rfl) (Nat.le_of_ble_eq_true rfl) (Nat.le_of_ble_eq_true rfl) dX6_init_14 ac_i (a0 := (b + 2)) rfl ?_
  have h5 := ol_old (t := 1) (m := 4) (a := (b + 2)) rfl (by omega) h1
  have h6 := ol_old (t := 1) (m := 4) (a := (b + 2)) rfl (by omega) h2
  have h7 := ol_new (G := (nwG (L, kd, ln, b + 1) 4 5)) (t := 1) (m := 4) (a := (b + 2)) rfl
  refine g_prR hC hin fw_6_1 (by decide) rfl rfl rfl h5.1 dX6_init_16 flX6_17 ?_
  have hb8 := (up2_self (x := b) (k := 1) (v := some (b + 2))).trans (congrArg (fun r => va_up r 1 (some (b + 2))) hb4)
  refine g_aload_n hC dX6_init_19 (j := 0) rfl rfl ?_
  refine g_iconst hC dX6_init_20 ic_0 ?_
  refine g_prI hC hin fw_6_2 rfl rfl (vp_nar_int _) rfl h5.1 dX6_init_21 flX6_21 ?_
  refine g_aload_n hC dX6_init_24 (j := 0) rfl rfl ?_
  refine g_iconst hC dX6_init_25 ic_4 ?_
  refine g_newI hC hR (m0 := 4) (by decide) (by decide) (Nat.le_of_ble_eq_true rfl) (Nat.le_of_ble_eq_true rfl) (Nat.le_of_ble_eq_true rfl) dX6_init_26 ac_i (a0 := (b + 3)) rfl ?_
  have h9 := ol_old (t := 1) (m := 4) (a := (b + 3)) rfl (by omega) h5
  have h10 := ol_old (t := 1) (m := 4) (a := (b + 3)) rfl (by omega) h6
  have h11 := ol_old (t := 1) (m := 4) (a := (b + 3)) rfl (by omega) h7
  have h12 := ol_new (G := (nwG (nwG (L, kd, ln, b + 1) 4 5) 1 4)) (t := 1) (m := 4) (a := (b + 3)) rfl
  refine g_prR hC hin fw_6_3 (by decide) rfl rfl rfl h9.1 dX6_init_28 flX6_25 ?_
  have hb13 := (up2_self (x := b) (k := 3) (v := some (b + 3))).trans (congrArg (fun r => va_up r 3 (some (b + 3))) hb8)
  refine g_aload_n hC dX6_init_31 (j := 0) rfl rfl ?_
  refine g_iconst hC dX6_init_32 ic_0 ?_
  refine g_prI hC hin fw_6_4 rfl rfl (vp_nar_int _) rfl h9.1 dX6_init_33 flX6_28 ?_
  refine g_aload_n hC dX6_init_36 (j := 0) rfl rfl ?_
  refine g_iconst hC dX6_init_37 ic_0 ?_
  refine g_prI hC hin fw_6_5 rfl rfl (vp_nar_int _) rfl h9.1 dX6_init_38 flX6_31 ?_
  refine g_aload_n hC dX6_init_41 (j := 0) rfl rfl ?_
  refine g_iconst hC dX6_init_42 ic_0 ?_
  refine g_prI hC hin fw_6_6 rfl rfl (vp_nar_int _) rfl h9.1 dX6_init_43 flX6_34 ?_
  refine g_aload_n hC dX6_init_46 (j := 0) rfl rfl ?_
  refine g_bipush hC dX6_init_47 bc_m3 ?_
  refine g_prI hC hin fw_6_7 rfl rfl (vp_nar_int _) rfl h9.1 dX6_init_49 flX6_37 ?_
  refine g_aload_n hC dX6_init_52 (j := 0) rfl rfl ?_
  refine g_iconst hC dX6_init_53 ic_0 ?_
  refine g_prI hC hin fw_6_8 rfl rfl (vp_nar_int _) rfl h9.1 dX6_init_54 flX6_40 ?_
  refine g_aload_n hC dX6_init_57 (j := 0) rfl rfl ?_
  refine g_iconst hC dX6_init_58 ic_0 ?_
  refine g_prI hC hin fw_6_9 rfl rfl (vp_nar_int _) rfl h9.1 dX6_init_59 flX6_43 ?_
  refine g_iconst hC dX6_init_62 ic_0 ?_
  refine g_istore_n hC (n0 := 2) (lv' := [(1, .int 0), (0, .ref b)]) dX6_init_63 rfl (Nat.le_of_ble_eq_true rfl) hL rfl ?_
  refine g_iload_n hC dX6_init_64 (j := 0) rfl rfl ?_
  refine g_aload_n hC dX6_init_65 (j := 1) rfl rfl ?_
  refine g_getW hC fr_6_0 h9.1 (b := (b + 1)) ((congrFun hb13 0).trans (by simp [va_up])) dX6_init_66 flX6_11 ?_
  refine g_alenR hC (t := 4) (n := 5) ⟨by decide, by decide⟩ rfl h10.1 h10.2 dX6_init_69 ?_
  refine g_cgeF hC dX6_init_70 (by decide) ?_
  refine g_aload_n hC dX6_init_73 (j := 1) rfl rfl ?_
  refine g_getW hC fr_6_0 h9.1 (b := (b + 1)) ((congrFun hb13 0).trans (by simp [va_up])) dX6_init_74 flX6_11 ?_
  refine g_iload_n hC dX6_init_77 (j := 0) rfl rfl ?_
  refine g_new hC hR fn_2 (Nat.le_of_ble_eq_true rfl) (Nat.le_of_ble_eq_true rfl) dX6_init_78 klX6_9 (a0 := (b + 4)) rfl ?_
  have h14 := ol_old (t := 32) (m := 0) (a := (b + 4)) rfl (by omega) h9
  have h15 := ol_old (t := 32) (m := 0) (a := (b + 4)) rfl (by omega) h10
  have h16 := ol_old (t := 32) (m := 0) (a := (b + 4)) rfl (by omega) h11
  have h17 := ol_old (t := 32) (m := 0) (a := (b + 4)) rfl (by omega) h12
  have h18 := ol_new (G := (nwG (nwG (nwG (L, kd, ln, b + 1) 4 5) 1 4) 1 4)) (t := 32) (m := 0) (a := (b + 4)) rfl
  have hb19 := (va_up_ne (k := (b + 4)) _ (fun _ => (none : Option Nat)) (by omega)).trans hb13
  refine g_dup hC dX6_init_81 rfl ?_
  refine g_runIN hC hR ⟨Nat.le_of_ble_eq_true rfl, Nat.le_of_ble_eq_true rfl⟩ mwX2_init rfl miX2_init mlX6_46 (kX2_init (b := (b + 4)) h18.1) (Nat.le_of_ble_eq_true rfl) rfl (av := []) (st := [.ref (b + 4), .int 0, .ref (b + 1)]) rfl (Nat.le_of_ble_eq_true rfl) rfl rfl (geX2_init _ _) dX6_init_82 ?_
  have h20 := olX2_init (b := (b + 4)) rfl (by omega) h14
  have h21 := olX2_init (b := (b + 4)) rfl (by omega) h15
  have h22 := olX2_init (b := (b + 4)) rfl (by omega) h16
  have h23 := olX2_init (b := (b + 4)) rfl (by omega) h17
  have h24 := odX2_init (b := (b + 4)) rfl h18
  have hb25 := (rnX2_init (b := (b + 4)) (by omega)).trans hb19
  refine g_aastK hC (t := 4) (ci := 2) (v := (b + 4)) ⟨by decide, by decide⟩ rfl rfl (by decide) h24.1 h21.1 h21.2 (i0 := 0) (by decide) (by decide) dX6_init_85 ?_
  have hb26 := (up2_ne (x := (b + 1)) (k := 0) (v := some (b + 4)) b (by omega)).trans hb25
  refine g_iinc hC (n0 := 2) (j := 0) (v := 1) (lv' := [(1, .int 1), (0, .ref b)]) dX6_init_86 rfl (by decide) (Nat.le_of_ble_eq_true rfl) hL rfl ?_
  refine g_goto hC dX6_init_89 ?_
  refine g_iload_n hC dX6_init_64 (j := 0) rfl rfl ?_
  refine g_aload_n hC dX6_init_65 (j := 1) rfl rfl ?_
  refine g_getW hC fr_6_0 h20.1 (b := (b + 1)) ((congrFun hb26 0).trans (by simp [va_up])) dX6_init_66 flX6_11 ?_
  refine g_alenR hC (t := 4) (n := 5) ⟨by decide, by decide⟩ rfl h21.1 h21.2 dX6_init_69 ?_
  refine g_cgeF hC dX6_init_70 (by decide) ?_
  refine g_aload_n hC dX6_init_73 (j := 1) rfl rfl ?_
  refine g_getW hC fr_6_0 h20.1 (b := (b + 1)) ((congrFun hb26 0).trans (by simp [va_up])) dX6_init_74 flX6_11 ?_
  refine g_iload_n hC dX6_init_77 (j := 0) rfl rfl ?_
  refine g_new hC hR fn_2 (Nat.le_of_ble_eq_true rfl) (Nat.le_of_ble_eq_true rfl) dX6_init_78 klX6_9 (a0 := (b + 9)) rfl ?_
  have h27 := ol_old (t := 32) (m := 0) (a := (b + 9)) rfl (by omega) h20
  have h28 := ol_old (t := 32) (m := 0) (a := (b + 9)) rfl (by omega) h21
  have h29 := ol_old (t := 32) (m := 0) (a := (b + 9)) rfl (by omega) h22
  have h30 := ol_old (t := 32) (m := 0) (a := (b + 9)) rfl (by omega) h23
  have h31 := ol_old (t := 32) (m := 0) (a := (b + 9)) rfl (by omega) h24
  have h32 := ol_new (G := (gX2_init (nwG (nwG (nwG (nwG (L, kd, ln, b + 1) 4 5) 1 4) 1 4) 32 0) (b + 4))) (t := 32) (m := 0) (a := (b + 9)) rfl
  have hb33 := (va_up_ne (k := (b + 9)) _ (fun _ => (none : Option Nat)) (by omega)).trans hb26
  refine g_dup hC dX6_init_81 rfl ?_
  refine g_runIN hC hR ⟨Nat.le_of_ble_eq_true rfl, Nat.le_of_ble_eq_true rfl⟩ mwX2_init rfl miX2_init mlX6_46 (kX2_init (b := (b + 9)) h32.1) (Nat.le_of_ble_eq_true rfl) rfl (av := []) (st := [.ref (b + 9), .int 1, .ref (b + 1)]) rfl (Nat.le_of_ble_eq_true rfl) rfl rfl (geX2_init _ _) dX6_init_82 ?_
  have h34 := olX2_init (b := (b + 9)) rfl (by omega) h27
  have h35 := olX2_init (b := (b + 9)) rfl (by omega) h28
  have h36 := olX2_init (b := (b + 9)) rfl (by omega) h29
  have h37 := olX2_init (b := (b + 9)) rfl (by omega) h30
  have h38 := olX2_init (b := (b + 9)) rfl (by omega) h31
  have h39 := odX2_init (b := (b + 9)) rfl h32
  have hb40 := (rnX2_init (b := (b + 9)) (by omega)).trans hb33
  refine g_aastK hC (t := 4) (ci := 2) (v := (b + 9)) ⟨by decide, by decide⟩ rfl rfl (by decide) h39.1 h35.1 h35.2 (i0 := 1) (by decide) (by decide) dX6_init_85 ?_
  have hb41 := (up2_ne (x := (b + 1)) (k := 1) (v := some (b + 9)) b (by omega)).trans hb40
  refine g_iinc hC (n0 := 2) (j := 0) (v := 2) (lv' := [(1, .int 2), (0, .ref b)]) dX6_init_86 rfl (by decide) (Nat.le_of_ble_eq_true rfl) hL rfl ?_
  refine g_goto hC dX6_init_89 ?_
  refine g_iload_n hC dX6_init_64 (j := 0) rfl rfl ?_
  refine g_aload_n hC dX6_init_65 (j := 1) rfl rfl ?_
  refine g_getW hC fr_6_0 h34.1 (b := (b + 1)) ((congrFun hb41 0).trans (by simp [va_up])) dX6_init_66 flX6_11 ?_
  refine g_alenR hC (t := 4) (n := 5) ⟨by decide, by decide⟩ rfl h35.1 h35.2 dX6_init_69 ?_
  refine g_cgeF hC dX6_init_70 (by decide) ?_
  refine g_aload_n hC dX6_init_73 (j := 1) rfl rfl ?_
  refine g_getW hC fr_6_0 h34.1 (b := (b + 1)) ((congrFun hb41 0).trans (by simp [va_up])) dX6_init_74 flX6_11 ?_
  refine g_iload_n hC dX6_init_77 (j := 0) rfl rfl ?_
  refine g_new hC hR fn_2 (Nat.le_of_ble_eq_true rfl) (Nat.le_of_ble_eq_true rfl) dX6_init_78 klX6_9 (a0 := (b + 14)) rfl ?_
  have h42 := ol_old (t := 32) (m := 0) (a := (b + 14)) rfl (by omega) h34
  have h43 := ol_old (t := 32) (m := 0) (a := (b + 14)) rfl (by omega) h35
  have h44 := ol_old (t := 32) (m := 0) (a := (b + 14)) rfl (by omega) h36
  have h45 := ol_old (t := 32) (m := 0) (a := (b + 14)) rfl (by omega) h37
  have h46 := ol_old (t := 32) (m := 0) (a := (b + 14)) rfl (by omega) h38
  have h47 := ol_old (t := 32) (m := 0) (a := (b + 14)) rfl (by omega) h39
  have h48 := ol_new (G := (gX2_init (nwG (gX2_init (nwG (nwG (nwG (nwG (L, kd, ln, b + 1) 4 5) 1 4) 1 4) 32 0) (b + 4)) 32 0) (b + 9))) (t := 32) (m := 0) (a := (b + 14)) rfl
  have hb49 := (va_up_ne (k := (b + 14)) _ (fun _ => (none : Option Nat)) (by omega)).trans hb41
  refine g_dup hC dX6_init_81 rfl ?_
  refine g_runIN hC hR ⟨Nat.le_of_ble_eq_true rfl, Nat.le_of_ble_eq_true rfl⟩ mwX2_init rfl miX2_init mlX6_46 (kX2_init (b := (b + 14)) h48.1) (Nat.le_of_ble_eq_true rfl) rfl (av := []) (st := [.ref (b + 14), .int 2, .ref (b + 1)]) rfl (Nat.le_of_ble_eq_true rfl) rfl rfl (geX2_init _ _) dX6_init_82 ?_
  have h50 := olX2_init (b := (b + 14)) rfl (by omega) h42
  have h51 := olX2_init (b := (b + 14)) rfl (by omega) h43
  have h52 := olX2_init (b := (b + 14)) rfl (by omega) h44
  have h53 := olX2_init (b := (b + 14)) rfl (by omega) h45
  have h54 := olX2_init (b := (b + 14)) rfl (by omega) h46
  have h55 := olX2_init (b := (b + 14)) rfl (by omega) h47
  have h56 := odX2_init (b := (b + 14)) rfl h48
  have hb57 := (rnX2_init (b := (b + 14)) (by omega)).trans hb49
  refine g_aastK hC (t := 4) (ci := 2) (v := (b + 14)) ⟨by decide, by decide⟩ rfl rfl (by decide) h56.1 h51.1 h51.2 (i0 := 2) (by decide) (by decide) dX6_init_85 ?_
  have hb58 := (up2_ne (x := (b + 1)) (k := 2) (v := some (b + 14)) b (by omega)).trans hb57
  refine g_iinc hC (n0 := 2) (j := 0) (v := 3) (lv' := [(1, .int 3), (0, .ref b)]) dX6_init_86 rfl (by decide) (Nat.le_of_ble_eq_true rfl) hL rfl ?_
  refine g_goto hC dX6_init_89 ?_
  refine g_iload_n hC dX6_init_64 (j := 0) rfl rfl ?_
  refine g_aload_n hC dX6_init_65 (j := 1) rfl rfl ?_
  refine g_getW hC fr_6_0 h50.1 (b := (b + 1)) ((congrFun hb58 0).trans (by simp [va_up])) dX6_init_66 flX6_11 ?_
  refine g_alenR hC (t := 4) (n := 5) ⟨by decide, by decide⟩ rfl h51.1 h51.2 dX6_init_69 ?_
  refine g_cgeF hC dX6_init_70 (by decide) ?_
  refine g_aload_n hC dX6_init_73 (j := 1) rfl rfl ?_
  refine g_getW hC fr_6_0 h50.1 (b := (b + 1)) ((congrFun hb58 0).trans (by simp [va_up])) dX6_init_74 flX6_11 ?_
  refine g_iload_n hC dX6_init_77 (j := 0) rfl rfl ?_
  refine g_new hC hR fn_2 (Nat.le_of_ble_eq_true rfl) (Nat.le_of_ble_eq_true rfl) dX6_init_78 klX6_9 (a0 := (b + 19)) rfl ?_
  have h59 := ol_old (t := 32) (m := 0) (a := (b + 19)) rfl (by omega) h50
  have h60 := ol_old (t := 32) (m := 0) (a := (b + 19)) rfl (by omega) h51
  have h61 := ol_old (t := 32) (m := 0) (a := (b + 19)) rfl (by omega) h52
  have h62 := ol_old (t := 32) (m := 0) (a := (b + 19)) rfl (by omega) h53
  have h63 := ol_old (t := 32) (m := 0) (a := (b + 19)) rfl (by omega) h54
  have h64 := ol_old (t := 32) (m := 0) (a := (b + 19)) rfl (by omega) h55
  have h65 := ol_old (t := 32) (m := 0) (a := (b + 19)) rfl (by omega) h56
  have h66 := ol_new (G := (gX2_init (nwG (gX2_init (nwG (gX2_init (nwG (nwG (nwG (nwG (L, kd, ln, b + 1) 4 5) 1 4) 1 4) 32 0) (b + 4)) 32 0) (b + 9)) 32 0) (b + 14))) (t := 32) (m := 0) (a := (b + 19)) rfl
  have hb67 := (va_up_ne (k := (b + 19)) _ (fun _ => (none : Option Nat)) (by omega)).trans hb58
  refine g_dup hC dX6_init_81 rfl ?_
  refine g_runIN hC hR ⟨Nat.le_of_ble_eq_true rfl, Nat.le_of_ble_eq_true rfl⟩ mwX2_init rfl miX2_init mlX6_46 (kX2_init (b := (b + 19)) h66.1) (Nat.le_of_ble_eq_true rfl) rfl (av := []) (st := [.ref (b + 19), .int 3, .ref (b + 1)]) rfl (Nat.le_of_ble_eq_true rfl) rfl rfl (geX2_init _ _) dX6_init_82 ?_
  have h68 := olX2_init (b := (b + 19)) rfl (by omega) h59
  have h69 := olX2_init (b := (b + 19)) rfl (by omega) h60
  have h70 := olX2_init (b := (b + 19)) rfl (by omega) h61
  have h71 := olX2_init (b := (b + 19)) rfl (by omega) h62
  have h72 := olX2_init (b := (b + 19)) rfl (by omega) h63
  have h73 := olX2_init (b := (b + 19)) rfl (by omega) h64
  have h74 := olX2_init (b := (b + 19)) rfl (by omega) h65
  have h75 := odX2_init (b := (b + 19)) rfl h66
  have hb76 := (rnX2_init (b := (b + 19)) (by omega)).trans hb67
  refine g_aastK hC (t := 4) (ci := 2) (v := (b + 19)) ⟨by decide, by decide⟩ rfl rfl (by decide) h75.1 h69.1 h69.2 (i0 := 3) (by decide) (by decide) dX6_init_85 ?_
  have hb77 := (up2_ne (x := (b + 1)) (k := 3) (v := some (b + 19)) b (by omega)).trans hb76
  refine g_iinc hC (n0 := 2) (j := 0) (v := 4) (lv' := [(1, .int 4), (0, .ref b)]) dX6_init_86 rfl (by decide) (Nat.le_of_ble_eq_true rfl) hL rfl ?_
  refine g_goto hC dX6_init_89 ?_
  refine g_iload_n hC dX6_init_64 (j := 0) rfl rfl ?_
  refine g_aload_n hC dX6_init_65 (j := 1) rfl rfl ?_
  refine g_getW hC fr_6_0 h68.1 (b := (b + 1)) ((congrFun hb77 0).trans (by simp [va_up])) dX6_init_66 flX6_11 ?_
  refine g_alenR hC (t := 4) (n := 5) ⟨by decide, by decide⟩ rfl h69.1 h69.2 dX6_init_69 ?_
  refine g_cgeF hC dX6_init_70 (by decide) ?_
  refine g_aload_n hC dX6_init_73 (j := 1) rfl rfl ?_
  refine g_getW hC fr_6_0 h68.1 (b := (b + 1)) ((congrFun hb77 0).trans (by simp [va_up])) dX6_init_74 flX6_11 ?_
  refine g_iload_n hC dX6_init_77 (j := 0) rfl rfl ?_
  refine g_new hC hR fn_2 (Nat.le_of_ble_eq_true rfl) (Nat.le_of_ble_eq_true rfl) dX6_init_78 klX6_9 (a0 := (b + 24)) rfl ?_
  have h78 := ol_old (t := 32) (m := 0) (a := (b + 24)) rfl (by omega) h68
  have h79 := ol_old (t := 32) (m := 0) (a := (b + 24)) rfl (by omega) h69
  have h80 := ol_old (t := 32) (m := 0) (a := (b + 24)) rfl (by omega) h70
  have h81 := ol_old (t := 32) (m := 0) (a := (b + 24)) rfl (by omega) h71
  have h82 := ol_old (t := 32) (m := 0) (a := (b + 24)) rfl (by omega) h72
  have h83 := ol_old (t := 32) (m := 0) (a := (b + 24)) rfl (by omega) h73
  have h84 := ol_old (t := 32) (m := 0) (a := (b + 24)) rfl (by omega) h74
  have h85 := ol_old (t := 32) (m := 0) (a := (b + 24)) rfl (by omega) h75
  have h86 := ol_new (G := (gX2_init (nwG (gX2_init (nwG (gX2_init (nwG (gX2_init (nwG (nwG (nwG (nwG (L, kd, ln, b + 1) 4 5) 1 4) 1 4) 32 0) (b + 4)) 32 0) (b + 9)) 32 0) (b + 14)) 32 0) (b + 19))) (t := 32) (m := 0) (a := (b + 24)) rfl
  have hb87 := (va_up_ne (k := (b + 24)) _ (fun _ => (none : Option Nat)) (by omega)).trans hb77
  refine g_dup hC dX6_init_81 rfl ?_
  refine g_runIN hC hR ⟨Nat.le_of_ble_eq_true rfl, Nat.le_of_ble_eq_true rfl⟩ mwX2_init rfl miX2_init mlX6_46 (kX2_init (b := (b + 24)) h86.1) (Nat.le_of_ble_eq_true rfl) rfl (av := []) (st := [.ref (b + 24), .int 4, .ref (b + 1)]) rfl (Nat.le_of_ble_eq_true rfl) rfl rfl (geX2_init _ _) dX6_init_82 ?_
  have h88 := olX2_init (b := (b + 24)) rfl (by omega) h78
  have h89 := olX2_init (b := (b + 24)) rfl (by omega) h79
  have h90 := olX2_init (b := (b + 24)) rfl (by omega) h80
  have h91 := olX2_init (b := (b + 24)) rfl (by omega) h81
  have h92 := olX2_init (b := (b + 24)) rfl (by omega) h82
  have h93 := olX2_init (b := (b + 24)) rfl (by omega) h83
  have h94 := olX2_init (b := (b + 24)) rfl (by omega) h84
  have h95 := olX2_init (b := (b + 24)) rfl (by omega) h85
  have h96 := odX2_init (b := (b + 24)) rfl h86
  have hb97 := (rnX2_init (b := (b + 24)) (by omega)).trans hb87
  refine g_aastK hC (t := 4) (ci := 2) (v := (b + 24)) ⟨by decide, by decide⟩ rfl rfl (by decide) h96.1 h89.1 h89.2 (i0 := 4) (by decide) (by decide) dX6_init_85 ?_
  have hb98 := (up2_ne (x := (b + 1)) (k := 4) (v := some (b + 24)) b (by omega)).trans hb97
  refine g_iinc hC (n0 := 2) (j := 0) (v := 5) (lv' := [(1, .int 5), (0, .ref b)]) dX6_init_86 rfl (by decide) (Nat.le_of_ble_eq_true rfl) hL rfl ?_
  refine g_goto hC dX6_init_89 ?_
  refine g_iload_n hC dX6_init_64 (j := 0) rfl rfl ?_
  refine g_aload_n hC dX6_init_65 (j := 1) rfl rfl ?_
  refine g_getW hC fr_6_0 h88.1 (b := (b + 1)) ((congrFun hb98 0).trans (by simp [va_up])) dX6_init_66 flX6_11 ?_
  refine g_alenR hC (t := 4) (n := 5) ⟨by decide, by decide⟩ rfl h89.1 h89.2 dX6_init_69 ?_
  refine g_cgeT hC dX6_init_70 (by decide) ?_
  refine g_fin (a := b) (ci := 6) h88.1 (by decide) (fun k hk hne => ?_) ?_
  · refine (congrFun hb98 k).trans ?_
    match k, hk, hne with
    | 0, _, _ => simp [va_up, offT]
    | 1, _, _ => simp [va_up, offT]
    | 2, _, hne => exact absurd rfl hne
    | 3, _, _ => simp [va_up, offT]
    | 4, _, hne => exact absurd rfl hne
    | 5, _, hne => exact absurd rfl hne
    | 6, _, hne => exact absurd rfl hne
    | 7, _, hne => exact absurd rfl hne
    | 8, _, hne => exact absurd rfl hne
    | 9, _, hne => exact absurd rfl hne
    | k + 10, hk, _ => exact absurd hk (by simp [nfs])
  exact g_vretA hC hT (Nat.le_refl _) (Nat.le_refl _) dX6_init_92
def vX9_init (V : V2) (b : Nat) : V2 := (up2 (up2 (up2 (up2 (up2 (up2 (up2 (up2 (up2 (up2 (up2 (up2 (up2 (up2 (up2 (up2 (up2 (up2 (zV (zV (zV (zV (zV (zV (up2 (up2 (up2 (up2 (zV (zV (zV (zV (zV (zV (zV (zV (zV (zV (zV V (b + 1)) (b + 2)) (b + 3)) (b + 4)) (b + 5)) (b + 6)) (b + 7)) (b + 8)) (b + 9)) (b + 10)) (b + 11)) (b + 11) 0 (-1)) (b + 11) 1 (-1)) (b + 11) 2 (-1)) (b + 11) 3 (-1)) (b + 12)) (b + 13)) (b + 14)) (b + 15)) (b + 16)) (b + 17)) (b + 1) 2 12) (b + 1) 4 1) (b + 1) 50 9) (b + 1) 51 9) (b + 1) 52 9) (b + 1) 53 9) (b + 1) 54 9) (b + 1) 55 9) (b + 1) 56 9) (b + 1) 57 9) (b + 1) 58 9) (b + 1) 59 9) (b + 1) 60 9) (b + 1) 61 9) (b + 1) 62 9) (b + 1) 63 9) (b + 1) 64 9) (b + 1) 65 9)
def rX9_init (R : R2) (b : Nat) : R2 := (up2 (up2 (up2 (up2 (up2 (up2 (up2 (up2 (up2 (up2 (up2 (up2 (up2 (up2 (up2 (up2 (up2 R b 0 (some (b + 1))) b 1 (some (b + 2))) b 3 (some (b + 3))) b 4 (some (b + 4))) b 12 (some (b + 5))) b 13 (some (b + 6))) b 14 (some (b + 7))) b 22 (some (b + 8))) b 23 (some (b + 9))) b 26 (some (b + 10))) b 28 (some (b + 11))) b 29 (some (b + 12))) b 30 (some (b + 13))) b 31 (some (b + 14))) b 32 (some (b + 15))) b 33 (some (b + 16))) b 34 (some (b + 17)))
def gX9_init (G : G2) (b : Nat) : G2 := (finG (nwG (nwG (nwG (nwG (nwG (nwG (nwG (nwG (nwG (nwG (nwG (nwG (nwG (nwG (nwG (nwG (nwG G 1 572) 1 572) 1 190) 1 200) 1 572) 1 4) 1 4) 1 16) 1 16) 1 12) 1 4) 1 4) 1 160) 1 4) 1 4) 1 4) 1 30) b 19)
theorem geX9_init (G : G2) (b : Nat) : GE G (gX9_init G b) := by
  simp only [gX9_init]
  exact ge_fin (ge_nw (ge_nw (ge_nw (ge_nw (ge_nw (ge_nw (ge_nw (ge_nw (ge_nw (ge_nw (ge_nw (ge_nw (ge_nw (ge_nw (ge_nw (ge_nw (ge_nw (GE.rf G))))))))))))))))))
theorem olX9_init {G : G2} {b x t m : Nat} (hb : G.2.2.2 = b + 1) (hx : x < b) (h : ownL G x t m) : ownL (gX9_init G b) x t m := by
  obtain ⟨L, kd, ln, n⟩ := G
  cases hb
  exact ol_fin (by omega) (ol_old (a := b + 17) rfl (by omega) (ol_old (a := b + 16) rfl (by omega) (ol_old (a := b + 15) rfl (by omega) (ol_old (a := b + 14) rfl (by omega) (ol_old (a := b + 13) rfl (by omega) (ol_old (a := b + 12) rfl (by omega) (ol_old (a := b + 11) rfl (by omega) (ol_old (a := b + 10) rfl (by omega) (ol_old (a := b + 9) rfl (by omega) (ol_old (a := b + 8) rfl (by omega) (ol_old (a := b + 7) rfl (by omega) (ol_old (a := b + 6) rfl (by omega) (ol_old (a := b + 5) rfl (by omega) (ol_old (a := b + 4) rfl (by omega) (ol_old (a := b + 3) rfl (by omega) (ol_old (a := b + 2) rfl (by omega) (ol_old (a := b + 1) rfl (by omega) (h))))))))))))))))))
theorem odX9_init {G : G2} {b t m : Nat} (hb : G.2.2.2 = b + 1) (h : ownL G b t m) : ownL (gX9_init G b) b 19 m := by
  obtain ⟨L, kd, ln, n⟩ := G
  cases hb
  exact ol_done (ol_old (a := b + 17) rfl (by omega) (ol_old (a := b + 16) rfl (by omega) (ol_old (a := b + 15) rfl (by omega) (ol_old (a := b + 14) rfl (by omega) (ol_old (a := b + 13) rfl (by omega) (ol_old (a := b + 12) rfl (by omega) (ol_old (a := b + 11) rfl (by omega) (ol_old (a := b + 10) rfl (by omega) (ol_old (a := b + 9) rfl (by omega) (ol_old (a := b + 8) rfl (by omega) (ol_old (a := b + 7) rfl (by omega) (ol_old (a := b + 6) rfl (by omega) (ol_old (a := b + 5) rfl (by omega) (ol_old (a := b + 4) rfl (by omega) (ol_old (a := b + 3) rfl (by omega) (ol_old (a := b + 2) rfl (by omega) (ol_old (a := b + 1) rfl (by omega) (h))))))))))))))))))
theorem rnX9_init {R : R2} {b x : Nat} (hx : x < b) : rX9_init R b x = R x := by
  unfold rX9_init
  exact (up2_ne _ (by omega)).trans ((up2_ne _ (by omega)).trans ((up2_ne _ (by omega)).trans ((up2_ne _ (by omega)).trans ((up2_ne _ (by omega)).trans ((up2_ne _ (by omega)).trans ((up2_ne _ (by omega)).trans ((up2_ne _ (by omega)).trans ((up2_ne _ (by omega)).trans ((up2_ne _ (by omega)).trans ((up2_ne _ (by omega)).trans ((up2_ne _ (by omega)).trans ((up2_ne _ (by omega)).trans ((up2_ne _ (by omega)).trans ((up2_ne _ (by omega)).trans ((up2_ne _ (by omega)).trans ((up2_ne _ (by omega)).trans (rfl)))))))))))))))))
theorem vnX9_init {V : V2} {b x : Nat} (hx : x < b) : vX9_init V b x = V x := by
  unfold vX9_init
  exact (up2_ne _ (by omega)).trans ((up2_ne _ (by omega)).trans ((up2_ne _ (by omega)).trans ((up2_ne _ (by omega)).trans ((up2_ne _ (by omega)).trans ((up2_ne _ (by omega)).trans ((up2_ne _ (by omega)).trans ((up2_ne _ (by omega)).trans ((up2_ne _ (by omega)).trans ((up2_ne _ (by omega)).trans ((up2_ne _ (by omega)).trans ((up2_ne _ (by omega)).trans ((up2_ne _ (by omega)).trans ((up2_ne _ (by omega)).trans ((up2_ne _ (by omega)).trans ((up2_ne _ (by omega)).trans ((up2_ne _ (by omega)).trans ((up2_ne _ (by omega)).trans ((va_up_ne _ _ (by omega)).trans ((va_up_ne _ _ (by omega)).trans ((va_up_ne _ _ (by omega)).trans ((va_up_ne _ _ (by omega)).trans ((va_up_ne _ _ (by omega)).trans ((va_up_ne _ _ (by omega)).trans ((up2_ne _ (by omega)).trans ((up2_ne _ (by omega)).trans ((up2_ne _ (by omega)).trans ((up2_ne _ (by omega)).trans ((va_up_ne _ _ (by omega)).trans ((va_up_ne _ _ (by omega)).trans ((va_up_ne _ _ (by omega)).trans ((va_up_ne _ _ (by omega)).trans ((va_up_ne _ _ (by omega)).trans ((va_up_ne _ _ (by omega)).trans ((va_up_ne _ _ (by omega)).trans ((va_up_ne _ _ (by omega)).trans ((va_up_ne _ _ (by omega)).trans ((va_up_ne _ _ (by omega)).trans ((va_up_ne _ _ (by omega)).trans (rfl)))))))))))))))))))))))))))))))))))))))
set_option maxHeartbeats 8000000 in
set_option maxRecDepth 100000 in
theorem kX9_init {l : Launch} {D : Dx} {L : List Nat} {kd ln : Nat → Nat} {V : V2} {R : R2} {b : Nat} (ho : own (L, kd, ln, b + 1) b 39) : Con l yX9_init cX9_init 2 none (rmN 1 17 2368) D (L, kd, ln, b + 1) V R [.ref b] (none, vX9_init V b, rX9_init R b, gX9_init (L, kd, ln, b + 1) b, 17, 2368) := by
  refine Con.mk RX9 (by decide) rfl (Nat.le_of_ble_eq_true rfl) (fun C _ hR hT _ _ hL hC hin => ?_)
  have h0 : ownL (L, kd, ln, b + 1) b 39 (ln b) := ⟨ho, rfl⟩
  have hb0 : R b = R b := rfl
  refine id (α := True → _) ?_ trivial
  refine g_aload_n hC dX9_init_0 (j := 0) rfl rfl ?_
  refine g_objI hC hR (Nat.le_of_ble_eq_true rfl) dX9_init_1 mlX9_1 (Nat.le_of_ble_eq_true rfl) ?_
  refine g_aload_n hC dX9_init_4 (j := 0) rfl rfl ?_
  refine g_sipush hC dX9_init_5 sc_572 ?_
  refine g_newI hC hR (m0 := 572) (by decide) (by decide) (Nat.le_of_ble_eq_true rfl) (Nat.le_of_ble_eq_true rfl) (Nat.le_of_ble_eq_true rfl) dX9_init_8 ac_i (a0 := (b + 1)) rfl ?_
  have h1 := ol_old (t := 1) (m := 572) (a := (b + 1)) rfl (by omega) h0
  have h2 := ol_new (G := (L, kd, ln, b + 1)) (t := 1) (m := 572) (a := (b + 1)) rfl
  refine g_prR hC hin fw_9_0 (by decide) rfl rfl rfl h1.1 dX9_init_10 flX9_7 ?_
  have hb3 := (up2_self (x := b) (k := 0) (v := some (b + 1))).trans (congrArg (fun r => va_up r 0 (some (b + 1))) hb0)
  refine g_aload_n hC dX9_init_13 (j := 0) rfl rfl ?_
  refine g_sipush hC dX9_init_14 sc_572 ?_
  refine g_newI hC hR (m0 := 572) (by decide) (by decide) (Nat.le_of_ble_eq_true rfl) (Nat.le_of_ble_eq_true rfl) (Nat.le_of_ble_eq_true rfl) dX9_init_17 ac_i (a0 := (b + 2)) rfl ?_
  have h4 := ol_old (t := 1) (m := 572) (a := (b + 2)) rfl (by omega) h1
  have h5 := ol_old (t := 1) (m := 572) (a := (b + 2)) rfl (by omega) h2
  have h6 := ol_new (G := (nwG (L, kd, ln, b + 1) 1 572)) (t := 1) (m := 572) (a := (b + 2)) rfl
  refine g_prR hC hin fw_9_1 (by decide) rfl rfl rfl h4.1 dX9_init_19 flX9_13 ?_
  have hb7 := (up2_self (x := b) (k := 1) (v := some (b + 2))).trans (congrArg (fun r => va_up r 1 (some (b + 2))) hb3)
  refine g_aload_n hC dX9_init_22 (j := 0) rfl rfl ?_
  refine g_sipush hC dX9_init_23 sc_190 ?_
  refine g_newI hC hR (m0 := 190) (by decide) (by decide) (Nat.le_of_ble_eq_true rfl) (Nat.le_of_ble_eq_true rfl) (Nat.le_of_ble_eq_true rfl) dX9_init_26 ac_i (a0 := (b + 3)) rfl ?_
  have h8 := ol_old (t := 1) (m := 190) (a := (b + 3)) rfl (by omega) h4
  have h9 := ol_old (t := 1) (m := 190) (a := (b + 3)) rfl (by omega) h5
  have h10 := ol_old (t := 1) (m := 190) (a := (b + 3)) rfl (by omega) h6
  have h11 := ol_new (G := (nwG (nwG (L, kd, ln, b + 1) 1 572) 1 572)) (t := 1) (m := 190) (a := (b + 3)) rfl
  refine g_prR hC hin fw_9_3 (by decide) rfl rfl rfl h8.1 dX9_init_28 flX9_16 ?_
  have hb12 := (up2_self (x := b) (k := 3) (v := some (b + 3))).trans (congrArg (fun r => va_up r 3 (some (b + 3))) hb7)
  refine g_aload_n hC dX9_init_31 (j := 0) rfl rfl ?_
  refine g_sipush hC dX9_init_32 sc_200 ?_
  refine g_newI hC hR (m0 := 200) (by decide) (by decide) (Nat.le_of_ble_eq_true rfl) (Nat.le_of_ble_eq_true rfl) (Nat.le_of_ble_eq_true rfl) dX9_init_35 ac_i (a0 := (b + 4)) rfl ?_
  have h13 := ol_old (t := 1) (m := 200) (a := (b + 4)) rfl (by omega) h8
  have h14 := ol_old (t := 1) (m := 200) (a := (b + 4)) rfl (by omega) h9
  have h15 := ol_old (t := 1) (m := 200) (a := (b + 4)) rfl (by omega) h10
  have h16 := ol_old (t := 1) (m := 200) (a := (b + 4)) rfl (by omega) h11
  have h17 := ol_new (G := (nwG (nwG (nwG (L, kd, ln, b + 1) 1 572) 1 572) 1 190)) (t := 1) (m := 200) (a := (b + 4)) rfl
  refine g_prR hC hin fw_9_4 (by decide) rfl rfl rfl h13.1 dX9_init_37 flX9_19 ?_
  have hb18 := (up2_self (x := b) (k := 4) (v := some (b + 4))).trans (congrArg (fun r => va_up r 4 (some (b + 4))) hb12)
  refine g_aload_n hC dX9_init_40 (j := 0) rfl rfl ?_
  refine g_sipush hC dX9_init_41 sc_572 ?_
  refine g_newI hC hR (m0 := 572) (by decide) (by decide) (Nat.le_of_ble_eq_true rfl) (Nat.le_of_ble_eq_true rfl) (Nat.le_of_ble_eq_true rfl) dX9_init_44 ac_i (a0 := (b + 5)) rfl ?_
  have h19 := ol_old (t := 1) (m := 572) (a := (b + 5)) rfl (by omega) h13
  have h20 := ol_old (t := 1) (m := 572) (a := (b + 5)) rfl (by omega) h14
  have h21 := ol_old (t := 1) (m := 572) (a := (b + 5)) rfl (by omega) h15
  have h22 := ol_old (t := 1) (m := 572) (a := (b + 5)) rfl (by omega) h16
  have h23 := ol_old (t := 1) (m := 572) (a := (b + 5)) rfl (by omega) h17
  have h24 := ol_new (G := (nwG (nwG (nwG (nwG (L, kd, ln, b + 1) 1 572) 1 572) 1 190) 1 200)) (t := 1) (m := 572) (a := (b + 5)) rfl
  refine g_prR hC hin fw_9_12 (by decide) rfl rfl rfl h19.1 dX9_init_46 flX9_22 ?_
  have hb25 := (up2_self (x := b) (k := 12) (v := some (b + 5))).trans (congrArg (fun r => va_up r 12 (some (b + 5))) hb18)
  refine g_aload_n hC dX9_init_49 (j := 0) rfl rfl ?_
  refine g_iconst hC dX9_init_50 ic_4 ?_
  refine g_newI hC hR (m0 := 4) (by decide) (by decide) (Nat.le_of_ble_eq_true rfl) (Nat.le_of_ble_eq_true rfl) (Nat.le_of_ble_eq_true rfl) dX9_init_51 ac_i (a0 := (b + 6)) rfl ?_
  have h26 := ol_old (t := 1) (m := 4) (a := (b + 6)) rfl (by omega) h19
  have h27 := ol_old (t := 1) (m := 4) (a := (b + 6)) rfl (by omega) h20
  have h28 := ol_old (t := 1) (m := 4) (a := (b + 6)) rfl (by omega) h21
  have h29 := ol_old (t := 1) (m := 4) (a := (b + 6)) rfl (by omega) h22
  have h30 := ol_old (t := 1) (m := 4) (a := (b + 6)) rfl (by omega) h23
  have h31 := ol_old (t := 1) (m := 4) (a := (b + 6)) rfl (by omega) h24
  have h32 := ol_new (G := (nwG (nwG (nwG (nwG (nwG (L, kd, ln, b + 1) 1 572) 1 572) 1 190) 1 200) 1 572)) (t := 1) (m := 4) (a := (b + 6)) rfl
  refine g_prR hC hin fw_9_13 (by decide) rfl rfl rfl h26.1 dX9_init_53 flX9_25 ?_
  have hb33 := (up2_self (x := b) (k := 13) (v := some (b + 6))).trans (congrArg (fun r => va_up r 13 (some (b + 6))) hb25)
  refine g_aload_n hC dX9_init_56 (j := 0) rfl rfl ?_
  refine g_iconst hC dX9_init_57 ic_4 ?_
  refine g_newI hC hR (m0 := 4) (by decide) (by decide) (Nat.le_of_ble_eq_true rfl) (Nat.le_of_ble_eq_true rfl) (Nat.le_of_ble_eq_true rfl) dX9_init_58 ac_i (a0 := (b + 7)) rfl ?_
  have h34 := ol_old (t := 1) (m := 4) (a := (b + 7)) rfl (by omega) h26
  have h35 := ol_old (t := 1) (m := 4) (a := (b + 7)) rfl (by omega) h27
  have h36 := ol_old (t := 1) (m := 4) (a := (b + 7)) rfl (by omega) h28
  have h37 := ol_old (t := 1) (m := 4) (a := (b + 7)) rfl (by omega) h29
  have h38 := ol_old (t := 1) (m := 4) (a := (b + 7)) rfl (by omega) h30
  have h39 := ol_old (t := 1) (m := 4) (a := (b + 7)) rfl (by omega) h31
  have h40 := ol_old (t := 1) (m := 4) (a := (b + 7)) rfl (by omega) h32
  have h41 := ol_new (G := (nwG (nwG (nwG (nwG (nwG (nwG (L, kd, ln, b + 1) 1 572) 1 572) 1 190) 1 200) 1 572) 1 4)) (t := 1) (m := 4) (a := (b + 7)) rfl
  refine g_prR hC hin fw_9_14 (by decide) rfl rfl rfl h34.1 dX9_init_60 flX9_28 ?_
  have hb42 := (up2_self (x := b) (k := 14) (v := some (b + 7))).trans (congrArg (fun r => va_up r 14 (some (b + 7))) hb33)
  refine g_aload_n hC dX9_init_63 (j := 0) rfl rfl ?_
  refine g_bipush hC dX9_init_64 bc_16 ?_
  refine g_newI hC hR (m0 := 16) (by decide) (by decide) (Nat.le_of_ble_eq_true rfl) (Nat.le_of_ble_eq_true rfl) (Nat.le_of_ble_eq_true rfl) dX9_init_66 ac_i (a0 := (b + 8)) rfl ?_
  have h43 := ol_old (t := 1) (m := 16) (a := (b + 8)) rfl (by omega) h34
  have h44 := ol_old (t := 1) (m := 16) (a := (b + 8)) rfl (by omega) h35
  have h45 := ol_old (t := 1) (m := 16) (a := (b + 8)) rfl (by omega) h36
  have h46 := ol_old (t := 1) (m := 16) (a := (b + 8)) rfl (by omega) h37
  have h47 := ol_old (t := 1) (m := 16) (a := (b + 8)) rfl (by omega) h38
  have h48 := ol_old (t := 1) (m := 16) (a := (b + 8)) rfl (by omega) h39
  have h49 := ol_old (t := 1) (m := 16) (a := (b + 8)) rfl (by omega) h40
  have h50 := ol_old (t := 1) (m := 16) (a := (b + 8)) rfl (by omega) h41
  have h51 := ol_new (G := (nwG (nwG (nwG (nwG (nwG (nwG (nwG (L, kd, ln, b + 1) 1 572) 1 572) 1 190) 1 200) 1 572) 1 4) 1 4)) (t := 1) (m := 16) (a := (b + 8)) rfl
  refine g_prR hC hin fw_9_22 (by decide) rfl rfl rfl h43.1 dX9_init_68 flX9_31 ?_
  have hb52 := (up2_self (x := b) (k := 22) (v := some (b + 8))).trans (congrArg (fun r => va_up r 22 (some (b + 8))) hb42)
  refine g_aload_n hC dX9_init_71 (j := 0) rfl rfl ?_
  refine g_bipush hC dX9_init_72 bc_16 ?_
  refine g_newI hC hR (m0 := 16) (by decide) (by decide) (Nat.le_of_ble_eq_true rfl) (Nat.le_of_ble_eq_true rfl) (Nat.le_of_ble_eq_true rfl) dX9_init_74 ac_i (a0 := (b + 9)) rfl ?_
  have h53 := ol_old (t := 1) (m := 16) (a := (b + 9)) rfl (by omega) h43
  have h54 := ol_old (t := 1) (m := 16) (a := (b + 9)) rfl (by omega) h44
  have h55 := ol_old (t := 1) (m := 16) (a := (b + 9)) rfl (by omega) h45
  have h56 := ol_old (t := 1) (m := 16) (a := (b + 9)) rfl (by omega) h46
  have h57 := ol_old (t := 1) (m := 16) (a := (b + 9)) rfl (by omega) h47
  have h58 := ol_old (t := 1) (m := 16) (a := (b + 9)) rfl (by omega) h48
  have h59 := ol_old (t := 1) (m := 16) (a := (b + 9)) rfl (by omega) h49
  have h60 := ol_old (t := 1) (m := 16) (a := (b + 9)) rfl (by omega) h50
  have h61 := ol_old (t := 1) (m := 16) (a := (b + 9)) rfl (by omega) h51
  have h62 := ol_new (G := (nwG (nwG (nwG (nwG (nwG (nwG (nwG (nwG (L, kd, ln, b + 1) 1 572) 1 572) 1 190) 1 200) 1 572) 1 4) 1 4) 1 16)) (t := 1) (m := 16) (a := (b + 9)) rfl
  refine g_prR hC hin fw_9_23 (by decide) rfl rfl rfl h53.1 dX9_init_76 flX9_34 ?_
  have hb63 := (up2_self (x := b) (k := 23) (v := some (b + 9))).trans (congrArg (fun r => va_up r 23 (some (b + 9))) hb52)
  refine g_aload_n hC dX9_init_79 (j := 0) rfl rfl ?_
  refine g_bipush hC dX9_init_80 bc_12 ?_
  refine g_newI hC hR (m0 := 12) (by decide) (by decide) (Nat.le_of_ble_eq_true rfl) (Nat.le_of_ble_eq_true rfl) (Nat.le_of_ble_eq_true rfl) dX9_init_82 ac_i (a0 := (b + 10)) rfl ?_
  have h64 := ol_old (t := 1) (m := 12) (a := (b + 10)) rfl (by omega) h53
  have h65 := ol_old (t := 1) (m := 12) (a := (b + 10)) rfl (by omega) h54
  have h66 := ol_old (t := 1) (m := 12) (a := (b + 10)) rfl (by omega) h55
  have h67 := ol_old (t := 1) (m := 12) (a := (b + 10)) rfl (by omega) h56
  have h68 := ol_old (t := 1) (m := 12) (a := (b + 10)) rfl (by omega) h57
  have h69 := ol_old (t := 1) (m := 12) (a := (b + 10)) rfl (by omega) h58
  have h70 := ol_old (t := 1) (m := 12) (a := (b + 10)) rfl (by omega) h59
  have h71 := ol_old (t := 1) (m := 12) (a := (b + 10)) rfl (by omega) h60
  have h72 := ol_old (t := 1) (m := 12) (a := (b + 10)) rfl (by omega) h61
  have h73 := ol_old (t := 1) (m := 12) (a := (b + 10)) rfl (by omega) h62
  have h74 := ol_new (G := (nwG (nwG (nwG (nwG (nwG (nwG (nwG (nwG (nwG (L, kd, ln, b + 1) 1 572) 1 572) 1 190) 1 200) 1 572) 1 4) 1 4) 1 16) 1 16)) (t := 1) (m := 12) (a := (b + 10)) rfl
  refine g_prR hC hin fw_9_26 (by decide) rfl rfl rfl h64.1 dX9_init_84 flX9_37 ?_
  have hb75 := (up2_self (x := b) (k := 26) (v := some (b + 10))).trans (congrArg (fun r => va_up r 26 (some (b + 10))) hb63)
  refine g_aload_n hC dX9_init_87 (j := 0) rfl rfl ?_
  refine g_iconst hC dX9_init_88 ic_4 ?_
  refine g_newI hC hR (m0 := 4) (by decide) (by decide) (Nat.le_of_ble_eq_true rfl) (Nat.le_of_ble_eq_true rfl) (Nat.le_of_ble_eq_true rfl) dX9_init_89 ac_i (a0 := (b + 11)) rfl ?_
  have h76 := ol_old (t := 1) (m := 4) (a := (b + 11)) rfl (by omega) h64
  have h77 := ol_old (t := 1) (m := 4) (a := (b + 11)) rfl (by omega) h65
  have h78 := ol_old (t := 1) (m := 4) (a := (b + 11)) rfl (by omega) h66
  have h79 := ol_old (t := 1) (m := 4) (a := (b + 11)) rfl (by omega) h67
  have h80 := ol_old (t := 1) (m := 4) (a := (b + 11)) rfl (by omega) h68
  have h81 := ol_old (t := 1) (m := 4) (a := (b + 11)) rfl (by omega) h69
  have h82 := ol_old (t := 1) (m := 4) (a := (b + 11)) rfl (by omega) h70
  have h83 := ol_old (t := 1) (m := 4) (a := (b + 11)) rfl (by omega) h71
  have h84 := ol_old (t := 1) (m := 4) (a := (b + 11)) rfl (by omega) h72
  have h85 := ol_old (t := 1) (m := 4) (a := (b + 11)) rfl (by omega) h73
  have h86 := ol_old (t := 1) (m := 4) (a := (b + 11)) rfl (by omega) h74
  have h87 := ol_new (G := (nwG (nwG (nwG (nwG (nwG (nwG (nwG (nwG (nwG (nwG (L, kd, ln, b + 1) 1 572) 1 572) 1 190) 1 200) 1 572) 1 4) 1 4) 1 16) 1 16) 1 12)) (t := 1) (m := 4) (a := (b + 11)) rfl
  refine g_dup hC dX9_init_91 rfl ?_
  refine g_iconst hC dX9_init_92 ic_0 ?_
  refine g_iconst hC dX9_init_93 ic_m1 ?_
  refine g_iastK hC h87.1 h87.2 (i0 := 0) (by decide) (by decide) dX9_init_94 ?_
  refine g_dup hC dX9_init_95 rfl ?_
  refine g_iconst hC dX9_init_96 ic_1 ?_
  refine g_iconst hC dX9_init_97 ic_m1 ?_
  refine g_iastK hC h87.1 h87.2 (i0 := 1) (by decide) (by decide) dX9_init_98 ?_
  refine g_dup hC dX9_init_99 rfl ?_
  refine g_iconst hC dX9_init_100 ic_2 ?_
  refine g_iconst hC dX9_init_101 ic_m1 ?_
  refine g_iastK hC h87.1 h87.2 (i0 := 2) (by decide) (by decide) dX9_init_102 ?_
  refine g_dup hC dX9_init_103 rfl ?_
  refine g_iconst hC dX9_init_104 ic_3 ?_
  refine g_iconst hC dX9_init_105 ic_m1 ?_
  refine g_iastK hC h87.1 h87.2 (i0 := 3) (by decide) (by decide) dX9_init_106 ?_
  refine g_prR hC hin fw_9_28 (by decide) rfl rfl rfl h76.1 dX9_init_107 flX9_40 ?_
  have hb88 := (up2_self (x := b) (k := 28) (v := some (b + 11))).trans (congrArg (fun r => va_up r 28 (some (b + 11))) hb75)
  refine g_aload_n hC dX9_init_110 (j := 0) rfl rfl ?_
  refine g_iconst hC dX9_init_111 ic_4 ?_
  refine g_newI hC hR (m0 := 4) (by decide) (by decide) (Nat.le_of_ble_eq_true rfl) (Nat.le_of_ble_eq_true rfl) (Nat.le_of_ble_eq_true rfl) dX9_init_112 ac_i (a0 := (b + 12)) rfl ?_
  have h89 := ol_old (t := 1) (m := 4) (a := (b + 12)) rfl (by omega) h76
  have h90 := ol_old (t := 1) (m := 4) (a := (b + 12)) rfl (by omega) h77
  have h91 := ol_old (t := 1) (m := 4) (a := (b + 12)) rfl (by omega) h78
  have h92 := ol_old (t := 1) (m := 4) (a := (b + 12)) rfl (by omega) h79
  have h93 := ol_old (t := 1) (m := 4) (a := (b + 12)) rfl (by omega) h80
  have h94 := ol_old (t := 1) (m := 4) (a := (b + 12)) rfl (by omega) h81
  have h95 := ol_old (t := 1) (m := 4) (a := (b + 12)) rfl (by omega) h82
  have h96 := ol_old (t := 1) (m := 4) (a := (b + 12)) rfl (by omega) h83
  have h97 := ol_old (t := 1) (m := 4) (a := (b + 12)) rfl (by omega) h84
  have h98 := ol_old (t := 1) (m := 4) (a := (b + 12)) rfl (by omega) h85
  have h99 := ol_old (t := 1) (m := 4) (a := (b + 12)) rfl (by omega) h86
  have h100 := ol_old (t := 1) (m := 4) (a := (b + 12)) rfl (by omega) h87
  have h101 := ol_new (G := (nwG (nwG (nwG (nwG (nwG (nwG (nwG (nwG (nwG (nwG (nwG (L, kd, ln, b + 1) 1 572) 1 572) 1 190) 1 200) 1 572) 1 4) 1 4) 1 16) 1 16) 1 12) 1 4)) (t := 1) (m := 4) (a := (b + 12)) rfl
  refine g_prR hC hin fw_9_29 (by decide) rfl rfl rfl h89.1 dX9_init_114 flX9_43 ?_
  have hb102 := (up2_self (x := b) (k := 29) (v := some (b + 12))).trans (congrArg (fun r => va_up r 29 (some (b + 12))) hb88)
  refine g_aload_n hC dX9_init_117 (j := 0) rfl rfl ?_
  refine g_sipush hC dX9_init_118 sc_160 ?_
  refine g_newI hC hR (m0 := 160) (by decide) (by decide) (Nat.le_of_ble_eq_true rfl) (Nat.le_of_ble_eq_true rfl) (Nat.le_of_ble_eq_true rfl) dX9_init_121 ac_i (a0 := (b + 13)) rfl ?_
  have h103 := ol_old (t := 1) (m := 160) (a := (b + 13)) rfl (by omega) h89
  have h104 := ol_old (t := 1) (m := 160) (a := (b + 13)) rfl (by omega) h90
  have h105 := ol_old (t := 1) (m := 160) (a := (b + 13)) rfl (by omega) h91
  have h106 := ol_old (t := 1) (m := 160) (a := (b + 13)) rfl (by omega) h92
  have h107 := ol_old (t := 1) (m := 160) (a := (b + 13)) rfl (by omega) h93
  have h108 := ol_old (t := 1) (m := 160) (a := (b + 13)) rfl (by omega) h94
  have h109 := ol_old (t := 1) (m := 160) (a := (b + 13)) rfl (by omega) h95
  have h110 := ol_old (t := 1) (m := 160) (a := (b + 13)) rfl (by omega) h96
  have h111 := ol_old (t := 1) (m := 160) (a := (b + 13)) rfl (by omega) h97
  have h112 := ol_old (t := 1) (m := 160) (a := (b + 13)) rfl (by omega) h98
  have h113 := ol_old (t := 1) (m := 160) (a := (b + 13)) rfl (by omega) h99
  have h114 := ol_old (t := 1) (m := 160) (a := (b + 13)) rfl (by omega) h100
  have h115 := ol_old (t := 1) (m := 160) (a := (b + 13)) rfl (by omega) h101
  have h116 := ol_new (G := (nwG (nwG (nwG (nwG (nwG (nwG (nwG (nwG (nwG (nwG (nwG (nwG (L, kd, ln, b + 1) 1 572) 1 572) 1 190) 1 200) 1 572) 1 4) 1 4) 1 16) 1 16) 1 12) 1 4) 1 4)) (t := 1) (m := 160) (a := (b + 13)) rfl
  refine g_prR hC hin fw_9_30 (by decide) rfl rfl rfl h103.1 dX9_init_123 flX9_46 ?_
  have hb117 := (up2_self (x := b) (k := 30) (v := some (b + 13))).trans (congrArg (fun r => va_up r 30 (some (b + 13))) hb102)
  refine g_aload_n hC dX9_init_126 (j := 0) rfl rfl ?_
  refine g_iconst hC dX9_init_127 ic_4 ?_
  refine g_newI hC hR (m0 := 4) (by decide) (by decide) (Nat.le_of_ble_eq_true rfl) (Nat.le_of_ble_eq_true rfl) (Nat.le_of_ble_eq_true rfl) dX9_init_128 ac_i (a0 := (b + 14)) rfl ?_
  have h118 := ol_old (t := 1) (m := 4) (a := (b + 14)) rfl (by omega) h103
  have h119 := ol_old (t := 1) (m := 4) (a := (b + 14)) rfl (by omega) h104
  have h120 := ol_old (t := 1) (m := 4) (a := (b + 14)) rfl (by omega) h105
  have h121 := ol_old (t := 1) (m := 4) (a := (b + 14)) rfl (by omega) h106
  have h122 := ol_old (t := 1) (m := 4) (a := (b + 14)) rfl (by omega) h107
  have h123 := ol_old (t := 1) (m := 4) (a := (b + 14)) rfl (by omega) h108
  have h124 := ol_old (t := 1) (m := 4) (a := (b + 14)) rfl (by omega) h109
  have h125 := ol_old (t := 1) (m := 4) (a := (b + 14)) rfl (by omega) h110
  have h126 := ol_old (t := 1) (m := 4) (a := (b + 14)) rfl (by omega) h111
  have h127 := ol_old (t := 1) (m := 4) (a := (b + 14)) rfl (by omega) h112
  have h128 := ol_old (t := 1) (m := 4) (a := (b + 14)) rfl (by omega) h113
  have h129 := ol_old (t := 1) (m := 4) (a := (b + 14)) rfl (by omega) h114
  have h130 := ol_old (t := 1) (m := 4) (a := (b + 14)) rfl (by omega) h115
  have h131 := ol_old (t := 1) (m := 4) (a := (b + 14)) rfl (by omega) h116
  have h132 := ol_new (G := (nwG (nwG (nwG (nwG (nwG (nwG (nwG (nwG (nwG (nwG (nwG (nwG (nwG (L, kd, ln, b + 1) 1 572) 1 572) 1 190) 1 200) 1 572) 1 4) 1 4) 1 16) 1 16) 1 12) 1 4) 1 4) 1 160)) (t := 1) (m := 4) (a := (b + 14)) rfl
  refine g_prR hC hin fw_9_31 (by decide) rfl rfl rfl h118.1 dX9_init_130 flX9_49 ?_
  have hb133 := (up2_self (x := b) (k := 31) (v := some (b + 14))).trans (congrArg (fun r => va_up r 31 (some (b + 14))) hb117)
  refine g_aload_n hC dX9_init_133 (j := 0) rfl rfl ?_
  refine g_iconst hC dX9_init_134 ic_4 ?_
  refine g_newI hC hR (m0 := 4) (by decide) (by decide) (Nat.le_of_ble_eq_true rfl) (Nat.le_of_ble_eq_true rfl) (Nat.le_of_ble_eq_true rfl) dX9_init_135 ac_i (a0 := (b + 15)) rfl ?_
  have h134 := ol_old (t := 1) (m := 4) (a := (b + 15)) rfl (by omega) h118
  have h135 := ol_old (t := 1) (m := 4) (a := (b + 15)) rfl (by omega) h119
  have h136 := ol_old (t := 1) (m := 4) (a := (b + 15)) rfl (by omega) h120
  have h137 := ol_old (t := 1) (m := 4) (a := (b + 15)) rfl (by omega) h121
  have h138 := ol_old (t := 1) (m := 4) (a := (b + 15)) rfl (by omega) h122
  have h139 := ol_old (t := 1) (m := 4) (a := (b + 15)) rfl (by omega) h123
  have h140 := ol_old (t := 1) (m := 4) (a := (b + 15)) rfl (by omega) h124
  have h141 := ol_old (t := 1) (m := 4) (a := (b + 15)) rfl (by omega) h125
  have h142 := ol_old (t := 1) (m := 4) (a := (b + 15)) rfl (by omega) h126
  have h143 := ol_old (t := 1) (m := 4) (a := (b + 15)) rfl (by omega) h127
  have h144 := ol_old (t := 1) (m := 4) (a := (b + 15)) rfl (by omega) h128
  have h145 := ol_old (t := 1) (m := 4) (a := (b + 15)) rfl (by omega) h129
  have h146 := ol_old (t := 1) (m := 4) (a := (b + 15)) rfl (by omega) h130
  have h147 := ol_old (t := 1) (m := 4) (a := (b + 15)) rfl (by omega) h131
  have h148 := ol_old (t := 1) (m := 4) (a := (b + 15)) rfl (by omega) h132
  have h149 := ol_new (G := (nwG (nwG (nwG (nwG (nwG (nwG (nwG (nwG (nwG (nwG (nwG (nwG (nwG (nwG (L, kd, ln, b + 1) 1 572) 1 572) 1 190) 1 200) 1 572) 1 4) 1 4) 1 16) 1 16) 1 12) 1 4) 1 4) 1 160) 1 4)) (t := 1) (m := 4) (a := (b + 15)) rfl
  refine g_prR hC hin fw_9_32 (by decide) rfl rfl rfl h134.1 dX9_init_137 flX9_52 ?_
  have hb150 := (up2_self (x := b) (k := 32) (v := some (b + 15))).trans (congrArg (fun r => va_up r 32 (some (b + 15))) hb133)
  refine g_aload_n hC dX9_init_140 (j := 0) rfl rfl ?_
  refine g_iconst hC dX9_init_141 ic_4 ?_
  refine g_newI hC hR (m0 := 4) (by decide) (by decide) (Nat.le_of_ble_eq_true rfl) (Nat.le_of_ble_eq_true rfl) (Nat.le_of_ble_eq_true rfl) dX9_init_142 ac_i (a0 := (b + 16)) rfl ?_
  have h151 := ol_old (t := 1) (m := 4) (a := (b + 16)) rfl (by omega) h134
  have h152 := ol_old (t := 1) (m := 4) (a := (b + 16)) rfl (by omega) h135
  have h153 := ol_old (t := 1) (m := 4) (a := (b + 16)) rfl (by omega) h136
  have h154 := ol_old (t := 1) (m := 4) (a := (b + 16)) rfl (by omega) h137
  have h155 := ol_old (t := 1) (m := 4) (a := (b + 16)) rfl (by omega) h138
  have h156 := ol_old (t := 1) (m := 4) (a := (b + 16)) rfl (by omega) h139
  have h157 := ol_old (t := 1) (m := 4) (a := (b + 16)) rfl (by omega) h140
  have h158 := ol_old (t := 1) (m := 4) (a := (b + 16)) rfl (by omega) h141
  have h159 := ol_old (t := 1) (m := 4) (a := (b + 16)) rfl (by omega) h142
  have h160 := ol_old (t := 1) (m := 4) (a := (b + 16)) rfl (by omega) h143
  have h161 := ol_old (t := 1) (m := 4) (a := (b + 16)) rfl (by omega) h144
  have h162 := ol_old (t := 1) (m := 4) (a := (b + 16)) rfl (by omega) h145
  have h163 := ol_old (t := 1) (m := 4) (a := (b + 16)) rfl (by omega) h146
  have h164 := ol_old (t := 1) (m := 4) (a := (b + 16)) rfl (by omega) h147
  have h165 := ol_old (t := 1) (m := 4) (a := (b + 16)) rfl (by omega) h148
  have h166 := ol_old (t := 1) (m := 4) (a := (b + 16)) rfl (by omega) h149
  have h167 := ol_new (G := (nwG (nwG (nwG (nwG (nwG (nwG (nwG (nwG (nwG (nwG (nwG (nwG (nwG (nwG (nwG (L, kd, ln, b + 1) 1 572) 1 572) 1 190) 1 200) 1 572) 1 4) 1 4) 1 16) 1 16) 1 12) 1 4) 1 4) 1 160) 1 4) 1 4)) (t := 1) (m := 4) (a := (b + 16)) rfl
  refine g_prR hC hin fw_9_33 (by decide) rfl rfl rfl h151.1 dX9_init_144 flX9_55 ?_
  have hb168 := (up2_self (x := b) (k := 33) (v := some (b + 16))).trans (congrArg (fun r => va_up r 33 (some (b + 16))) hb150)
  refine g_aload_n hC dX9_init_147 (j := 0) rfl rfl ?_
  refine g_bipush hC dX9_init_148 bc_30 ?_
  refine g_newI hC hR (m0 := 30) (by decide) (by decide) (Nat.le_of_ble_eq_true rfl) (Nat.le_of_ble_eq_true rfl) (Nat.le_of_ble_eq_true rfl) dX9_init_150 ac_i (a0 := (b + 17)) rfl ?_
  have h169 := ol_old (t := 1) (m := 30) (a := (b + 17)) rfl (by omega) h151
  have h170 := ol_old (t := 1) (m := 30) (a := (b + 17)) rfl (by omega) h152
  have h171 := ol_old (t := 1) (m := 30) (a := (b + 17)) rfl (by omega) h153
  have h172 := ol_old (t := 1) (m := 30) (a := (b + 17)) rfl (by omega) h154
  have h173 := ol_old (t := 1) (m := 30) (a := (b + 17)) rfl (by omega) h155
  have h174 := ol_old (t := 1) (m := 30) (a := (b + 17)) rfl (by omega) h156
  have h175 := ol_old (t := 1) (m := 30) (a := (b + 17)) rfl (by omega) h157
  have h176 := ol_old (t := 1) (m := 30) (a := (b + 17)) rfl (by omega) h158
  have h177 := ol_old (t := 1) (m := 30) (a := (b + 17)) rfl (by omega) h159
  have h178 := ol_old (t := 1) (m := 30) (a := (b + 17)) rfl (by omega) h160
  have h179 := ol_old (t := 1) (m := 30) (a := (b + 17)) rfl (by omega) h161
  have h180 := ol_old (t := 1) (m := 30) (a := (b + 17)) rfl (by omega) h162
  have h181 := ol_old (t := 1) (m := 30) (a := (b + 17)) rfl (by omega) h163
  have h182 := ol_old (t := 1) (m := 30) (a := (b + 17)) rfl (by omega) h164
  have h183 := ol_old (t := 1) (m := 30) (a := (b + 17)) rfl (by omega) h165
  have h184 := ol_old (t := 1) (m := 30) (a := (b + 17)) rfl (by omega) h166
  have h185 := ol_old (t := 1) (m := 30) (a := (b + 17)) rfl (by omega) h167
  have h186 := ol_new (G := (nwG (nwG (nwG (nwG (nwG (nwG (nwG (nwG (nwG (nwG (nwG (nwG (nwG (nwG (nwG (nwG (L, kd, ln, b + 1) 1 572) 1 572) 1 190) 1 200) 1 572) 1 4) 1 4) 1 16) 1 16) 1 12) 1 4) 1 4) 1 160) 1 4) 1 4) 1 4)) (t := 1) (m := 30) (a := (b + 17)) rfl
  refine g_prR hC hin fw_9_34 (by decide) rfl rfl rfl h169.1 dX9_init_152 flX9_58 ?_
  have hb187 := (up2_self (x := b) (k := 34) (v := some (b + 17))).trans (congrArg (fun r => va_up r 34 (some (b + 17))) hb168)
  refine g_aload_n hC dX9_init_155 (j := 0) rfl rfl ?_
  refine g_getW hC fr_9_0 h169.1 (b := (b + 1)) ((congrFun hb187 0).trans (by simp [va_up])) dX9_init_156 flX9_7 ?_
  refine g_iconst hC dX9_init_159 ic_2 ?_
  refine g_bipush hC dX9_init_160 bc_12 ?_
  refine g_iastK hC h170.1 h170.2 (i0 := 2) (by decide) (by decide) dX9_init_162 ?_
  refine g_aload_n hC dX9_init_163 (j := 0) rfl rfl ?_
  refine g_getW hC fr_9_0 h169.1 (b := (b + 1)) ((congrFun hb187 0).trans (by simp [va_up])) dX9_init_164 flX9_7 ?_
  refine g_iconst hC dX9_init_167 ic_4 ?_
  refine g_iconst hC dX9_init_168 ic_1 ?_
  refine g_iastK hC h170.1 h170.2 (i0 := 4) (by decide) (by decide) dX9_init_169 ?_
  refine g_iconst hC dX9_init_170 ic_0 ?_
  refine g_istore_n hC (n0 := 2) (lv' := [(1, .int 0), (0, .ref b)]) dX9_init_171 rfl (Nat.le_of_ble_eq_true rfl) hL rfl ?_
  refine g_iload_n hC dX9_init_172 (j := 0) rfl rfl ?_
  refine g_bipush hC dX9_init_173 bc_16 ?_
  refine g_cgeF hC dX9_init_175 (by decide) ?_
  refine g_aload_n hC dX9_init_178 (j := 1) rfl rfl ?_
  refine g_getW hC fr_9_0 h169.1 (b := (b + 1)) ((congrFun hb187 0).trans (by simp [va_up])) dX9_init_179 flX9_7 ?_
  refine g_bipush hC dX9_init_182 bc_50 ?_
  refine g_iload_n hC dX9_init_184 (j := 0) rfl rfl ?_
  refine g_iadd hC dX9_init_185 ?_
  refine g_bipush hC dX9_init_186 bc_9 ?_
  refine g_iastK hC h170.1 h170.2 (i0 := 50) (by decide) (by decide) dX9_init_188 ?_
  refine g_iinc hC (n0 := 2) (j := 0) (v := 1) (lv' := [(1, .int 1), (0, .ref b)]) dX9_init_189 rfl (by decide) (Nat.le_of_ble_eq_true rfl) hL rfl ?_
  refine g_goto hC dX9_init_192 ?_
  refine g_iload_n hC dX9_init_172 (j := 0) rfl rfl ?_
  refine g_bipush hC dX9_init_173 bc_16 ?_
  refine g_cgeF hC dX9_init_175 (by decide) ?_
  refine g_aload_n hC dX9_init_178 (j := 1) rfl rfl ?_
  refine g_getW hC fr_9_0 h169.1 (b := (b + 1)) ((congrFun hb187 0).trans (by simp [va_up])) dX9_init_179 flX9_7 ?_
  refine g_bipush hC dX9_init_182 bc_50 ?_
  refine g_iload_n hC dX9_init_184 (j := 0) rfl rfl ?_
  refine g_iadd hC dX9_init_185 ?_
  refine g_bipush hC dX9_init_186 bc_9 ?_
  refine g_iastK hC h170.1 h170.2 (i0 := 51) (by decide) (by decide) dX9_init_188 ?_
  refine g_iinc hC (n0 := 2) (j := 0) (v := 2) (lv' := [(1, .int 2), (0, .ref b)]) dX9_init_189 rfl (by decide) (Nat.le_of_ble_eq_true rfl) hL rfl ?_
  refine g_goto hC dX9_init_192 ?_
  refine g_iload_n hC dX9_init_172 (j := 0) rfl rfl ?_
  refine g_bipush hC dX9_init_173 bc_16 ?_
  refine g_cgeF hC dX9_init_175 (by decide) ?_
  refine g_aload_n hC dX9_init_178 (j := 1) rfl rfl ?_
  refine g_getW hC fr_9_0 h169.1 (b := (b + 1)) ((congrFun hb187 0).trans (by simp [va_up])) dX9_init_179 flX9_7 ?_
  refine g_bipush hC dX9_init_182 bc_50 ?_
  refine g_iload_n hC dX9_init_184 (j := 0) rfl rfl ?_
  refine g_iadd hC dX9_init_185 ?_
  refine g_bipush hC dX9_init_186 bc_9 ?_
  refine g_iastK hC h170.1 h170.2 (i0 := 52) (by decide) (by decide) dX9_init_188 ?_
  refine g_iinc hC (n0 := 2) (j := 0) (v := 3) (lv' := [(1, .int 3), (0, .ref b)]) dX9_init_189 rfl (by decide) (Nat.le_of_ble_eq_true rfl) hL rfl ?_
  refine g_goto hC dX9_init_192 ?_
  refine g_iload_n hC dX9_init_172 (j := 0) rfl rfl ?_
  refine g_bipush hC dX9_init_173 bc_16 ?_
  refine g_cgeF hC dX9_init_175 (by decide) ?_
  refine g_aload_n hC dX9_init_178 (j := 1) rfl rfl ?_
  refine g_getW hC fr_9_0 h169.1 (b := (b + 1)) ((congrFun hb187 0).trans (by simp [va_up])) dX9_init_179 flX9_7 ?_
  refine g_bipush hC dX9_init_182 bc_50 ?_
  refine g_iload_n hC dX9_init_184 (j := 0) rfl rfl ?_
  refine g_iadd hC dX9_init_185 ?_
  refine g_bipush hC dX9_init_186 bc_9 ?_
  refine g_iastK hC h170.1 h170.2 (i0 := 53) (by decide) (by decide) dX9_init_188 ?_
  refine g_iinc hC (n0 := 2) (j := 0) (v := 4) (lv' := [(1, .int 4), (0, .ref b)]) dX9_init_189 rfl (by decide) (Nat.le_of_ble_eq_true rfl) hL rfl ?_
  refine g_goto hC dX9_init_192 ?_
  refine g_iload_n hC dX9_init_172 (j := 0) rfl rfl ?_
  refine g_bipush hC dX9_init_173 bc_16 ?_
  refine g_cgeF hC dX9_init_175 (by decide) ?_
  refine g_aload_n hC dX9_init_178 (j := 1) rfl rfl ?_
  refine g_getW hC fr_9_0 h169.1 (b := (b + 1)) ((congrFun hb187 0).trans (by simp [va_up])) dX9_init_179 flX9_7 ?_
  refine g_bipush hC dX9_init_182 bc_50 ?_
  refine g_iload_n hC dX9_init_184 (j := 0) rfl rfl ?_
  refine g_iadd hC dX9_init_185 ?_
  refine g_bipush hC dX9_init_186 bc_9 ?_
  refine g_iastK hC h170.1 h170.2 (i0 := 54) (by decide) (by decide) dX9_init_188 ?_
  refine g_iinc hC (n0 := 2) (j := 0) (v := 5) (lv' := [(1, .int 5), (0, .ref b)]) dX9_init_189 rfl (by decide) (Nat.le_of_ble_eq_true rfl) hL rfl ?_
  refine g_goto hC dX9_init_192 ?_
  refine g_iload_n hC dX9_init_172 (j := 0) rfl rfl ?_
  refine g_bipush hC dX9_init_173 bc_16 ?_
  refine g_cgeF hC dX9_init_175 (by decide) ?_
  refine g_aload_n hC dX9_init_178 (j := 1) rfl rfl ?_
  refine g_getW hC fr_9_0 h169.1 (b := (b + 1)) ((congrFun hb187 0).trans (by simp [va_up])) dX9_init_179 flX9_7 ?_
  refine g_bipush hC dX9_init_182 bc_50 ?_
  refine g_iload_n hC dX9_init_184 (j := 0) rfl rfl ?_
  refine g_iadd hC dX9_init_185 ?_
  refine g_bipush hC dX9_init_186 bc_9 ?_
  refine g_iastK hC h170.1 h170.2 (i0 := 55) (by decide) (by decide) dX9_init_188 ?_
  refine g_iinc hC (n0 := 2) (j := 0) (v := 6) (lv' := [(1, .int 6), (0, .ref b)]) dX9_init_189 rfl (by decide) (Nat.le_of_ble_eq_true rfl) hL rfl ?_
  refine g_goto hC dX9_init_192 ?_
  refine g_iload_n hC dX9_init_172 (j := 0) rfl rfl ?_
  refine g_bipush hC dX9_init_173 bc_16 ?_
  refine g_cgeF hC dX9_init_175 (by decide) ?_
  refine g_aload_n hC dX9_init_178 (j := 1) rfl rfl ?_
  refine g_getW hC fr_9_0 h169.1 (b := (b + 1)) ((congrFun hb187 0).trans (by simp [va_up])) dX9_init_179 flX9_7 ?_
  refine g_bipush hC dX9_init_182 bc_50 ?_
  refine g_iload_n hC dX9_init_184 (j := 0) rfl rfl ?_
  refine g_iadd hC dX9_init_185 ?_
  refine g_bipush hC dX9_init_186 bc_9 ?_
  refine g_iastK hC h170.1 h170.2 (i0 := 56) (by decide) (by decide) dX9_init_188 ?_
  refine g_iinc hC (n0 := 2) (j := 0) (v := 7) (lv' := [(1, .int 7), (0, .ref b)]) dX9_init_189 rfl (by decide) (Nat.le_of_ble_eq_true rfl) hL rfl ?_
  refine g_goto hC dX9_init_192 ?_
  refine g_iload_n hC dX9_init_172 (j := 0) rfl rfl ?_
  refine g_bipush hC dX9_init_173 bc_16 ?_
  refine g_cgeF hC dX9_init_175 (by decide) ?_
  refine g_aload_n hC dX9_init_178 (j := 1) rfl rfl ?_
  refine g_getW hC fr_9_0 h169.1 (b := (b + 1)) ((congrFun hb187 0).trans (by simp [va_up])) dX9_init_179 flX9_7 ?_
  refine g_bipush hC dX9_init_182 bc_50 ?_
  refine g_iload_n hC dX9_init_184 (j := 0) rfl rfl ?_
  refine g_iadd hC dX9_init_185 ?_
  refine g_bipush hC dX9_init_186 bc_9 ?_
  refine g_iastK hC h170.1 h170.2 (i0 := 57) (by decide) (by decide) dX9_init_188 ?_
  refine g_iinc hC (n0 := 2) (j := 0) (v := 8) (lv' := [(1, .int 8), (0, .ref b)]) dX9_init_189 rfl (by decide) (Nat.le_of_ble_eq_true rfl) hL rfl ?_
  refine g_goto hC dX9_init_192 ?_
  refine g_iload_n hC dX9_init_172 (j := 0) rfl rfl ?_
  refine g_bipush hC dX9_init_173 bc_16 ?_
  refine g_cgeF hC dX9_init_175 (by decide) ?_
  refine g_aload_n hC dX9_init_178 (j := 1) rfl rfl ?_
  refine g_getW hC fr_9_0 h169.1 (b := (b + 1)) ((congrFun hb187 0).trans (by simp [va_up])) dX9_init_179 flX9_7 ?_
  refine g_bipush hC dX9_init_182 bc_50 ?_
  refine g_iload_n hC dX9_init_184 (j := 0) rfl rfl ?_
  refine g_iadd hC dX9_init_185 ?_
  refine g_bipush hC dX9_init_186 bc_9 ?_
  refine g_iastK hC h170.1 h170.2 (i0 := 58) (by decide) (by decide) dX9_init_188 ?_
  refine g_iinc hC (n0 := 2) (j := 0) (v := 9) (lv' := [(1, .int 9), (0, .ref b)]) dX9_init_189 rfl (by decide) (Nat.le_of_ble_eq_true rfl) hL rfl ?_
  refine g_goto hC dX9_init_192 ?_
  refine g_iload_n hC dX9_init_172 (j := 0) rfl rfl ?_
  refine g_bipush hC dX9_init_173 bc_16 ?_
  refine g_cgeF hC dX9_init_175 (by decide) ?_
  refine g_aload_n hC dX9_init_178 (j := 1) rfl rfl ?_
  refine g_getW hC fr_9_0 h169.1 (b := (b + 1)) ((congrFun hb187 0).trans (by simp [va_up])) dX9_init_179 flX9_7 ?_
  refine g_bipush hC dX9_init_182 bc_50 ?_
  refine g_iload_n hC dX9_init_184 (j := 0) rfl rfl ?_
  refine g_iadd hC dX9_init_185 ?_
  refine g_bipush hC dX9_init_186 bc_9 ?_
  refine g_iastK hC h170.1 h170.2 (i0 := 59) (by decide) (by decide) dX9_init_188 ?_
  refine g_iinc hC (n0 := 2) (j := 0) (v := 10) (lv' := [(1, .int 10), (0, .ref b)]) dX9_init_189 rfl (by decide) (Nat.le_of_ble_eq_true rfl) hL rfl ?_
  refine g_goto hC dX9_init_192 ?_
  refine g_iload_n hC dX9_init_172 (j := 0) rfl rfl ?_
  refine g_bipush hC dX9_init_173 bc_16 ?_
  refine g_cgeF hC dX9_init_175 (by decide) ?_
  refine g_aload_n hC dX9_init_178 (j := 1) rfl rfl ?_
  refine g_getW hC fr_9_0 h169.1 (b := (b + 1)) ((congrFun hb187 0).trans (by simp [va_up])) dX9_init_179 flX9_7 ?_
  refine g_bipush hC dX9_init_182 bc_50 ?_
  refine g_iload_n hC dX9_init_184 (j := 0) rfl rfl ?_
  refine g_iadd hC dX9_init_185 ?_
  refine g_bipush hC dX9_init_186 bc_9 ?_
  refine g_iastK hC h170.1 h170.2 (i0 := 60) (by decide) (by decide) dX9_init_188 ?_
  refine g_iinc hC (n0 := 2) (j := 0) (v := 11) (lv' := [(1, .int 11), (0, .ref b)]) dX9_init_189 rfl (by decide) (Nat.le_of_ble_eq_true rfl) hL rfl ?_
  refine g_goto hC dX9_init_192 ?_
  refine g_iload_n hC dX9_init_172 (j := 0) rfl rfl ?_
  refine g_bipush hC dX9_init_173 bc_16 ?_
  refine g_cgeF hC dX9_init_175 (by decide) ?_
  refine g_aload_n hC dX9_init_178 (j := 1) rfl rfl ?_
  refine g_getW hC fr_9_0 h169.1 (b := (b + 1)) ((congrFun hb187 0).trans (by simp [va_up])) dX9_init_179 flX9_7 ?_
  refine g_bipush hC dX9_init_182 bc_50 ?_
  refine g_iload_n hC dX9_init_184 (j := 0) rfl rfl ?_
  refine g_iadd hC dX9_init_185 ?_
  refine g_bipush hC dX9_init_186 bc_9 ?_
  refine g_iastK hC h170.1 h170.2 (i0 := 61) (by decide) (by decide) dX9_init_188 ?_
  refine g_iinc hC (n0 := 2) (j := 0) (v := 12) (lv' := [(1, .int 12), (0, .ref b)]) dX9_init_189 rfl (by decide) (Nat.le_of_ble_eq_true rfl) hL rfl ?_
  refine g_goto hC dX9_init_192 ?_
  refine g_iload_n hC dX9_init_172 (j := 0) rfl rfl ?_
  refine g_bipush hC dX9_init_173 bc_16 ?_
  refine g_cgeF hC dX9_init_175 (by decide) ?_
  refine g_aload_n hC dX9_init_178 (j := 1) rfl rfl ?_
  refine g_getW hC fr_9_0 h169.1 (b := (b + 1)) ((congrFun hb187 0).trans (by simp [va_up])) dX9_init_179 flX9_7 ?_
  refine g_bipush hC dX9_init_182 bc_50 ?_
  refine g_iload_n hC dX9_init_184 (j := 0) rfl rfl ?_
  refine g_iadd hC dX9_init_185 ?_
  refine g_bipush hC dX9_init_186 bc_9 ?_
  refine g_iastK hC h170.1 h170.2 (i0 := 62) (by decide) (by decide) dX9_init_188 ?_
  refine g_iinc hC (n0 := 2) (j := 0) (v := 13) (lv' := [(1, .int 13), (0, .ref b)]) dX9_init_189 rfl (by decide) (Nat.le_of_ble_eq_true rfl) hL rfl ?_
  refine g_goto hC dX9_init_192 ?_
  refine g_iload_n hC dX9_init_172 (j := 0) rfl rfl ?_
  refine g_bipush hC dX9_init_173 bc_16 ?_
  refine g_cgeF hC dX9_init_175 (by decide) ?_
  refine g_aload_n hC dX9_init_178 (j := 1) rfl rfl ?_
  refine g_getW hC fr_9_0 h169.1 (b := (b + 1)) ((congrFun hb187 0).trans (by simp [va_up])) dX9_init_179 flX9_7 ?_
  refine g_bipush hC dX9_init_182 bc_50 ?_
  refine g_iload_n hC dX9_init_184 (j := 0) rfl rfl ?_
  refine g_iadd hC dX9_init_185 ?_
  refine g_bipush hC dX9_init_186 bc_9 ?_
  refine g_iastK hC h170.1 h170.2 (i0 := 63) (by decide) (by decide) dX9_init_188 ?_
  refine g_iinc hC (n0 := 2) (j := 0) (v := 14) (lv' := [(1, .int 14), (0, .ref b)]) dX9_init_189 rfl (by decide) (Nat.le_of_ble_eq_true rfl) hL rfl ?_
  refine g_goto hC dX9_init_192 ?_
  refine g_iload_n hC dX9_init_172 (j := 0) rfl rfl ?_
  refine g_bipush hC dX9_init_173 bc_16 ?_
  refine g_cgeF hC dX9_init_175 (by decide) ?_
  refine g_aload_n hC dX9_init_178 (j := 1) rfl rfl ?_
  refine g_getW hC fr_9_0 h169.1 (b := (b + 1)) ((congrFun hb187 0).trans (by simp [va_up])) dX9_init_179 flX9_7 ?_
  refine g_bipush hC dX9_init_182 bc_50 ?_
  refine g_iload_n hC dX9_init_184 (j := 0) rfl rfl ?_
  refine g_iadd hC dX9_init_185 ?_
  refine g_bipush hC dX9_init_186 bc_9 ?_
  refine g_iastK hC h170.1 h170.2 (i0 := 64) (by decide) (by decide) dX9_init_188 ?_
  refine g_iinc hC (n0 := 2) (j := 0) (v := 15) (lv' := [(1, .int 15), (0, .ref b)]) dX9_init_189 rfl (by decide) (Nat.le_of_ble_eq_true rfl) hL rfl ?_
  refine g_goto hC dX9_init_192 ?_
  refine g_iload_n hC dX9_init_172 (j := 0) rfl rfl ?_
  refine g_bipush hC dX9_init_173 bc_16 ?_
  refine g_cgeF hC dX9_init_175 (by decide) ?_
  refine g_aload_n hC dX9_init_178 (j := 1) rfl rfl ?_
  refine g_getW hC fr_9_0 h169.1 (b := (b + 1)) ((congrFun hb187 0).trans (by simp [va_up])) dX9_init_179 flX9_7 ?_
  refine g_bipush hC dX9_init_182 bc_50 ?_
  refine g_iload_n hC dX9_init_184 (j := 0) rfl rfl ?_
  refine g_iadd hC dX9_init_185 ?_
  refine g_bipush hC dX9_init_186 bc_9 ?_
  refine g_iastK hC h170.1 h170.2 (i0 := 65) (by decide) (by decide) dX9_init_188 ?_
  refine g_iinc hC (n0 := 2) (j := 0) (v := 16) (lv' := [(1, .int 16), (0, .ref b)]) dX9_init_189 rfl (by decide) (Nat.le_of_ble_eq_true rfl) hL rfl ?_
  refine g_goto hC dX9_init_192 ?_
  refine g_iload_n hC dX9_init_172 (j := 0) rfl rfl ?_
  refine g_bipush hC dX9_init_173 bc_16 ?_
  refine g_cgeT hC dX9_init_175 (by decide) ?_
  refine g_fin (a := b) (ci := 9) h169.1 (by decide) (fun k hk hne => ?_) ?_
  · refine (congrFun hb187 k).trans ?_
    match k, hk, hne with
    | 0, _, _ => simp [va_up, offT]
    | 1, _, _ => simp [va_up, offT]
    | 2, _, hne => exact absurd rfl hne
    | 3, _, _ => simp [va_up, offT]
    | 4, _, _ => simp [va_up, offT]
    | 5, _, hne => exact absurd rfl hne
    | 6, _, hne => exact absurd rfl hne
    | 7, _, hne => exact absurd rfl hne
    | 8, _, hne => exact absurd rfl hne
    | 9, _, hne => exact absurd rfl hne
    | 10, _, hne => exact absurd rfl hne
    | 11, _, hne => exact absurd rfl hne
    | 12, _, _ => simp [va_up, offT]
    | 13, _, _ => simp [va_up, offT]
    | 14, _, _ => simp [va_up, offT]
    | 15, _, hne => exact absurd rfl hne
    | 16, _, hne => exact absurd rfl hne
    | 17, _, hne => exact absurd rfl hne
    | 18, _, hne => exact absurd rfl hne
    | 19, _, hne => exact absurd rfl hne
    | 20, _, hne => exact absurd rfl hne
    | 21, _, hne => exact absurd rfl hne
    | 22, _, _ => simp [va_up, offT]
    | 23, _, _ => simp [va_up, offT]
    | 24, _, hne => exact absurd rfl hne
    | 25, _, hne => exact absurd rfl hne
    | 26, _, _ => simp [va_up, offT]
    | 27, _, hne => exact absurd rfl hne
    | 28, _, _ => simp [va_up, offT]
    | 29, _, _ => simp [va_up, offT]
    | 30, _, _ => simp [va_up, offT]
    | 31, _, _ => simp [va_up, offT]
    | 32, _, _ => simp [va_up, offT]
    | 33, _, _ => simp [va_up, offT]
    | 34, _, _ => simp [va_up, offT]
    | 35, _, hne => exact absurd rfl hne
    | 36, _, hne => exact absurd rfl hne
    | 37, _, hne => exact absurd rfl hne
    | 38, _, hne => exact absurd rfl hne
    | 39, _, hne => exact absurd rfl hne
    | k + 40, hk, _ => exact absurd hk (by simp [nfs])
  exact g_vretA hC hT (Nat.le_refl _) (Nat.le_refl _) dX9_init_195
def vX8_init (V : V2) (b : Nat) : V2 := (fillV (vX0_init (zV (zV (up2 (zV (vX5_init (zV (vX6_init (zV (vX2_init (zV (up2 (vX1_init (zV (vX1_init (zV V (b + 1)) (b + 1)) (b + 16)) (b + 16)) b 2 0) (b + 31)) (b + 31)) (b + 36)) (b + 36)) (b + 65)) (b + 65)) (b + 69)) b 7 0) (b + 71)) (b + 73)) (b + 73)) (b + 71) 4 (-1))
def rX8_init (R : R2) (b : Nat) : R2 := (up2 (rX0_init (zR (up2 (zR (up2 (up2 (zR (up2 (up2 (rX5_init (zR (up2 (rX6_init (zR (up2 (rX2_init (zR (up2 (rX1_init (zR (up2 (rX1_init (zR R (b + 1)) (b + 1)) b 0 (some (b + 1))) (b + 16)) (b + 16)) b 1 (some (b + 16))) (b + 31)) (b + 31)) b 3 (some (b + 31))) (b + 36)) (b + 36)) b 4 (some (b + 36))) (b + 65)) (b + 65)) b 5 (some (b + 65))) b 6 (some (b + 69))) (b + 70)) b 8 (some (b + 70))) b 9 (some (b + 71))) (b + 72)) b 10 (some (b + 72))) (b + 73)) (b + 73)) b 11 (some (b + 73)))
def gX8_init (G : G2) (b : Nat) : G2 := (finG (gX0_init (nwG (nwG (nwG (nwG (nwG (gX5_init (nwG (gX6_init (nwG (gX2_init (nwG (gX1_init (nwG (gX1_init (nwG G 31 0) (b + 1)) 31 0) (b + 16)) 32 0) (b + 31)) 36 0) (b + 36)) 35 0) (b + 65)) 1 12) 3 4) 1 4) 3 4) 30 0) (b + 73)) b 18)
theorem geX8_init (G : G2) (b : Nat) : GE G (gX8_init G b) := by
  simp only [gX8_init]
  exact ge_fin (GE.tr (ge_nw (ge_nw (ge_nw (ge_nw (ge_nw (GE.tr (ge_nw (GE.tr (ge_nw (GE.tr (ge_nw (GE.tr (ge_nw (GE.tr (ge_nw (GE.rf G)) (geX1_init _ _))) (geX1_init _ _))) (geX2_init _ _))) (geX6_init _ _))) (geX5_init _ _))))))) (geX0_init _ _))
theorem olX8_init {G : G2} {b x t m : Nat} (hb : G.2.2.2 = b + 1) (hx : x < b) (h : ownL G x t m) : ownL (gX8_init G b) x t m := by
  obtain ⟨L, kd, ln, n⟩ := G
  cases hb
  exact ol_fin (by omega) (olX0_init (b := (b + 73)) rfl (by omega) (ol_old (a := b + 73) rfl (by omega) (ol_old (a := b + 72) rfl (by omega) (ol_old (a := b + 71) rfl (by omega) (ol_old (a := b + 70) rfl (by omega) (ol_old (a := b + 69) rfl (by omega) (olX5_init (b := (b + 65)) rfl (by omega) (ol_old (a := b + 65) rfl (by omega) (olX6_init (b := (b + 36)) rfl (by omega) (ol_old (a := b + 36) rfl (by omega) (olX2_init (b := (b + 31)) rfl (by omega) (ol_old (a := b + 31) rfl (by omega) (olX1_init (b := (b + 16)) rfl (by omega) (ol_old (a := b + 16) rfl (by omega) (olX1_init (b := (b + 1)) rfl (by omega) (ol_old (a := b + 1) rfl (by omega) (h)))))))))))))))))
theorem odX8_init {G : G2} {b t m : Nat} (hb : G.2.2.2 = b + 1) (h : ownL G b t m) : ownL (gX8_init G b) b 18 m := by
  obtain ⟨L, kd, ln, n⟩ := G
  cases hb
  exact ol_done (olX0_init (b := (b + 73)) rfl (by omega) (ol_old (a := b + 73) rfl (by omega) (ol_old (a := b + 72) rfl (by omega) (ol_old (a := b + 71) rfl (by omega) (ol_old (a := b + 70) rfl (by omega) (ol_old (a := b + 69) rfl (by omega) (olX5_init (b := (b + 65)) rfl (by omega) (ol_old (a := b + 65) rfl (by omega) (olX6_init (b := (b + 36)) rfl (by omega) (ol_old (a := b + 36) rfl (by omega) (olX2_init (b := (b + 31)) rfl (by omega) (ol_old (a := b + 31) rfl (by omega) (olX1_init (b := (b + 16)) rfl (by omega) (ol_old (a := b + 16) rfl (by omega) (olX1_init (b := (b + 1)) rfl (by omega) (ol_old (a := b + 1) rfl (by omega) (h)))))))))))))))))
theorem rnX8_init {R : R2} {b x : Nat} (hx : x < b) : rX8_init R b x = R x := by
  unfold rX8_init
  exact (up2_ne _ (by omega)).trans ((rnX0_init (by omega)).trans ((va_up_ne _ _ (by omega)).trans ((up2_ne _ (by omega)).trans ((va_up_ne _ _ (by omega)).trans ((up2_ne _ (by omega)).trans ((up2_ne _ (by omega)).trans ((va_up_ne _ _ (by omega)).trans ((up2_ne _ (by omega)).trans ((up2_ne _ (by omega)).trans ((rnX5_init (by omega)).trans ((va_up_ne _ _ (by omega)).trans ((up2_ne _ (by omega)).trans ((rnX6_init (by omega)).trans ((va_up_ne _ _ (by omega)).trans ((up2_ne _ (by omega)).trans ((rnX2_init (by omega)).trans ((va_up_ne _ _ (by omega)).trans ((up2_ne _ (by omega)).trans ((rnX1_init (by omega)).trans ((va_up_ne _ _ (by omega)).trans ((up2_ne _ (by omega)).trans ((rnX1_init (by omega)).trans ((va_up_ne _ _ (by omega)).trans (rfl))))))))))))))))))))))))
theorem vnX8_init {V : V2} {b x : Nat} (hx : x < b) : vX8_init V b x = V x := by
  unfold vX8_init
  exact (va_up_ne _ _ (by omega)).trans ((vnX0_init (by omega)).trans ((va_up_ne _ _ (by omega)).trans ((va_up_ne _ _ (by omega)).trans ((up2_ne _ (by omega)).trans ((va_up_ne _ _ (by omega)).trans ((vnX5_init (by omega)).trans ((va_up_ne _ _ (by omega)).trans ((vnX6_init (by omega)).trans ((va_up_ne _ _ (by omega)).trans ((vnX2_init (by omega)).trans ((va_up_ne _ _ (by omega)).trans ((up2_ne _ (by omega)).trans ((vnX1_init (by omega)).trans ((va_up_ne _ _ (by omega)).trans ((vnX1_init (by omega)).trans ((va_up_ne _ _ (by omega)).trans (rfl)))))))))))))))))
set_option maxHeartbeats 8000000 in
set_option maxRecDepth 100000 in
theorem kX8_init {l : Launch} {D : Dx} {L : List Nat} {kd ln : Nat → Nat} {V : V2} {R : R2} {b : Nat} (ho : own (L, kd, ln, b + 1) b 38) : Con l yX8_init cX8_init 1 none (rmN 3 74 1009) D (L, kd, ln, b + 1) V R [.ref b] (none, vX8_init V b, rX8_init R b, gX8_init (L, kd, ln, b + 1) b, 74, 1009) := by
  refine Con.mk RX8 (by decide) rfl (Nat.le_of_ble_eq_true rfl) (fun C _ hR hT _ _ hL hC hin => ?_)
  have h0 : ownL (L, kd, ln, b + 1) b 38 (ln b) := ⟨ho, rfl⟩
  have hb0 : R b = R b := rfl
  refine id (α := True → _) ?_ trivial
  refine g_aload_n hC dX8_init_0 (j := 0) rfl rfl ?_
  refine g_objI hC hR (Nat.le_of_ble_eq_true rfl) dX8_init_1 mlX8_1 (Nat.le_of_ble_eq_true rfl) ?_
  refine g_aload_n hC dX8_init_4 (j := 0) rfl rfl ?_
  refine g_new hC hR fn_1 (Nat.le_of_ble_eq_true rfl) (Nat.le_of_ble_eq_true rfl) dX8_init_5 klX8_7 (a0 := (b + 1)) rfl ?_
  have h1 := ol_old (t := 31) (m := 0) (a := (b + 1)) rfl (by omega) h0
  have h2 := ol_new (G := (L, kd, ln, b + 1)) (t := 31) (m := 0) (a := (b + 1)) rfl
  have hb3 := (va_up_ne (k := (b + 1)) _ (fun _ => (none : Option Nat)) (by omega)).trans hb0
  refine g_dup hC dX8_init_8 rfl ?_
  refine g_runI hC hR ⟨Nat.le_of_ble_eq_true rfl, Nat.le_of_ble_eq_true rfl⟩ mwX1_init rfl miX1_init mlX8_9 (kX1_init (b := (b + 1)) h2.1) (Nat.le_of_ble_eq_true rfl) rfl (av := []) (st := [.ref (b + 1), .ref b]) rfl (Nat.le_of_ble_eq_true rfl) rfl rfl (geX1_init _ _) dX8_init_9 ?_
  have h4 := olX1_init (b := (b + 1)) rfl (by omega) h1
  have h5 := odX1_init (b := (b + 1)) rfl h2
  have hb6 := (rnX1_init (b := (b + 1)) (by omega)).trans hb3
  refine g_prR hC hin fw_8_0 (by decide) rfl rfl rfl h4.1 dX8_init_12 flX8_10 ?_
  have hb7 := (up2_self (x := b) (k := 0) (v := some (b + 1))).trans (congrArg (fun r => va_up r 0 (some (b + 1))) hb6)
  refine g_aload_n hC dX8_init_15 (j := 0) rfl rfl ?_
  refine g_new hC hR fn_1 (Nat.le_of_ble_eq_true rfl) (Nat.le_of_ble_eq_true rfl) dX8_init_16 klX8_7 (a0 := (b + 16)) rfl ?_
  have h8 := ol_old (t := 31) (m := 0) (a := (b + 16)) rfl (by omega) h4
  have h9 := ol_old (t := 31) (m := 0) (a := (b + 16)) rfl (by omega) h5
  have h10 := ol_new (G := (gX1_init (nwG (L, kd, ln, b + 1) 31 0) (b + 1))) (t := 31) (m := 0) (a := (b + 16)) rfl
  have hb11 := (va_up_ne (k := (b + 16)) _ (fun _ => (none : Option Nat)) (by omega)).trans hb7
  refine g_dup hC dX8_init_19 rfl ?_
  refine g_runI hC hR ⟨Nat.le_of_ble_eq_true rfl, Nat.le_of_ble_eq_true rfl⟩ mwX1_init rfl miX1_init mlX8_9 (kX1_init (b := (b + 16)) h10.1) (Nat.le_of_ble_eq_true rfl) rfl (av := []) (st := [.ref (b + 16), .ref b]) rfl (Nat.le_of_ble_eq_true rfl) rfl rfl (geX1_init _ _) dX8_init_20 ?_
  have h12 := olX1_init (b := (b + 16)) rfl (by omega) h8
  have h13 := olX1_init (b := (b + 16)) rfl (by omega) h9
  have h14 := odX1_init (b := (b + 16)) rfl h10
  have hb15 := (rnX1_init (b := (b + 16)) (by omega)).trans hb11
  refine g_prR hC hin fw_8_1 (by decide) rfl rfl rfl h12.1 dX8_init_23 flX8_16 ?_
  have hb16 := (up2_self (x := b) (k := 1) (v := some (b + 16))).trans (congrArg (fun r => va_up r 1 (some (b + 16))) hb15)
  refine g_aload_n hC dX8_init_26 (j := 0) rfl rfl ?_
  refine g_iconst hC dX8_init_27 ic_0 ?_
  refine g_prI hC hin fw_8_2 rfl rfl rfl rfl h12.1 dX8_init_28 flX8_19 ?_
  refine g_aload_n hC dX8_init_31 (j := 0) rfl rfl ?_
  refine g_new hC hR fn_2 (Nat.le_of_ble_eq_true rfl) (Nat.le_of_ble_eq_true rfl) dX8_init_32 klX8_23 (a0 := (b + 31)) rfl ?_
  have h17 := ol_old (t := 32) (m := 0) (a := (b + 31)) rfl (by omega) h12
  have h18 := ol_old (t := 32) (m := 0) (a := (b + 31)) rfl (by omega) h13
  have h19 := ol_old (t := 32) (m := 0) (a := (b + 31)) rfl (by omega) h14
  have h20 := ol_new (G := (gX1_init (nwG (gX1_init (nwG (L, kd, ln, b + 1) 31 0) (b + 1)) 31 0) (b + 16))) (t := 32) (m := 0) (a := (b + 31)) rfl
  have hb21 := (va_up_ne (k := (b + 31)) _ (fun _ => (none : Option Nat)) (by omega)).trans hb16
  refine g_dup hC dX8_init_35 rfl ?_
  refine g_runIN hC hR ⟨Nat.le_of_ble_eq_true rfl, Nat.le_of_ble_eq_true rfl⟩ mwX2_init rfl miX2_init mlX8_25 (kX2_init (b := (b + 31)) h20.1) (Nat.le_of_ble_eq_true rfl) rfl (av := []) (st := [.ref (b + 31), .ref b]) rfl (Nat.le_of_ble_eq_true rfl) rfl rfl (geX2_init _ _) dX8_init_36 ?_
  have h22 := olX2_init (b := (b + 31)) rfl (by omega) h17
  have h23 := olX2_init (b := (b + 31)) rfl (by omega) h18
  have h24 := olX2_init (b := (b + 31)) rfl (by omega) h19
  have h25 := odX2_init (b := (b + 31)) rfl h20
  have hb26 := (rnX2_init (b := (b + 31)) (by omega)).trans hb21
  refine g_prR hC hin fw_8_3 (by decide) rfl rfl rfl h22.1 dX8_init_39 flX8_26 ?_
  have hb27 := (up2_self (x := b) (k := 3) (v := some (b + 31))).trans (congrArg (fun r => va_up r 3 (some (b + 31))) hb26)
  refine g_aload_n hC dX8_init_42 (j := 0) rfl rfl ?_
  refine g_new hC hR fn_6 (Nat.le_of_ble_eq_true rfl) (Nat.le_of_ble_eq_true rfl) dX8_init_43 klX8_30 (a0 := (b + 36)) rfl ?_
  have h28 := ol_old (t := 36) (m := 0) (a := (b + 36)) rfl (by omega) h22
  have h29 := ol_old (t := 36) (m := 0) (a := (b + 36)) rfl (by omega) h23
  have h30 := ol_old (t := 36) (m := 0) (a := (b + 36)) rfl (by omega) h24
  have h31 := ol_old (t := 36) (m := 0) (a := (b + 36)) rfl (by omega) h25
  have h32 := ol_new (G := (gX2_init (nwG (gX1_init (nwG (gX1_init (nwG (L, kd, ln, b + 1) 31 0) (b + 1)) 31 0) (b + 16)) 32 0) (b + 31))) (t := 36) (m := 0) (a := (b + 36)) rfl
  have hb33 := (va_up_ne (k := (b + 36)) _ (fun _ => (none : Option Nat)) (by omega)).trans hb27
  refine g_dup hC dX8_init_46 rfl ?_
  refine g_runI hC hR ⟨Nat.le_of_ble_eq_true rfl, Nat.le_of_ble_eq_true rfl⟩ mwX6_init rfl miX6_init mlX8_32 (kX6_init (b := (b + 36)) h32.1) (Nat.le_of_ble_eq_true rfl) rfl (av := []) (st := [.ref (b + 36), .ref b]) rfl (Nat.le_of_ble_eq_true rfl) rfl rfl (geX6_init _ _) dX8_init_47 ?_
  have h34 := olX6_init (b := (b + 36)) rfl (by omega) h28
  have h35 := olX6_init (b := (b + 36)) rfl (by omega) h29
  have h36 := olX6_init (b := (b + 36)) rfl (by omega) h30
  have h37 := olX6_init (b := (b + 36)) rfl (by omega) h31
  have h38 := odX6_init (b := (b + 36)) rfl h32
  have hb39 := (rnX6_init (b := (b + 36)) (by omega)).trans hb33
  refine g_prR hC hin fw_8_4 (by decide) rfl rfl rfl h34.1 dX8_init_50 flX8_33 ?_
  have hb40 := (up2_self (x := b) (k := 4) (v := some (b + 36))).trans (congrArg (fun r => va_up r 4 (some (b + 36))) hb39)
  refine g_aload_n hC dX8_init_53 (j := 0) rfl rfl ?_
  refine g_new hC hR fn_5 (Nat.le_of_ble_eq_true rfl) (Nat.le_of_ble_eq_true rfl) dX8_init_54 klX8_37 (a0 := (b + 65)) rfl ?_
  have h41 := ol_old (t := 35) (m := 0) (a := (b + 65)) rfl (by omega) h34
  have h42 := ol_old (t := 35) (m := 0) (a := (b + 65)) rfl (by omega) h35
  have h43 := ol_old (t := 35) (m := 0) (a := (b + 65)) rfl (by omega) h36
  have h44 := ol_old (t := 35) (m := 0) (a := (b + 65)) rfl (by omega) h37
  have h45 := ol_old (t := 35) (m := 0) (a := (b + 65)) rfl (by omega) h38
  have h46 := ol_new (G := (gX6_init (nwG (gX2_init (nwG (gX1_init (nwG (gX1_init (nwG (L, kd, ln, b + 1) 31 0) (b + 1)) 31 0) (b + 16)) 32 0) (b + 31)) 36 0) (b + 36))) (t := 35) (m := 0) (a := (b + 65)) rfl
  have hb47 := (va_up_ne (k := (b + 65)) _ (fun _ => (none : Option Nat)) (by omega)).trans hb40
  refine g_dup hC dX8_init_57 rfl ?_
  refine g_runIN hC hR ⟨Nat.le_of_ble_eq_true rfl, Nat.le_of_ble_eq_true rfl⟩ mwX5_init rfl miX5_init mlX8_39 (kX5_init (b := (b + 65)) h46.1) (Nat.le_of_ble_eq_true rfl) rfl (av := []) (st := [.ref (b + 65), .ref b]) rfl (Nat.le_of_ble_eq_true rfl) rfl rfl (geX5_init _ _) dX8_init_58 ?_
  have h48 := olX5_init (b := (b + 65)) rfl (by omega) h41
  have h49 := olX5_init (b := (b + 65)) rfl (by omega) h42
  have h50 := olX5_init (b := (b + 65)) rfl (by omega) h43
  have h51 := olX5_init (b := (b + 65)) rfl (by omega) h44
  have h52 := olX5_init (b := (b + 65)) rfl (by omega) h45
  have h53 := odX5_init (b := (b + 65)) rfl h46
  have hb54 := (rnX5_init (b := (b + 65)) (by omega)).trans hb47
  refine g_prR hC hin fw_8_5 (by decide) rfl rfl rfl h48.1 dX8_init_61 flX8_40 ?_
  have hb55 := (up2_self (x := b) (k := 5) (v := some (b + 65))).trans (congrArg (fun r => va_up r 5 (some (b + 65))) hb54)
  refine g_aload_n hC dX8_init_64 (j := 0) rfl rfl ?_
  refine g_bipush hC dX8_init_65 bc_12 ?_
  refine g_newI hC hR (m0 := 12) (by decide) (by decide) (Nat.le_of_ble_eq_true rfl) (Nat.le_of_ble_eq_true rfl) (Nat.le_of_ble_eq_true rfl) dX8_init_67 ac_i (a0 := (b + 69)) rfl ?_
  have h56 := ol_old (t := 1) (m := 12) (a := (b + 69)) rfl (by omega) h48
  have h57 := ol_old (t := 1) (m := 12) (a := (b + 69)) rfl (by omega) h49
  have h58 := ol_old (t := 1) (m := 12) (a := (b + 69)) rfl (by omega) h50
  have h59 := ol_old (t := 1) (m := 12) (a := (b + 69)) rfl (by omega) h51
  have h60 := ol_old (t := 1) (m := 12) (a := (b + 69)) rfl (by omega) h52
  have h61 := ol_old (t := 1) (m := 12) (a := (b + 69)) rfl (by omega) h53
  have h62 := ol_new (G := (gX5_init (nwG (gX6_init (nwG (gX2_init (nwG (gX1_init (nwG (gX1_init (nwG (L, kd, ln, b + 1) 31 0) (b + 1)) 31 0) (b + 16)) 32 0) (b + 31)) 36 0) (b + 36)) 35 0) (b + 65))) (t := 1) (m := 12) (a := (b + 69)) rfl
  refine g_prR hC hin fw_8_6 (by decide) rfl rfl rfl h56.1 dX8_init_69 flX8_44 ?_
  have hb63 := (up2_self (x := b) (k := 6) (v := some (b + 69))).trans (congrArg (fun r => va_up r 6 (some (b + 69))) hb55)
  refine g_aload_n hC dX8_init_72 (j := 0) rfl rfl ?_
  refine g_iconst hC dX8_init_73 ic_0 ?_
  refine g_prI hC hin fw_8_7 rfl rfl (vp_nar_int _) rfl h56.1 dX8_init_74 flX8_48 ?_
  refine g_aload_n hC dX8_init_77 (j := 0) rfl rfl ?_
  refine g_iconst hC dX8_init_78 ic_4 ?_
  refine g_newR hC hR (t := 3) (m0 := 4) ⟨by decide, by decide⟩ rfl (by decide) (by decide) (Nat.le_of_ble_eq_true rfl) (Nat.le_of_ble_eq_true rfl) (Nat.le_of_ble_eq_true rfl) dX8_init_79 klX8_52 ao_3 (a0 := (b + 70)) rfl ?_
  have h64 := ol_old (t := 3) (m := 4) (a := (b + 70)) rfl (by omega) h56
  have h65 := ol_old (t := 3) (m := 4) (a := (b + 70)) rfl (by omega) h57
  have h66 := ol_old (t := 3) (m := 4) (a := (b + 70)) rfl (by omega) h58
  have h67 := ol_old (t := 3) (m := 4) (a := (b + 70)) rfl (by omega) h59
  have h68 := ol_old (t := 3) (m := 4) (a := (b + 70)) rfl (by omega) h60
  have h69 := ol_old (t := 3) (m := 4) (a := (b + 70)) rfl (by omega) h61
  have h70 := ol_old (t := 3) (m := 4) (a := (b + 70)) rfl (by omega) h62
  have h71 := ol_new (G := (nwG (gX5_init (nwG (gX6_init (nwG (gX2_init (nwG (gX1_init (nwG (gX1_init (nwG (L, kd, ln, b + 1) 31 0) (b + 1)) 31 0) (b + 16)) 32 0) (b + 31)) 36 0) (b + 36)) 35 0) (b + 65)) 1 12)) (t := 3) (m := 4) (a := (b + 70)) rfl
  have hb72 := (va_up_ne (k := (b + 70)) _ (fun _ => (none : Option Nat)) (by omega)).trans hb63
  refine g_prR hC hin fw_8_8 (by decide) rfl rfl rfl h64.1 dX8_init_82 flX8_54 ?_
  have hb73 := (up2_self (x := b) (k := 8) (v := some (b + 70))).trans (congrArg (fun r => va_up r 8 (some (b + 70))) hb72)
  refine g_aload_n hC dX8_init_85 (j := 0) rfl rfl ?_
  refine g_iconst hC dX8_init_86 ic_4 ?_
  refine g_newI hC hR (m0 := 4) (by decide) (by decide) (Nat.le_of_ble_eq_true rfl) (Nat.le_of_ble_eq_true rfl) (Nat.le_of_ble_eq_true rfl) dX8_init_87 ac_i (a0 := (b + 71)) rfl ?_
  have h74 := ol_old (t := 1) (m := 4) (a := (b + 71)) rfl (by omega) h64
  have h75 := ol_old (t := 1) (m := 4) (a := (b + 71)) rfl (by omega) h65
  have h76 := ol_old (t := 1) (m := 4) (a := (b + 71)) rfl (by omega) h66
  have h77 := ol_old (t := 1) (m := 4) (a := (b + 71)) rfl (by omega) h67
  have h78 := ol_old (t := 1) (m := 4) (a := (b + 71)) rfl (by omega) h68
  have h79 := ol_old (t := 1) (m := 4) (a := (b + 71)) rfl (by omega) h69
  have h80 := ol_old (t := 1) (m := 4) (a := (b + 71)) rfl (by omega) h70
  have h81 := ol_old (t := 1) (m := 4) (a := (b + 71)) rfl (by omega) h71
  have h82 := ol_new (G := (nwG (nwG (gX5_init (nwG (gX6_init (nwG (gX2_init (nwG (gX1_init (nwG (gX1_init (nwG (L, kd, ln, b + 1) 31 0) (b + 1)) 31 0) (b + 16)) 32 0) (b + 31)) 36 0) (b + 36)) 35 0) (b + 65)) 1 12) 3 4)) (t := 1) (m := 4) (a := (b + 71)) rfl
  refine g_prR hC hin fw_8_9 (by decide) rfl rfl rfl h74.1 dX8_init_89 flX8_58 ?_
  have hb83 := (up2_self (x := b) (k := 9) (v := some (b + 71))).trans (congrArg (fun r => va_up r 9 (some (b + 71))) hb73)
  refine g_aload_n hC dX8_init_92 (j := 0) rfl rfl ?_
  refine g_iconst hC dX8_init_93 ic_4 ?_
  refine g_newR hC hR (t := 3) (m0 := 4) ⟨by decide, by decide⟩ rfl (by decide) (by decide) (Nat.le_of_ble_eq_true rfl) (Nat.le_of_ble_eq_true rfl) (Nat.le_of_ble_eq_true rfl) dX8_init_94 klX8_52 ao_3 (a0 := (b + 72)) rfl ?_
  have h84 := ol_old (t := 3) (m := 4) (a := (b + 72)) rfl (by omega) h74
  have h85 := ol_old (t := 3) (m := 4) (a := (b + 72)) rfl (by omega) h75
  have h86 := ol_old (t := 3) (m := 4) (a := (b + 72)) rfl (by omega) h76
  have h87 := ol_old (t := 3) (m := 4) (a := (b + 72)) rfl (by omega) h77
  have h88 := ol_old (t := 3) (m := 4) (a := (b + 72)) rfl (by omega) h78
  have h89 := ol_old (t := 3) (m := 4) (a := (b + 72)) rfl (by omega) h79
  have h90 := ol_old (t := 3) (m := 4) (a := (b + 72)) rfl (by omega) h80
  have h91 := ol_old (t := 3) (m := 4) (a := (b + 72)) rfl (by omega) h81
  have h92 := ol_old (t := 3) (m := 4) (a := (b + 72)) rfl (by omega) h82
  have h93 := ol_new (G := (nwG (nwG (nwG (gX5_init (nwG (gX6_init (nwG (gX2_init (nwG (gX1_init (nwG (gX1_init (nwG (L, kd, ln, b + 1) 31 0) (b + 1)) 31 0) (b + 16)) 32 0) (b + 31)) 36 0) (b + 36)) 35 0) (b + 65)) 1 12) 3 4) 1 4)) (t := 3) (m := 4) (a := (b + 72)) rfl
  have hb94 := (va_up_ne (k := (b + 72)) _ (fun _ => (none : Option Nat)) (by omega)).trans hb83
  refine g_prR hC hin fw_8_10 (by decide) rfl rfl rfl h84.1 dX8_init_97 flX8_61 ?_
  have hb95 := (up2_self (x := b) (k := 10) (v := some (b + 72))).trans (congrArg (fun r => va_up r 10 (some (b + 72))) hb94)
  refine g_aload_n hC dX8_init_100 (j := 0) rfl rfl ?_
  refine g_new hC hR fn_0 (Nat.le_of_ble_eq_true rfl) (Nat.le_of_ble_eq_true rfl) dX8_init_101 klX8_64 (a0 := (b + 73)) rfl ?_
  have h96 := ol_old (t := 30) (m := 0) (a := (b + 73)) rfl (by omega) h84
  have h97 := ol_old (t := 30) (m := 0) (a := (b + 73)) rfl (by omega) h85
  have h98 := ol_old (t := 30) (m := 0) (a := (b + 73)) rfl (by omega) h86
  have h99 := ol_old (t := 30) (m := 0) (a := (b + 73)) rfl (by omega) h87
  have h100 := ol_old (t := 30) (m := 0) (a := (b + 73)) rfl (by omega) h88
  have h101 := ol_old (t := 30) (m := 0) (a := (b + 73)) rfl (by omega) h89
  have h102 := ol_old (t := 30) (m := 0) (a := (b + 73)) rfl (by omega) h90
  have h103 := ol_old (t := 30) (m := 0) (a := (b + 73)) rfl (by omega) h91
  have h104 := ol_old (t := 30) (m := 0) (a := (b + 73)) rfl (by omega) h92
  have h105 := ol_old (t := 30) (m := 0) (a := (b + 73)) rfl (by omega) h93
  have h106 := ol_new (G := (nwG (nwG (nwG (nwG (gX5_init (nwG (gX6_init (nwG (gX2_init (nwG (gX1_init (nwG (gX1_init (nwG (L, kd, ln, b + 1) 31 0) (b + 1)) 31 0) (b + 16)) 32 0) (b + 31)) 36 0) (b + 36)) 35 0) (b + 65)) 1 12) 3 4) 1 4) 3 4)) (t := 30) (m := 0) (a := (b + 73)) rfl
  have hb107 := (va_up_ne (k := (b + 73)) _ (fun _ => (none : Option Nat)) (by omega)).trans hb95
  refine g_dup hC dX8_init_104 rfl ?_
  refine g_runIN hC hR ⟨Nat.le_of_ble_eq_true rfl, Nat.le_of_ble_eq_true rfl⟩ mwX0_init rfl miX0_init mlX8_66 (kX0_init (b := (b + 73)) h106.1) (Nat.le_of_ble_eq_true rfl) rfl (av := []) (st := [.ref (b + 73), .ref b]) rfl (Nat.le_of_ble_eq_true rfl) rfl rfl (geX0_init _ _) dX8_init_105 ?_
  have h108 := olX0_init (b := (b + 73)) rfl (by omega) h96
  have h109 := olX0_init (b := (b + 73)) rfl (by omega) h97
  have h110 := olX0_init (b := (b + 73)) rfl (by omega) h98
  have h111 := olX0_init (b := (b + 73)) rfl (by omega) h99
  have h112 := olX0_init (b := (b + 73)) rfl (by omega) h100
  have h113 := olX0_init (b := (b + 73)) rfl (by omega) h101
  have h114 := olX0_init (b := (b + 73)) rfl (by omega) h102
  have h115 := olX0_init (b := (b + 73)) rfl (by omega) h103
  have h116 := olX0_init (b := (b + 73)) rfl (by omega) h104
  have h117 := olX0_init (b := (b + 73)) rfl (by omega) h105
  have h118 := odX0_init (b := (b + 73)) rfl h106
  have hb119 := (rnX0_init (b := (b + 73)) (by omega)).trans hb107
  refine g_prR hC hin fw_8_11 (by decide) rfl rfl rfl h108.1 dX8_init_108 flX8_67 ?_
  have hb120 := (up2_self (x := b) (k := 11) (v := some (b + 73))).trans (congrArg (fun r => va_up r 11 (some (b + 73))) hb119)
  refine g_aload_n hC dX8_init_111 (j := 0) rfl rfl ?_
  refine g_getW hC fr_8_9 h108.1 (b := (b + 71)) ((congrFun hb120 9).trans (by simp [va_up])) dX8_init_112 flX8_58 ?_
  refine g_iconst hC dX8_init_115 ic_m1 ?_
  refine fun _ => g_runS hC hR ⟨Nat.le_of_ble_eq_true rfl, Nat.le_of_ble_eq_true rfl⟩ mwJ7_fill_53178 ms_J7_fill_53178 mlX8_71 (kJ7_fill_53178 (n := 100) h116.1 (fill_p (m := 4) h116.2 (by decide) (by decide))) (Nat.le_of_ble_eq_true rfl) rfl (st := []) rfl (Nat.le_of_ble_eq_true rfl) rfl (GE.rf _) dX8_init_116 ?_
  refine id (α := True → _) ?_ trivial
  refine g_fin (a := b) (ci := 8) h108.1 (by decide) (fun k hk hne => ?_) ?_
  · refine (congrFun hb120 k).trans ?_
    match k, hk, hne with
    | 0, _, _ => simp [va_up, offT]
    | 1, _, _ => simp [va_up, offT]
    | 2, _, hne => exact absurd rfl hne
    | 3, _, _ => simp [va_up, offT]
    | 4, _, _ => simp [va_up, offT]
    | 5, _, _ => simp [va_up, offT]
    | 6, _, _ => simp [va_up, offT]
    | 7, _, hne => exact absurd rfl hne
    | 8, _, _ => simp [va_up, offT]
    | 9, _, _ => simp [va_up, offT]
    | 10, _, _ => simp [va_up, offT]
    | 11, _, _ => simp [va_up, offT]
    | k + 12, hk, _ => exact absurd hk (by simp [nfs])
  exact g_vretA hC hT (Nat.le_refl _) (Nat.le_refl _) dX8_init_119
